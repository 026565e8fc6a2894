/-! the constructor of BookShows -/
abbrev B0 : Bs := ((1, 0), (fun _ => 0), (fun _ _ => 0), (fun _ => 0), (fun _ => 0))
theorem C_init {h : Pic} {x : Nat} (hs : h x = some (ob 7 7 [vN, vN, vN, vN, vN, vN, vN, vN, vN])) : Meets yX7_init cX7_init 3 none 200 38 3211 [vR x] h (pV (fun h' => RC h' x 0 (fun _ => 0) 1 0 (fun _ => 0) (fun _ _ => 0) (fun _ => 0) (fun _ => 0) (fun _ => 0) (fun _ => B0) ∧ Kp SC h h')) := by
  refine Meets.of (plainFor_of_name (by decide)) (Nat.le_of_ble_eq_true rfl) (fun X C hX hN hA => ?_)
  refine r_aload_n C dX7_init_0 rfl ?_
  refine r_obj C dX7_init_1 mlX7_3 (by rw [hX]; exact Nat.le_of_ble_eq_true rfl) (by rw [hX]; exact Nat.le_of_ble_eq_true rfl) ?_
  refine r_aload_n C dX7_init_4 rfl ?_
  refine r_newA (ci := 6) (fs := [vN, vI 0]) C 1 dX7_init_5 clX7_9 inX6 itX6 iX6 tyX6 tyX6_ok rfl rfl (fun j hj => by rcases (show j = 0 ∨ j = 1 by omega) with rfl | rfl <;> rfl) (Rc trivial (Rc Rg0 (fun _ q => by cases q))) (by rw [hX]; exact Nat.le_of_ble_eq_true rfl) (by rw [hX]; exact Nat.le_of_ble_eq_true rfl) (fun pad h1 ep k1 => ?_)
  have hs := k1 _ _ _ hs (by first | omega | exact fun q => q)
  refine r_dup C dX7_init_8 ?_
  refine r_bipush C dX7_init_9 (by decide) ?_
  refine r_cI C dX7_init_11 mlX7_11 kX6_init (m_TinitK (m := 40) 2 ep (by decide) (by decide)) rfl rfl (Nat.le_of_ble_eq_true rfl) (fit hX (by decide)) ?_
  rintro h2 ⟨pb, ep, eb, k2⟩
  have hs := k2 _ _ _ hs (by first | omega | exact fun q => q)
  refine r_putFA C hN dX7_init_14 flX7_14 rfl hs rfl rfl (fs2 := [vR pad, vN, vN, vN, vN, vN, vN, vN, vN]) rfl (fun h3 hs o3 => ?_)
  have k3 : Kp (fun t => t = 7) h2 h3 := o3.kp ‹_› rfl
  have ep := k3 _ _ _ ep (by first | omega | exact fun q => q)
  have eb := k3 _ _ _ eb (by first | omega | exact fun q => q)
  have K : Kp SC h h3 := (k1.mono (fun t q => q.elim)).tr ((k2.mono (fun t q => by omega)).tr (k3.mono (fun t q => by omega)))
  refine r_aload_n C dX7_init_17 rfl ?_
  refine r_newA (ci := 6) (fs := [vN, vI 0]) C 3 dX7_init_18 clX7_9 inX6 itX6 iX6 tyX6 tyX6_ok rfl rfl (fun j hj => by rcases (show j = 0 ∨ j = 1 by omega) with rfl | rfl <;> rfl) (Rc trivial (Rc Rg0 (fun _ q => by cases q))) (by rw [hX]; exact Nat.le_of_ble_eq_true rfl) (by rw [hX]; exact Nat.le_of_ble_eq_true rfl) (fun tr h4 et k4 => ?_)
  have hs := k4 _ _ _ hs (by first | omega | exact fun q => q)
  have ep := k4 _ _ _ ep (by first | omega | exact fun q => q)
  have eb := k4 _ _ _ eb (by first | omega | exact fun q => q)
  refine r_dup C dX7_init_21 ?_
  refine r_bipush C dX7_init_22 (by decide) ?_
  refine r_cI C dX7_init_24 mlX7_11 kX6_init (m_TinitK (m := 40) 4 et (by decide) (by decide)) rfl rfl (Nat.le_of_ble_eq_true rfl) (fit hX (by decide)) ?_
  rintro h5 ⟨tb', et, etb, k5⟩
  have hs := k5 _ _ _ hs (by first | omega | exact fun q => q)
  have ep := k5 _ _ _ ep (by first | omega | exact fun q => q)
  have eb := k5 _ _ _ eb (by first | omega | exact fun q => q)
  refine r_putFA C hN dX7_init_27 flX7_18 rfl hs rfl rfl (fs2 := [vR pad, vR tr, vN, vN, vN, vN, vN, vN, vN]) rfl (fun h6 hs o6 => ?_)
  have k6 : Kp (fun t => t = 7) h5 h6 := o6.kp ‹_› rfl
  have ep := k6 _ _ _ ep (by first | omega | exact fun q => q)
  have eb := k6 _ _ _ eb (by first | omega | exact fun q => q)
  have et := k6 _ _ _ et (by first | omega | exact fun q => q)
  have etb := k6 _ _ _ etb (by first | omega | exact fun q => q)
  have K : Kp SC h h6 := K.tr ((k4.mono (fun t q => q.elim)).tr ((k5.mono (fun t q => by omega)).tr (k6.mono (fun t q => by omega))))
  refine r_newA (ci := 6) (fs := [vN, vI 0]) C 5 dX7_init_30 clX7_9 inX6 itX6 iX6 tyX6 tyX6_ok rfl rfl (fun j hj => by rcases (show j = 0 ∨ j = 1 by omega) with rfl | rfl <;> rfl) (Rc trivial (Rc Rg0 (fun _ q => by cases q))) (by rw [hX]; exact Nat.le_of_ble_eq_true rfl) (by rw [hX]; exact Nat.le_of_ble_eq_true rfl) (fun nt h7 en k7 => ?_)
  have hs := k7 _ _ _ hs (by first | omega | exact fun q => q)
  have ep := k7 _ _ _ ep (by first | omega | exact fun q => q)
  have eb := k7 _ _ _ eb (by first | omega | exact fun q => q)
  have et := k7 _ _ _ et (by first | omega | exact fun q => q)
  have etb := k7 _ _ _ etb (by first | omega | exact fun q => q)
  refine r_dup C dX7_init_33 ?_
  refine r_iconst C dX7_init_34 (by decide) ?_
  refine r_cI C dX7_init_35 mlX7_11 kX6_init (m_TinitK (m := 0) 6 en (by decide) (by decide)) rfl rfl (Nat.le_of_ble_eq_true rfl) (fit hX (by decide)) ?_
  rintro h8 ⟨nb, en, enb, k8⟩
  have hs := k8 _ _ _ hs (by first | omega | exact fun q => q)
  have ep := k8 _ _ _ ep (by first | omega | exact fun q => q)
  have eb := k8 _ _ _ eb (by first | omega | exact fun q => q)
  have et := k8 _ _ _ et (by first | omega | exact fun q => q)
  have etb := k8 _ _ _ etb (by first | omega | exact fun q => q)
  have hnt : TxP h8 (some nt) 0 (fun _ => 0) := ⟨nt, nb, 0, fun _ => 0, rfl, en, enb, by omega, by omega, by omega, fun i i0 i1 => by omega⟩
  refine r_astore_n C dX7_init_38 (by decide) ?_
  refine r_aload_n C dX7_init_39 rfl ?_
  refine r_newA (ci := 0) (fs := [vN, vN, vN, vN, vN, vN, vI 0, vI 0]) C 10 dX7_init_40 clX7_21 inX0 itX0 iX0 tyX0 tyX0_ok rfl rfl (fun j hj => by rcases (show j = 0 ∨ j = 1 ∨ j = 2 ∨ j = 3 ∨ j = 4 ∨ j = 5 ∨ j = 6 ∨ j = 7 by omega) with rfl | rfl | rfl | rfl | rfl | rfl | rfl | rfl <;> rfl) (Rc trivial (Rc trivial (Rc trivial (Rc trivial (Rc trivial (Rc trivial (Rc Rg0 (Rc Rg0 (fun _ q => by cases q))))))))) (by rw [hX]; exact Nat.le_of_ble_eq_true rfl) (by rw [hX]; exact Nat.le_of_ble_eq_true rfl) (fun bk h9 ebk k9 => ?_)
  have hs := k9 _ _ _ hs (by first | omega | exact fun q => q)
  have ep := k9 _ _ _ ep (by first | omega | exact fun q => q)
  have eb := k9 _ _ _ eb (by first | omega | exact fun q => q)
  have et := k9 _ _ _ et (by first | omega | exact fun q => q)
  have etb := k9 _ _ _ etb (by first | omega | exact fun q => q)
  have en := k9 _ _ _ en (by first | omega | exact fun q => q)
  have hnt := hnt.kp k9 (by first | omega | exact fun q => q) (by first | omega | exact fun q => q)
  refine r_dup C dX7_init_43 ?_
  refine r_aload_n C dX7_init_44 rfl ?_
  refine r_cI C dX7_init_45 mlX7_23 kX0_init (m_Binit 10 (by decide) ebk hnt) rfl rfl (Nat.le_of_ble_eq_true rfl) (fit hX (by decide)) ?_
  rintro h10 ⟨hb, k10⟩
  have hs := k10 _ _ _ hs (by first | omega | exact fun q => q)
  have ep := k10 _ _ _ ep (by first | omega | exact fun q => q)
  have eb := k10 _ _ _ eb (by first | omega | exact fun q => q)
  have et := k10 _ _ _ et (by first | omega | exact fun q => q)
  have etb := k10 _ _ _ etb (by first | omega | exact fun q => q)
  have en := k10 _ _ _ en (by first | omega | exact fun q => q)
  have hnt := hnt.kp k10 (by first | omega | exact fun q => q) (by first | omega | exact fun q => q)
  refine r_putFA C hN dX7_init_48 flX7_26 rfl hs rfl rfl (fs2 := [vR pad, vR tr, vR bk, vN, vN, vN, vN, vN, vN]) rfl (fun h11 hs o11 => ?_)
  have k11 : Kp (fun t => t = 7) h10 h11 := o11.kp ‹_› rfl
  have ep := k11 _ _ _ ep (by first | omega | exact fun q => q)
  have eb := k11 _ _ _ eb (by first | omega | exact fun q => q)
  have et := k11 _ _ _ et (by first | omega | exact fun q => q)
  have etb := k11 _ _ _ etb (by first | omega | exact fun q => q)
  have en := k11 _ _ _ en (by first | omega | exact fun q => q)
  have hnt := hnt.kp k11 (by first | omega | exact fun q => q) (by first | omega | exact fun q => q)
  have hb := BkR.kp hb k11 (by first | omega | exact fun q => q) (by first | omega | exact fun q => q) (fun t q1 q2 => by first | omega | exact fun q => q)
  have K : Kp SC h h11 := K.tr ((k7.mono (fun t q => q.elim)).tr ((k8.mono (fun t q => by omega)).tr ((k9.mono (fun t q => q.elim)).tr ((k10.mono (fun t q => by omega)).tr (k11.mono (fun t q => by omega))))))
  refine r_aload_n C dX7_init_51 rfl ?_
  refine r_iconst C dX7_init_52 (by decide) ?_
  refine r_newqA (kr := 1) C 8 dX7_init_53 clX7_21 (by omega) (by omega) (by rw [hX]; exact Nat.le_of_ble_eq_true rfl) (by rw [hX]; exact Nat.le_of_ble_eq_true rfl) (fun ims h12 ei k12 => ?_)
  have hs := k12 _ _ _ hs (by first | omega | exact fun q => q)
  have ep := k12 _ _ _ ep (by first | omega | exact fun q => q)
  have eb := k12 _ _ _ eb (by first | omega | exact fun q => q)
  have et := k12 _ _ _ et (by first | omega | exact fun q => q)
  have etb := k12 _ _ _ etb (by first | omega | exact fun q => q)
  have en := k12 _ _ _ en (by first | omega | exact fun q => q)
  have hnt := hnt.kp k12 (by first | omega | exact fun q => q) (by first | omega | exact fun q => q)
  have hb := BkR.kp hb k12 (by first | omega | exact fun q => q) (by first | omega | exact fun q => q) (fun t q1 q2 => by first | omega | exact fun q => q)
  refine r_putFA C hN dX7_init_56 flX7_30 rfl hs rfl rfl (fs2 := [vR pad, vR tr, vR bk, vR ims, vN, vN, vN, vN, vN]) rfl (fun h13 hs o13 => ?_)
  have k13 : Kp (fun t => t = 7) h12 h13 := o13.kp ‹_› rfl
  have ep := k13 _ _ _ ep (by first | omega | exact fun q => q)
  have eb := k13 _ _ _ eb (by first | omega | exact fun q => q)
  have et := k13 _ _ _ et (by first | omega | exact fun q => q)
  have etb := k13 _ _ _ etb (by first | omega | exact fun q => q)
  have en := k13 _ _ _ en (by first | omega | exact fun q => q)
  have hnt := hnt.kp k13 (by first | omega | exact fun q => q) (by first | omega | exact fun q => q)
  have hb := BkR.kp hb k13 (by first | omega | exact fun q => q) (by first | omega | exact fun q => q) (fun t q1 q2 => by first | omega | exact fun q => q)
  have ei := k13 _ _ _ ei (by first | omega | exact fun q => q)
  refine r_iconst C dX7_init_59 (by decide) ?_
  refine r_istore_n C dX7_init_60 (by decide) ?_
  refine r_iload_n C dX7_init_61 rfl ?_
  refine r_iconst C dX7_init_62 (by decide) ?_
  refine r_icmp_ge (tgt := 86) C dX7_init_63 (by decide) (fun hc63 => ?_) (fun hc63 => ?_)
  · exact absurd hc63 (by omega)
  refine r_aload_n C dX7_init_66 rfl ?_
  refine r_get C dX7_init_67 flX7_30 hs rfl ?_
  refine r_iload_n C dX7_init_70 rfl ?_
  refine r_newA (ci := 0) (fs := [vN, vN, vN, vN, vN, vN, vI 0, vI 0]) C 20 dX7_init_71 clX7_21 inX0 itX0 iX0 tyX0 tyX0_ok rfl rfl (fun j hj => by rcases (show j = 0 ∨ j = 1 ∨ j = 2 ∨ j = 3 ∨ j = 4 ∨ j = 5 ∨ j = 6 ∨ j = 7 by omega) with rfl | rfl | rfl | rfl | rfl | rfl | rfl | rfl <;> rfl) (Rc trivial (Rc trivial (Rc trivial (Rc trivial (Rc trivial (Rc trivial (Rc Rg0 (Rc Rg0 (fun _ q => by cases q))))))))) (by rw [hX]; exact Nat.le_of_ble_eq_true rfl) (by rw [hX]; exact Nat.le_of_ble_eq_true rfl) (fun i0 h14 ei0 k14 => ?_)
  have hs := k14 _ _ _ hs (by first | omega | exact fun q => q)
  have ep := k14 _ _ _ ep (by first | omega | exact fun q => q)
  have eb := k14 _ _ _ eb (by first | omega | exact fun q => q)
  have et := k14 _ _ _ et (by first | omega | exact fun q => q)
  have etb := k14 _ _ _ etb (by first | omega | exact fun q => q)
  have en := k14 _ _ _ en (by first | omega | exact fun q => q)
  have hnt := hnt.kp k14 (by first | omega | exact fun q => q) (by first | omega | exact fun q => q)
  have hb := BkR.kp hb k14 (by first | omega | exact fun q => q) (by first | omega | exact fun q => q) (fun t q1 q2 => by first | omega | exact fun q => q)
  have ei := k14 _ _ _ ei (by first | omega | exact fun q => q)
  refine r_dup C dX7_init_74 ?_
  refine r_aload_n C dX7_init_75 rfl ?_
  refine r_cI C dX7_init_76 mlX7_23 kX0_init (m_Binit 20 (by decide) ei0 hnt) rfl rfl (Nat.le_of_ble_eq_true rfl) (fit hX (by decide)) ?_
  rintro h15 ⟨hb0, k15⟩
  have hs := k15 _ _ _ hs (by first | omega | exact fun q => q)
  have ep := k15 _ _ _ ep (by first | omega | exact fun q => q)
  have eb := k15 _ _ _ eb (by first | omega | exact fun q => q)
  have et := k15 _ _ _ et (by first | omega | exact fun q => q)
  have etb := k15 _ _ _ etb (by first | omega | exact fun q => q)
  have en := k15 _ _ _ en (by first | omega | exact fun q => q)
  have hnt := hnt.kp k15 (by first | omega | exact fun q => q) (by first | omega | exact fun q => q)
  have hb := BkR.kp hb k15 (by first | omega | exact fun q => q) (by first | omega | exact fun q => q) (fun t q1 q2 => by first | omega | exact fun q => q)
  have ei := k15 _ _ _ ei (by first | omega | exact fun q => q)
  obtain ⟨u1, u2, u3, u4, u5, u6, u7, u8, u9, u10, u11, ⟨hb0s, -⟩, -⟩ := id hb0
  refine r_aastA C dX7_init_79 ei hb0s (by omega) (by omega) (fun h16 ei o16 => ?_)
  have k16 : Kp (fun t => t = 8) h15 h16 := o16.kp ‹_› rfl
  have hs := k16 _ _ _ hs (by first | omega | exact fun q => q)
  have ep := k16 _ _ _ ep (by first | omega | exact fun q => q)
  have eb := k16 _ _ _ eb (by first | omega | exact fun q => q)
  have et := k16 _ _ _ et (by first | omega | exact fun q => q)
  have etb := k16 _ _ _ etb (by first | omega | exact fun q => q)
  have en := k16 _ _ _ en (by first | omega | exact fun q => q)
  have hnt := hnt.kp k16 (by first | omega | exact fun q => q) (by first | omega | exact fun q => q)
  have hb := BkR.kp hb k16 (by first | omega | exact fun q => q) (by first | omega | exact fun q => q) (fun t q1 q2 => by first | omega | exact fun q => q)
  have hb0 := BkR.kp hb0 k16 (by first | omega | exact fun q => q) (by first | omega | exact fun q => q) (fun t q1 q2 => by first | omega | exact fun q => q)
  have K : Kp SC h h16 := K.tr ((k12.mono (fun t q => q.elim)).tr ((k13.mono (fun t q => by omega)).tr ((k14.mono (fun t q => q.elim)).tr ((k15.mono (fun t q => by omega)).tr (k16.mono (fun t q => by omega))))))
  refine r_iinc C dX7_init_80 rfl (by decide) (by omega) ?_
  refine r_goto (tgt := 61) C dX7_init_83 (by decide) ?_
  refine r_iload_n C dX7_init_61 rfl ?_
  refine r_iconst C dX7_init_62 (by decide) ?_
  refine r_icmp_ge (tgt := 86) C dX7_init_63 (by decide) (fun hc63b => ?_) (fun hc63b => ?_)
  · exact absurd hc63b (by omega)
  refine r_aload_n C dX7_init_66 rfl ?_
  refine r_get C dX7_init_67 flX7_30 hs rfl ?_
  refine r_iload_n C dX7_init_70 rfl ?_
  refine r_newA (ci := 0) (fs := [vN, vN, vN, vN, vN, vN, vI 0, vI 0]) C 30 dX7_init_71 clX7_21 inX0 itX0 iX0 tyX0 tyX0_ok rfl rfl (fun j hj => by rcases (show j = 0 ∨ j = 1 ∨ j = 2 ∨ j = 3 ∨ j = 4 ∨ j = 5 ∨ j = 6 ∨ j = 7 by omega) with rfl | rfl | rfl | rfl | rfl | rfl | rfl | rfl <;> rfl) (Rc trivial (Rc trivial (Rc trivial (Rc trivial (Rc trivial (Rc trivial (Rc Rg0 (Rc Rg0 (fun _ q => by cases q))))))))) (by rw [hX]; exact Nat.le_of_ble_eq_true rfl) (by rw [hX]; exact Nat.le_of_ble_eq_true rfl) (fun i1 h17 ei1 k17 => ?_)
  have hs := k17 _ _ _ hs (by first | omega | exact fun q => q)
  have ep := k17 _ _ _ ep (by first | omega | exact fun q => q)
  have eb := k17 _ _ _ eb (by first | omega | exact fun q => q)
  have et := k17 _ _ _ et (by first | omega | exact fun q => q)
  have etb := k17 _ _ _ etb (by first | omega | exact fun q => q)
  have en := k17 _ _ _ en (by first | omega | exact fun q => q)
  have hnt := hnt.kp k17 (by first | omega | exact fun q => q) (by first | omega | exact fun q => q)
  have hb := BkR.kp hb k17 (by first | omega | exact fun q => q) (by first | omega | exact fun q => q) (fun t q1 q2 => by first | omega | exact fun q => q)
  have hb0 := BkR.kp hb0 k17 (by first | omega | exact fun q => q) (by first | omega | exact fun q => q) (fun t q1 q2 => by first | omega | exact fun q => q)
  have ei := k17 _ _ _ ei (by first | omega | exact fun q => q)
  refine r_dup C dX7_init_74 ?_
  refine r_aload_n C dX7_init_75 rfl ?_
  refine r_cI C dX7_init_76 mlX7_23 kX0_init (m_Binit 30 (by decide) ei1 hnt) rfl rfl (Nat.le_of_ble_eq_true rfl) (fit hX (by decide)) ?_
  rintro h18 ⟨hb1, k18⟩
  have hs := k18 _ _ _ hs (by first | omega | exact fun q => q)
  have ep := k18 _ _ _ ep (by first | omega | exact fun q => q)
  have eb := k18 _ _ _ eb (by first | omega | exact fun q => q)
  have et := k18 _ _ _ et (by first | omega | exact fun q => q)
  have etb := k18 _ _ _ etb (by first | omega | exact fun q => q)
  have en := k18 _ _ _ en (by first | omega | exact fun q => q)
  have hnt := hnt.kp k18 (by first | omega | exact fun q => q) (by first | omega | exact fun q => q)
  have hb := BkR.kp hb k18 (by first | omega | exact fun q => q) (by first | omega | exact fun q => q) (fun t q1 q2 => by first | omega | exact fun q => q)
  have hb0 := BkR.kp hb0 k18 (by first | omega | exact fun q => q) (by first | omega | exact fun q => q) (fun t q1 q2 => by first | omega | exact fun q => q)
  have ei := k18 _ _ _ ei (by first | omega | exact fun q => q)
  obtain ⟨w1, w2, w3, w4, w5, w6, w7, w8, w9, w10, w11, ⟨hb1s, -⟩, -⟩ := id hb1
  refine r_aastA C dX7_init_79 ei hb1s (by omega) (by omega) (fun h19 ei o19 => ?_)
  have k19 : Kp (fun t => t = 8) h18 h19 := o19.kp ‹_› rfl
  have hs := k19 _ _ _ hs (by first | omega | exact fun q => q)
  have ep := k19 _ _ _ ep (by first | omega | exact fun q => q)
  have eb := k19 _ _ _ eb (by first | omega | exact fun q => q)
  have et := k19 _ _ _ et (by first | omega | exact fun q => q)
  have etb := k19 _ _ _ etb (by first | omega | exact fun q => q)
  have en := k19 _ _ _ en (by first | omega | exact fun q => q)
  have hnt := hnt.kp k19 (by first | omega | exact fun q => q) (by first | omega | exact fun q => q)
  have hb := BkR.kp hb k19 (by first | omega | exact fun q => q) (by first | omega | exact fun q => q) (fun t q1 q2 => by first | omega | exact fun q => q)
  have hb0 := BkR.kp hb0 k19 (by first | omega | exact fun q => q) (by first | omega | exact fun q => q) (fun t q1 q2 => by first | omega | exact fun q => q)
  have hb1 := BkR.kp hb1 k19 (by first | omega | exact fun q => q) (by first | omega | exact fun q => q) (fun t q1 q2 => by first | omega | exact fun q => q)
  have K : Kp SC h h19 := K.tr ((k17.mono (fun t q => q.elim)).tr ((k18.mono (fun t q => by omega)).tr (k19.mono (fun t q => by omega))))
  refine r_iinc C dX7_init_80 rfl (by decide) (by omega) ?_
  refine r_goto (tgt := 61) C dX7_init_83 (by decide) ?_
  refine r_iload_n C dX7_init_61 rfl ?_
  refine r_iconst C dX7_init_62 (by decide) ?_
  refine r_icmp_ge (tgt := 86) C dX7_init_63 (by decide) (fun hc63c => ?_) (fun hc63c => ?_)
  rotate_left
  · exact absurd hc63c (by omega)
  refine r_aload_n C dX7_init_86 rfl ?_
  refine r_iconst C dX7_init_87 (by decide) ?_
  refine r_newaA (kA := 2) C 9 dX7_init_88 rfl ac_boolean rfl (by omega) (by omega) (by rw [hX]; exact Nat.le_of_ble_eq_true rfl) (by rw [hX]; exact Nat.le_of_ble_eq_true rfl) (fun kpa h20 ek k20 => ?_)
  have hs := k20 _ _ _ hs (by first | omega | exact fun q => q)
  have ep := k20 _ _ _ ep (by first | omega | exact fun q => q)
  have eb := k20 _ _ _ eb (by first | omega | exact fun q => q)
  have et := k20 _ _ _ et (by first | omega | exact fun q => q)
  have etb := k20 _ _ _ etb (by first | omega | exact fun q => q)
  have en := k20 _ _ _ en (by first | omega | exact fun q => q)
  have ei := k20 _ _ _ ei (by first | omega | exact fun q => q)
  have hnt := hnt.kp k20 (by first | omega | exact fun q => q) (by first | omega | exact fun q => q)
  have hb := BkR.kp hb k20 (by first | omega | exact fun q => q) (by first | omega | exact fun q => q) (fun t q1 q2 => by first | omega | exact fun q => q)
  have hb0 := BkR.kp hb0 k20 (by first | omega | exact fun q => q) (by first | omega | exact fun q => q) (fun t q1 q2 => by first | omega | exact fun q => q)
  have hb1 := BkR.kp hb1 k20 (by first | omega | exact fun q => q) (by first | omega | exact fun q => q) (fun t q1 q2 => by first | omega | exact fun q => q)
  refine r_putFA C hN dX7_init_90 flX7_34 rfl hs rfl rfl (fs2 := [vR pad, vR tr, vR bk, vR ims, vR kpa, vN, vN, vN, vN]) rfl (fun h21 hs o21 => ?_)
  have k21 : Kp (fun t => t = 7) h20 h21 := o21.kp ‹_› rfl
  have ep := k21 _ _ _ ep (by first | omega | exact fun q => q)
  have eb := k21 _ _ _ eb (by first | omega | exact fun q => q)
  have et := k21 _ _ _ et (by first | omega | exact fun q => q)
  have etb := k21 _ _ _ etb (by first | omega | exact fun q => q)
  have en := k21 _ _ _ en (by first | omega | exact fun q => q)
  have ei := k21 _ _ _ ei (by first | omega | exact fun q => q)
  have ek := k21 _ _ _ ek (by first | omega | exact fun q => q)
  have hnt := hnt.kp k21 (by first | omega | exact fun q => q) (by first | omega | exact fun q => q)
  have hb := BkR.kp hb k21 (by first | omega | exact fun q => q) (by first | omega | exact fun q => q) (fun t q1 q2 => by first | omega | exact fun q => q)
  have hb0 := BkR.kp hb0 k21 (by first | omega | exact fun q => q) (by first | omega | exact fun q => q) (fun t q1 q2 => by first | omega | exact fun q => q)
  have hb1 := BkR.kp hb1 k21 (by first | omega | exact fun q => q) (by first | omega | exact fun q => q) (fun t q1 q2 => by first | omega | exact fun q => q)
  refine r_aload_n C dX7_init_93 rfl ?_
  refine r_newA (ci := 3) (fs := [vN, vI 0, vI 0, vI 0, vI 0]) C 42 dX7_init_94 clX7_38 inX3 itX3 iX3 tyX3 tyX3_ok rfl rfl (fun j hj => by rcases (show j = 0 ∨ j = 1 ∨ j = 2 ∨ j = 3 ∨ j = 4 by omega) with rfl | rfl | rfl | rfl | rfl <;> rfl) (Rc trivial (Rc Rg0 (Rc Rg0 (Rc Rg0 (Rc Rg0 (fun _ q => by cases q)))))) (by rw [hX]; exact Nat.le_of_ble_eq_true rfl) (by rw [hX]; exact Nat.le_of_ble_eq_true rfl) (fun rk h22 er k22 => ?_)
  have hs := k22 _ _ _ hs (by first | omega | exact fun q => q)
  have ep := k22 _ _ _ ep (by first | omega | exact fun q => q)
  have eb := k22 _ _ _ eb (by first | omega | exact fun q => q)
  have et := k22 _ _ _ et (by first | omega | exact fun q => q)
  have etb := k22 _ _ _ etb (by first | omega | exact fun q => q)
  have en := k22 _ _ _ en (by first | omega | exact fun q => q)
  have ei := k22 _ _ _ ei (by first | omega | exact fun q => q)
  have ek := k22 _ _ _ ek (by first | omega | exact fun q => q)
  have hb := BkR.kp hb k22 (by first | omega | exact fun q => q) (by first | omega | exact fun q => q) (fun t q1 q2 => by first | omega | exact fun q => q)
  have hb0 := BkR.kp hb0 k22 (by first | omega | exact fun q => q) (by first | omega | exact fun q => q) (fun t q1 q2 => by first | omega | exact fun q => q)
  have hb1 := BkR.kp hb1 k22 (by first | omega | exact fun q => q) (by first | omega | exact fun q => q) (fun t q1 q2 => by first | omega | exact fun q => q)
  refine r_dup C dX7_init_97 ?_
  refine r_aload_n C dX7_init_98 rfl ?_
  refine r_cI C dX7_init_99 mlX7_40 kX3_init (m_Rinit er en) rfl rfl (Nat.le_of_ble_eq_true rfl) (fit hX (by decide)) ?_
  rintro h23 ⟨⟨xw, fw, hr⟩, k23⟩
  have hs := k23 _ _ _ hs (by first | omega | exact fun q => q)
  have ep := k23 _ _ _ ep (by first | omega | exact fun q => q)
  have eb := k23 _ _ _ eb (by first | omega | exact fun q => q)
  have et := k23 _ _ _ et (by first | omega | exact fun q => q)
  have etb := k23 _ _ _ etb (by first | omega | exact fun q => q)
  have ei := k23 _ _ _ ei (by first | omega | exact fun q => q)
  have ek := k23 _ _ _ ek (by first | omega | exact fun q => q)
  have hb := BkR.kp hb k23 (by first | omega | exact fun q => q) (by first | omega | exact fun q => q) (fun t q1 q2 => by first | omega | exact fun q => q)
  have hb0 := BkR.kp hb0 k23 (by first | omega | exact fun q => q) (by first | omega | exact fun q => q) (fun t q1 q2 => by first | omega | exact fun q => q)
  have hb1 := BkR.kp hb1 k23 (by first | omega | exact fun q => q) (by first | omega | exact fun q => q) (fun t q1 q2 => by first | omega | exact fun q => q)
  refine r_putFA C hN dX7_init_102 flX7_41 rfl hs rfl rfl (fs2 := [vR pad, vR tr, vR bk, vR ims, vR kpa, vR rk, vN, vN, vN]) rfl (fun h24 hs o24 => ?_)
  have k24 : Kp (fun t => t = 7) h23 h24 := o24.kp ‹_› rfl
  have ep := k24 _ _ _ ep (by first | omega | exact fun q => q)
  have eb := k24 _ _ _ eb (by first | omega | exact fun q => q)
  have et := k24 _ _ _ et (by first | omega | exact fun q => q)
  have etb := k24 _ _ _ etb (by first | omega | exact fun q => q)
  have ei := k24 _ _ _ ei (by first | omega | exact fun q => q)
  have ek := k24 _ _ _ ek (by first | omega | exact fun q => q)
  have hb := BkR.kp hb k24 (by first | omega | exact fun q => q) (by first | omega | exact fun q => q) (fun t q1 q2 => by first | omega | exact fun q => q)
  have hb0 := BkR.kp hb0 k24 (by first | omega | exact fun q => q) (by first | omega | exact fun q => q) (fun t q1 q2 => by first | omega | exact fun q => q)
  have hb1 := BkR.kp hb1 k24 (by first | omega | exact fun q => q) (by first | omega | exact fun q => q) (fun t q1 q2 => by first | omega | exact fun q => q)
  have hr := hr.kp k24 (by first | omega | exact fun q => q) (by first | omega | exact fun q => q)
  have K : Kp SC h h24 := K.tr ((k20.mono (fun t q => q.elim)).tr ((k21.mono (fun t q => by omega)).tr ((k22.mono (fun t q => q.elim)).tr ((k23.mono (fun t q => by omega)).tr (k24.mono (fun t q => by omega))))))
  refine r_aload_n C dX7_init_105 rfl ?_
  refine r_newA (ci := 2) (fs := [vN, vN, vN, vN, vN]) C 44 dX7_init_106 clX7_45 inX2 itX2 iX2 tyX2 tyX2_ok rfl rfl (fun j hj => by rcases (show j = 0 ∨ j = 1 ∨ j = 2 ∨ j = 3 ∨ j = 4 by omega) with rfl | rfl | rfl | rfl | rfl <;> rfl) (Rc trivial (Rc trivial (Rc trivial (Rc trivial (Rc trivial (fun _ q => by cases q)))))) (by rw [hX]; exact Nat.le_of_ble_eq_true rfl) (by rw [hX]; exact Nat.le_of_ble_eq_true rfl) (fun ao h25 eo k25 => ?_)
  have hs := k25 _ _ _ hs (by first | omega | exact fun q => q)
  have ep := k25 _ _ _ ep (by first | omega | exact fun q => q)
  have eb := k25 _ _ _ eb (by first | omega | exact fun q => q)
  have et := k25 _ _ _ et (by first | omega | exact fun q => q)
  have etb := k25 _ _ _ etb (by first | omega | exact fun q => q)
  have ei := k25 _ _ _ ei (by first | omega | exact fun q => q)
  have ek := k25 _ _ _ ek (by first | omega | exact fun q => q)
  have hb := BkR.kp hb k25 (by first | omega | exact fun q => q) (by first | omega | exact fun q => q) (fun t q1 q2 => by first | omega | exact fun q => q)
  have hb0 := BkR.kp hb0 k25 (by first | omega | exact fun q => q) (by first | omega | exact fun q => q) (fun t q1 q2 => by first | omega | exact fun q => q)
  have hb1 := BkR.kp hb1 k25 (by first | omega | exact fun q => q) (by first | omega | exact fun q => q) (fun t q1 q2 => by first | omega | exact fun q => q)
  have hr := hr.kp k25 (by first | omega | exact fun q => q) (by first | omega | exact fun q => q)
  refine r_dup C dX7_init_109 ?_
  refine r_aload_n C dX7_init_110 rfl ?_
  refine r_get C dX7_init_111 flX7_26 hs rfl ?_
  refine r_aload_n C dX7_init_114 rfl ?_
  refine r_get C dX7_init_115 flX7_41 hs rfl ?_
  refine r_cI C dX7_init_118 mlX7_47 kX2_init (m_Oinit (bk := bk) (rk := rk) eo) rfl rfl (Nat.le_of_ble_eq_true rfl) (fit hX (by decide)) ?_
  rintro h26 ⟨y1, y2, y3, ⟨q0, q1, q2, q3⟩, k26⟩
  have hs := k26 _ _ _ hs (by first | omega | exact fun q => q)
  have ep := k26 _ _ _ ep (by first | omega | exact fun q => q)
  have eb := k26 _ _ _ eb (by first | omega | exact fun q => q)
  have et := k26 _ _ _ et (by first | omega | exact fun q => q)
  have etb := k26 _ _ _ etb (by first | omega | exact fun q => q)
  have ei := k26 _ _ _ ei (by first | omega | exact fun q => q)
  have ek := k26 _ _ _ ek (by first | omega | exact fun q => q)
  have hb := BkR.kp hb k26 (by first | omega | exact fun q => q) (by first | omega | exact fun q => q) (fun t q1 q2 => by first | omega | exact fun q => q)
  have hb0 := BkR.kp hb0 k26 (by first | omega | exact fun q => q) (by first | omega | exact fun q => q) (fun t q1 q2 => by first | omega | exact fun q => q)
  have hb1 := BkR.kp hb1 k26 (by first | omega | exact fun q => q) (by first | omega | exact fun q => q) (fun t q1 q2 => by first | omega | exact fun q => q)
  have hr := hr.kp k26 (by first | omega | exact fun q => q) (by first | omega | exact fun q => q)
  refine r_putFA C hN dX7_init_121 flX7_50 rfl hs rfl rfl (fs2 := [vR pad, vR tr, vR bk, vR ims, vR kpa, vR rk, vR ao, vN, vN]) rfl (fun h27 hs o27 => ?_)
  have k27 : Kp (fun t => t = 7) h26 h27 := o27.kp ‹_› rfl
  have ep := k27 _ _ _ ep (by first | omega | exact fun q => q)
  have eb := k27 _ _ _ eb (by first | omega | exact fun q => q)
  have et := k27 _ _ _ et (by first | omega | exact fun q => q)
  have etb := k27 _ _ _ etb (by first | omega | exact fun q => q)
  have ei := k27 _ _ _ ei (by first | omega | exact fun q => q)
  have ek := k27 _ _ _ ek (by first | omega | exact fun q => q)
  have q0 := k27 _ _ _ q0 (by first | omega | exact fun q => q)
  have q1 := k27 _ _ _ q1 (by first | omega | exact fun q => q)
  have q2 := k27 _ _ _ q2 (by first | omega | exact fun q => q)
  have q3 := k27 _ _ _ q3 (by first | omega | exact fun q => q)
  have hb := BkR.kp hb k27 (by first | omega | exact fun q => q) (by first | omega | exact fun q => q) (fun t q1 q2 => by first | omega | exact fun q => q)
  have hb0 := BkR.kp hb0 k27 (by first | omega | exact fun q => q) (by first | omega | exact fun q => q) (fun t q1 q2 => by first | omega | exact fun q => q)
  have hb1 := BkR.kp hb1 k27 (by first | omega | exact fun q => q) (by first | omega | exact fun q => q) (fun t q1 q2 => by first | omega | exact fun q => q)
  have hr := hr.kp k27 (by first | omega | exact fun q => q) (by first | omega | exact fun q => q)
  refine r_aload_n C dX7_init_124 rfl ?_
  refine r_newA (ci := 5) (fs := [vN, vN, vN, vN, vN, vN, vN]) C 48 dX7_init_125 clX7_54 inX5 itX5 iX5 tyX5 tyX5_ok rfl rfl (fun j hj => by rcases (show j = 0 ∨ j = 1 ∨ j = 2 ∨ j = 3 ∨ j = 4 ∨ j = 5 ∨ j = 6 by omega) with rfl | rfl | rfl | rfl | rfl | rfl | rfl <;> rfl) (Rc trivial (Rc trivial (Rc trivial (Rc trivial (Rc trivial (Rc trivial (Rc trivial (fun _ q => by cases q)))))))) (by rw [hX]; exact Nat.le_of_ble_eq_true rfl) (by rw [hX]; exact Nat.le_of_ble_eq_true rfl) (fun al h28 el k28 => ?_)
  have hs := k28 _ _ _ hs (by first | omega | exact fun q => q)
  have ep := k28 _ _ _ ep (by first | omega | exact fun q => q)
  have eb := k28 _ _ _ eb (by first | omega | exact fun q => q)
  have et := k28 _ _ _ et (by first | omega | exact fun q => q)
  have etb := k28 _ _ _ etb (by first | omega | exact fun q => q)
  have ei := k28 _ _ _ ei (by first | omega | exact fun q => q)
  have ek := k28 _ _ _ ek (by first | omega | exact fun q => q)
  have q0 := k28 _ _ _ q0 (by first | omega | exact fun q => q)
  have q1 := k28 _ _ _ q1 (by first | omega | exact fun q => q)
  have q2 := k28 _ _ _ q2 (by first | omega | exact fun q => q)
  have q3 := k28 _ _ _ q3 (by first | omega | exact fun q => q)
  have hb := BkR.kp hb k28 (by first | omega | exact fun q => q) (by first | omega | exact fun q => q) (fun t q1 q2 => by first | omega | exact fun q => q)
  have hb0 := BkR.kp hb0 k28 (by first | omega | exact fun q => q) (by first | omega | exact fun q => q) (fun t q1 q2 => by first | omega | exact fun q => q)
  have hb1 := BkR.kp hb1 k28 (by first | omega | exact fun q => q) (by first | omega | exact fun q => q) (fun t q1 q2 => by first | omega | exact fun q => q)
  have hr := hr.kp k28 (by first | omega | exact fun q => q) (by first | omega | exact fun q => q)
  refine r_dup C dX7_init_128 ?_
  refine r_aload_n C dX7_init_129 rfl ?_
  refine r_get C dX7_init_130 flX7_26 hs rfl ?_
  refine r_aload_n C dX7_init_133 rfl ?_
  refine r_get C dX7_init_134 flX7_50 hs rfl ?_
  refine r_aload_n C dX7_init_137 rfl ?_
  refine r_get C dX7_init_138 flX7_41 hs rfl ?_
  refine r_aload_n C dX7_init_141 rfl ?_
  refine r_get C dX7_init_142 flX7_18 hs rfl ?_
  refine r_cI C dX7_init_145 mlX7_56 kX5_init (m_Sinit (bk := bk) (ao := ao) (rk := rk) (tr := tr) el) rfl rfl (Nat.le_of_ble_eq_true rfl) (fit hX (by decide)) ?_
  rintro h29 ⟨z1, z2, z3, hl, k29⟩
  have hs := k29 _ _ _ hs (by first | omega | exact fun q => q)
  have ep := k29 _ _ _ ep (by first | omega | exact fun q => q)
  have eb := k29 _ _ _ eb (by first | omega | exact fun q => q)
  have et := k29 _ _ _ et (by first | omega | exact fun q => q)
  have etb := k29 _ _ _ etb (by first | omega | exact fun q => q)
  have ei := k29 _ _ _ ei (by first | omega | exact fun q => q)
  have ek := k29 _ _ _ ek (by first | omega | exact fun q => q)
  have q0 := k29 _ _ _ q0 (by first | omega | exact fun q => q)
  have q1 := k29 _ _ _ q1 (by first | omega | exact fun q => q)
  have q2 := k29 _ _ _ q2 (by first | omega | exact fun q => q)
  have q3 := k29 _ _ _ q3 (by first | omega | exact fun q => q)
  have hb := BkR.kp hb k29 (by first | omega | exact fun q => q) (by first | omega | exact fun q => q) (fun t q1 q2 => by first | omega | exact fun q => q)
  have hb0 := BkR.kp hb0 k29 (by first | omega | exact fun q => q) (by first | omega | exact fun q => q) (fun t q1 q2 => by first | omega | exact fun q => q)
  have hb1 := BkR.kp hb1 k29 (by first | omega | exact fun q => q) (by first | omega | exact fun q => q) (fun t q1 q2 => by first | omega | exact fun q => q)
  have hr := hr.kp k29 (by first | omega | exact fun q => q) (by first | omega | exact fun q => q)
  refine r_putFA C hN dX7_init_148 flX7_59 rfl hs rfl rfl (fs2 := [vR pad, vR tr, vR bk, vR ims, vR kpa, vR rk, vR ao, vR al, vN]) rfl (fun h30 hs o30 => ?_)
  have k30 : Kp (fun t => t = 7) h29 h30 := o30.kp ‹_› rfl
  have ep := k30 _ _ _ ep (by first | omega | exact fun q => q)
  have eb := k30 _ _ _ eb (by first | omega | exact fun q => q)
  have et := k30 _ _ _ et (by first | omega | exact fun q => q)
  have etb := k30 _ _ _ etb (by first | omega | exact fun q => q)
  have ei := k30 _ _ _ ei (by first | omega | exact fun q => q)
  have ek := k30 _ _ _ ek (by first | omega | exact fun q => q)
  have q0 := k30 _ _ _ q0 (by first | omega | exact fun q => q)
  have q1 := k30 _ _ _ q1 (by first | omega | exact fun q => q)
  have q2 := k30 _ _ _ q2 (by first | omega | exact fun q => q)
  have q3 := k30 _ _ _ q3 (by first | omega | exact fun q => q)
  have hb := BkR.kp hb k30 (by first | omega | exact fun q => q) (by first | omega | exact fun q => q) (fun t q1 q2 => by first | omega | exact fun q => q)
  have hb0 := BkR.kp hb0 k30 (by first | omega | exact fun q => q) (by first | omega | exact fun q => q) (fun t q1 q2 => by first | omega | exact fun q => q)
  have hb1 := BkR.kp hb1 k30 (by first | omega | exact fun q => q) (by first | omega | exact fun q => q) (fun t q1 q2 => by first | omega | exact fun q => q)
  have hr := hr.kp k30 (by first | omega | exact fun q => q) (by first | omega | exact fun q => q)
  have hl := hl.kp k30 (fun t q1 q2 => by first | omega | exact fun q => q)
  have K : Kp SC h h30 := K.tr ((k25.mono (fun t q => q.elim)).tr ((k26.mono (fun t q => by omega)).tr ((k27.mono (fun t q => by omega)).tr ((k28.mono (fun t q => q.elim)).tr ((k29.mono (fun t q => by omega)).tr (k30.mono (fun t q => by omega)))))))
  refine r_aload_n C dX7_init_151 rfl ?_
  refine r_newA (ci := 1) (fs := [vN, vI 0]) C 40 dX7_init_152 clX7_63 inX1 itX1 iX1 tyX1 tyX1_ok rfl rfl (fun j hj => by rcases (show j = 0 ∨ j = 1 by omega) with rfl | rfl <;> rfl) (Rc trivial (Rc Rg0 (fun _ q => by cases q))) (by rw [hX]; exact Nat.le_of_ble_eq_true rfl) (by rw [hX]; exact Nat.le_of_ble_eq_true rfl) (fun ne h31 ene k31 => ?_)
  have hs := k31 _ _ _ hs (by first | omega | exact fun q => q)
  have ep := k31 _ _ _ ep (by first | omega | exact fun q => q)
  have eb := k31 _ _ _ eb (by first | omega | exact fun q => q)
  have et := k31 _ _ _ et (by first | omega | exact fun q => q)
  have etb := k31 _ _ _ etb (by first | omega | exact fun q => q)
  have ei := k31 _ _ _ ei (by first | omega | exact fun q => q)
  have ek := k31 _ _ _ ek (by first | omega | exact fun q => q)
  have q0 := k31 _ _ _ q0 (by first | omega | exact fun q => q)
  have q1 := k31 _ _ _ q1 (by first | omega | exact fun q => q)
  have q2 := k31 _ _ _ q2 (by first | omega | exact fun q => q)
  have q3 := k31 _ _ _ q3 (by first | omega | exact fun q => q)
  have hb := BkR.kp hb k31 (by first | omega | exact fun q => q) (by first | omega | exact fun q => q) (fun t q1 q2 => by first | omega | exact fun q => q)
  have hb0 := BkR.kp hb0 k31 (by first | omega | exact fun q => q) (by first | omega | exact fun q => q) (fun t q1 q2 => by first | omega | exact fun q => q)
  have hb1 := BkR.kp hb1 k31 (by first | omega | exact fun q => q) (by first | omega | exact fun q => q) (fun t q1 q2 => by first | omega | exact fun q => q)
  have hr := hr.kp k31 (by first | omega | exact fun q => q) (by first | omega | exact fun q => q)
  have hl := hl.kp k31 (fun t q1 q2 => by first | omega | exact fun q => q)
  refine r_dup C dX7_init_155 ?_
  refine r_cI C dX7_init_156 mlX7_65 kX1_init (m_Ninit ene) rfl rfl (Nat.le_of_ble_eq_true rfl) (fit hX (by decide)) ?_
  rintro h32 ⟨nb', hne, k32⟩
  have hs := k32 _ _ _ hs (by first | omega | exact fun q => q)
  have ep := k32 _ _ _ ep (by first | omega | exact fun q => q)
  have eb := k32 _ _ _ eb (by first | omega | exact fun q => q)
  have et := k32 _ _ _ et (by first | omega | exact fun q => q)
  have etb := k32 _ _ _ etb (by first | omega | exact fun q => q)
  have ei := k32 _ _ _ ei (by first | omega | exact fun q => q)
  have ek := k32 _ _ _ ek (by first | omega | exact fun q => q)
  have q0 := k32 _ _ _ q0 (by first | omega | exact fun q => q)
  have q1 := k32 _ _ _ q1 (by first | omega | exact fun q => q)
  have q2 := k32 _ _ _ q2 (by first | omega | exact fun q => q)
  have q3 := k32 _ _ _ q3 (by first | omega | exact fun q => q)
  have hb := BkR.kp hb k32 (by first | omega | exact fun q => q) (by first | omega | exact fun q => q) (fun t q1 q2 => by first | omega | exact fun q => q)
  have hb0 := BkR.kp hb0 k32 (by first | omega | exact fun q => q) (by first | omega | exact fun q => q) (fun t q1 q2 => by first | omega | exact fun q => q)
  have hb1 := BkR.kp hb1 k32 (by first | omega | exact fun q => q) (by first | omega | exact fun q => q) (fun t q1 q2 => by first | omega | exact fun q => q)
  have hr := hr.kp k32 (by first | omega | exact fun q => q) (by first | omega | exact fun q => q)
  have hl := hl.kp k32 (fun t q1 q2 => by first | omega | exact fun q => q)
  refine r_putFA C hN dX7_init_159 flX7_66 rfl hs rfl rfl (fs2 := [vR pad, vR tr, vR bk, vR ims, vR kpa, vR rk, vR ao, vR al, vR ne]) rfl (fun h33 hs o33 => ?_)
  have k33 : Kp (fun t => t = 7) h32 h33 := o33.kp ‹_› rfl
  have ep := k33 _ _ _ ep (by first | omega | exact fun q => q)
  have eb := k33 _ _ _ eb (by first | omega | exact fun q => q)
  have et := k33 _ _ _ et (by first | omega | exact fun q => q)
  have etb := k33 _ _ _ etb (by first | omega | exact fun q => q)
  have ei := k33 _ _ _ ei (by first | omega | exact fun q => q)
  have ek := k33 _ _ _ ek (by first | omega | exact fun q => q)
  have q0 := k33 _ _ _ q0 (by first | omega | exact fun q => q)
  have q1 := k33 _ _ _ q1 (by first | omega | exact fun q => q)
  have q2 := k33 _ _ _ q2 (by first | omega | exact fun q => q)
  have q3 := k33 _ _ _ q3 (by first | omega | exact fun q => q)
  have hb := BkR.kp hb k33 (by first | omega | exact fun q => q) (by first | omega | exact fun q => q) (fun t q1 q2 => by first | omega | exact fun q => q)
  have hb0 := BkR.kp hb0 k33 (by first | omega | exact fun q => q) (by first | omega | exact fun q => q) (fun t q1 q2 => by first | omega | exact fun q => q)
  have hb1 := BkR.kp hb1 k33 (by first | omega | exact fun q => q) (by first | omega | exact fun q => q) (fun t q1 q2 => by first | omega | exact fun q => q)
  have hr := hr.kp k33 (by first | omega | exact fun q => q) (by first | omega | exact fun q => q)
  have hl := hl.kp k33 (fun t q1 q2 => by first | omega | exact fun q => q)
  have hne := hne.kp k33 (by first | omega | exact fun q => q) (by first | omega | exact fun q => q)
  have K : Kp SC h h33 := K.tr ((k31.mono (fun t q => q.elim)).tr ((k32.mono (fun t q => by omega)).tr (k33.mono (fun t q => by omega))))
  exact r_vret C dX7_init_162 (Nat.le_of_ble_eq_true rfl) (Nat.le_of_ble_eq_true rfl) ⟨rfl, ⟨pad, pb, tr, bk, ims, kpa, rk, ao, al, ne, i0, i1, nb', z1, z2, z3, fun _ => 0, fun _ => 0, fun _ => 0, fun _ => 0, fun _ => 0, fun _ => 0, fun _ => 0, _, 0, ⟨⟨hs, ep, eb, ei, ek⟩, ⟨rfl, rfl, hb0, hb1, fun _ _ _ => rfl⟩, by omega, by omega, fun i j0 j1 => by omega⟩, ⟨tb', 0, _, et, etb⟩, hb, ⟨y1, y2, y3, xw, _, _, fw, 0, 0, 0, 0, ⟨q0, q1, q2, q3⟩, hr, OkO_0 (fun _ _ _ => rfl)⟩, hl, OkS_0 (fun _ _ _ => rfl), hne⟩, K⟩
