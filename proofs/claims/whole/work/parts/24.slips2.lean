/-! Slips, second part: who notices them -/
/-- the trial text: tags 3, 4 -/
def TrR (h : Pic) (tr : Nat) : Prop := ∃ (b : Nat) (n : Int) (g : Int → Int), h tr = some (ob 3 6 [vR b, vI n]) ∧ h b = some (ia 4 1 40 g)
theorem TrR.kp {h h' : Pic} {S : Nat → Prop} {tr : Nat} (ht : TrR h tr) (x : Kp S h h') (h3 : ¬ S 3) (h4 : ¬ S 4) : TrR h' tr := by
  obtain ⟨b, n, g, e1, e2⟩ := ht
  exact ⟨b, n, g, x _ _ _ e1 h3, x _ _ _ e2 h4⟩
theorem slp_nd {c : Int} (h : ¬ slp c = -6) : nd (slp c) = nd c := by
  unfold slp at *
  unfold nd
  (repeat' split at h) <;> (repeat' split) <;> omega
theorem slp_rng {c : Int} (h : ¬ slp c = -6) : 0 ≤ slp c ∧ slp c ≤ 126 := by
  unfold slp at *
  (repeat' split at h) <;> (repeat' split) <;> omega
theorem pe_nd {n : Int} {f f' : Int → Int} (hf : ∀ k, 0 ≤ k → k < n → nd (f k) = nd (f' k)) : ∀ (d : Nat), pe n f d = pe n f' d := by
  have hs : ∀ p, nd (sgn n f p) = nd (sgn n f' p) := by
    intro p
    by_cases h : 0 ≤ p ∧ p < n
    · rw [sgn_in h.1 h.2, sgn_in h.1 h.2, hf p h.1 h.2]
    · unfold sgn
      rw [if_neg h, if_neg h]
  intro d
  induction d with
  | zero =>
    funext p
    show (if nd (sgn n f p) < 0 ∨ 0 < nd (sgn n f p) then -1 - p else p + 1) = (if nd (sgn n f' p) < 0 ∨ 0 < nd (sgn n f' p) then -1 - p else p + 1)
    rw [hs]
  | succ d ih =>
    funext p
    show (if nd (sgn n f p) < 0 then -1 - p else pit (pe n f d) (nd (sgn n f p)).toNat (p + 1)) = (if nd (sgn n f' p) < 0 then -1 - p else pit (pe n f' d) (nd (sgn n f' p)).toNat (p + 1))
    rw [hs, ih]
theorem okW_S {mn : Int → Int} {tx : Int → Int → Int} {v q : Int} (hw : okW (fun w => mn (8 * v + w)) (fun w => tx (8 * v + w))) (hS : isS mn tx v q) : okW (fun w => mn (8 * v + w)) (wtS tx v q) := by
  intro w h0 h1
  rcases hw w h0 h1 with h2 | ⟨h2, h3⟩
  · exact Or.inl h2
  · refine Or.inr ⟨h2, ?_⟩
    by_cases hq : w = q / 40
    · have e : wtS tx v q w = fu (tx (8 * v + q / 40)) (q % 40) (slp (tx (8 * v + q / 40) (q % 40))) := if_pos hq
      have hpe : pe (mn (8 * v + w)) (wtS tx v q w) 6 = pe (mn (8 * v + w)) (tx (8 * v + w)) 6 := by
        refine pe_nd (fun kz kz0 kz1 => ?_) 6
        rw [e]
        by_cases hk : kz = q % 40
        · rw [hk, fu_s, slp_nd hS.2, hq]
        · rw [fu_n hk, hq]
      show pe (mn (8 * v + w)) (wtS tx v q w) 6 0 = mn (8 * v + w)
      rw [hpe]
      exact h3
    · have e : wtS tx v q w = tx (8 * v + w) := if_neg hq
      show pe (mn (8 * v + w)) (wtS tx v q w) 6 0 = mn (8 * v + w)
      rw [e]
      exact h3
section
variable {h : Pic} {al bk ao rk tr : Nat} {vs pg : Int} {mn : Int → Int} {tx : Int → Int → Int} {tl du kn : Int → Int}
abbrev SN : Nat → Prop := fun t => t = 3 ∨ t = 4 ∨ t = 42 ∨ t = 43
theorem m_reckonNoticers {v q : Int} {z1 z2 z3 : Nat} {cs kn2 no : Int → Int} (hl : SlR h al bk ao rk tr z1 z2 z3 cs kn2 no) (ho : OS h ao bk rk vs pg mn tx tl kn) (hb : BkR h bk 10 vs pg mn tx tl du) (htr : TrR h tr) (hok : okB vs pg mn tx tl) (hdu : ∀ p, 0 ≤ p → p < pg → tl p = -6 → 0 ≤ du p) (hv : 0 ≤ v) (hv2 : v < vs) (hq0 : 0 ≤ q) (hq1 : q < 320) (hS : isS mn tx v q) (hkn : ∀ p, 0 ≤ p → p < pg → tl p = -6 → ¬ kn (v * 12 + p) = 0) :
    Meets yX5_reckonNoticers cX5_reckonNoticers 7 (some .int) 190 0 0 [vR al, vI v, vI (q / 40), vI (q % 40)] h (pX (fun z h' => z = bt (ntc mn tx tl du v q) pg ∧ OS h' ao bk rk vs pg mn tx tl kn ∧ TrR h' tr ∧ Kp SN h h')) := by
  obtain ⟨y1, y2, y3, xw, ca, us, fw, pl, gv, op, uu, ⟨hos, oe1, oe2, oe3⟩, hr, hOk⟩ := id ho
  obtain ⟨nt, x1, x2, x3, x4, x5, ft, fs, f2, f4, f5, ⟨hbs, -⟩, -, hvs, hpg, -⟩ := id hb
  obtain ⟨bt', nn, gt, ht1, ht2⟩ := id htr
  obtain ⟨hs, -⟩ := id hl
  have hw0 : 0 ≤ q / 40 := by omega
  have hw8 : q / 40 < 8 := by omega
  refine Meets.of (plainFor_of_name (by decide)) (Nat.le_of_ble_eq_true rfl) (fun X C hX hN hA => ?_)
  refine r_aload_n C dX5_reckonNoticers_0 rfl ?_
  refine r_get C dX5_reckonNoticers_1 flX5_15 hs rfl ?_
  refine r_iload_n C dX5_reckonNoticers_4 rfl ?_
  refine r_cVi C dX5_reckonNoticers_5 mlX5_70 kX2_holding (m_holding (v := v) ho hb hv hv2 hkn) hos rfl rfl rfl (Nat.le_of_ble_eq_true rfl) (fit hX (by decide)) ?_
  refine r_aload_n C dX5_reckonNoticers_8 rfl ?_
  refine r_get C dX5_reckonNoticers_9 flX5_15 hs rfl ?_
  refine r_iload_n C dX5_reckonNoticers_12 rfl ?_
  refine r_iload_n C dX5_reckonNoticers_13 rfl ?_
  refine r_cVi C dX5_reckonNoticers_14 mlX5_75 kX2_users (m_users (v := v) (w := q / 40) ho hb hv hv2 hw0 hw8 hkn) hos rfl rfl rfl (Nat.le_of_ble_eq_true rfl) (fit hX (by decide)) ?_
  refine r_iand C dX5_reckonNoticers_17 ?_
  refine r_istore C dX5_reckonNoticers_18 (by decide) ?_
  refine r_aload_n C dX5_reckonNoticers_20 rfl ?_
  refine r_get C dX5_reckonNoticers_21 flX5_23 hs rfl ?_
  refine r_aload_n C dX5_reckonNoticers_24 rfl ?_
  refine r_get C dX5_reckonNoticers_25 flX5_9 hs rfl ?_
  refine r_iload_n C dX5_reckonNoticers_28 rfl ?_
  refine r_iload_n C dX5_reckonNoticers_29 rfl ?_
  refine r_cVy C dX5_reckonNoticers_30 mlX5_38 kX0_text (m_text (v := v) (w := q / 40) hb hv hv2 hw0 hw8) hbs rfl rfl rfl (Nat.le_of_ble_eq_true rfl) (fit hX (by decide)) ?_
  rintro tq h' ⟨rfl, htq⟩
  obtain ⟨tq', bq, mq, gq, eqq, hq1', hq2', hn0, hnm, hn40, hgq⟩ := id htq
  cases eqq
  refine r_cVv C dX5_reckonNoticers_33 mlX5_79 kX6_become (m_become ht1 ht2 hq1' hq2' (by decide) (by decide) hn0 hn40 (Int.le_refl 40) hnm hgq) ht1 rfl rfl rfl (Nat.le_of_ble_eq_true rfl) (fit hX (by decide)) ?_
  rintro h1 ⟨g1, c1, c2, c3, c4, c5⟩
  have hab := ne_of ht1 ht2 (fun z => by cases z)
  have k1 : Kp SN h' h1 := fun a t b e n => (c3 a (by
    have n1 : a ≠ tr := ne_of e ht1 (fun z => n (by cases z; exact Or.inl rfl))
    have n2 : a ≠ bt' := ne_of e ht2 (fun z => n (by cases z; exact Or.inr (Or.inl rfl)))
    simp [n1, n2])).trans e
  have hs1 := k1 _ _ _ hs (by omega)
  have hkk : q % 40 < mn (8 * v + q / 40) := hS.1
  have htx1 : TxR h1 tr (mn (8 * v + q / 40)) (tx (8 * v + q / 40)) := ⟨bt', 3, 4, 40, g1, c1, c2, hn0, hn40, hn40, fun i i0 i1 => ⟨c4 i i0 i1, (hgq i i0 i1).2.1, (hgq i i0 i1).2.2⟩⟩
  refine r_aload_n C dX5_reckonNoticers_36 rfl ?_
  refine r_get C dX5_reckonNoticers_37 flX5_23 hs1 rfl ?_
  refine r_iload_n C dX5_reckonNoticers_40 rfl ?_
  refine r_aload_n C dX5_reckonNoticers_41 rfl ?_
  refine r_get C dX5_reckonNoticers_42 flX5_23 hs1 rfl ?_
  refine r_iload_n C dX5_reckonNoticers_45 rfl ?_
  refine r_cVi C dX5_reckonNoticers_46 mlX5_50 kX6_sign (m_sign htx1 (p := q % 40)) c1 rfl rfl rfl (Nat.le_of_ble_eq_true rfl) (fit hX (by decide)) ?_
  rw [sgn_in (by omega) hkk]
  refine r_cSi C dX5_reckonNoticers_49 mlX5_54 kX4_slipped (m_slipped (c := tx (8 * v + q / 40) (q % 40))) rfl rfl (Nat.le_of_ble_eq_true rfl) (fit hX (by decide)) ?_
  have hsr := slp_rng hS.2
  refine r_cVv C dX5_reckonNoticers_52 mlX5_83 kX6_put (m_put (p := q % 40) (c := slp (tx (8 * v + q / 40) (q % 40))) c1 c2 (by omega) hkk hn40 (by omega)) c1 rfl rfl rfl (Nat.le_of_ble_eq_true rfl) (fit hX (by decide)) ?_
  rintro h2 rfl
  have o2 : Off [bt'] h1 (pu h1 bt' (ia 4 1 40 (fu g1 (q % 40) (slp (tx (8 * v + q / 40) (q % 40)))))) := off1
  have d2 : pu h1 bt' (ia 4 1 40 (fu g1 (q % 40) (slp (tx (8 * v + q / 40) (q % 40))))) bt' = some (ia 4 1 40 (fu g1 (q % 40) (slp (tx (8 * v + q / 40) (q % 40))))) := pu_s
  generalize pu h1 bt' (ia 4 1 40 (fu g1 (q % 40) (slp (tx (8 * v + q / 40) (q % 40))))) = h2 at o2 d2 ⊢
  have k2 : Kp (fun t => t = 4) h1 h2 := o2.kp c2 rfl
  have k12 : Kp SN h' h2 := k1.tr (k2.mono (fun t z => Or.inr (Or.inl z)))
  have d1 := k2 _ _ _ c1 (by omega)
  have k12b : Kp (fun t => t = 3 ∨ t = 4) h' h2 := fun a t b e n => by
    have n1 : a ≠ tr := ne_of e ht1 (fun z => n (by cases z; exact Or.inl rfl))
    have n2 : a ≠ bt' := ne_of e ht2 (fun z => n (by cases z; exact Or.inr rfl))
    exact (o2 a (by simp [n2])).trans ((c3 a (by simp [n1, n2])).trans e)
  have hr2 := hr.kp k12b (by omega) (by omega)
  have hb2 : BkR h2 bk 10 vs pg mn tx tl du := hb.kp k12 (by omega) (by omega) (fun t q1 q2 => by omega)
  have hs2 := k12 _ _ _ hs (by omega)
  refine r_aload_n C dX5_reckonNoticers_55 rfl ?_
  refine r_get C dX5_reckonNoticers_56 flX5_19 hs2 rfl ?_
  refine r_aload_n C dX5_reckonNoticers_59 rfl ?_
  refine r_get C dX5_reckonNoticers_60 flX5_9 hs2 rfl ?_
  refine r_iload_n C dX5_reckonNoticers_63 rfl ?_
  refine r_cVv C dX5_reckonNoticers_64 mlX5_87 kX3_take (m_take hr2 hb2 (by decide) (by decide) hv hv2) hr2.1 rfl rfl rfl (Nat.le_of_ble_eq_true rfl) (fit hX (by decide)) ?_
  rintro h3 ⟨fw3, hr3, k3, hww⟩
  have hs3 := k3 _ _ _ hs2 (by omega)
  have d13 := k3 _ _ _ d1 (by omega)
  have d23 := k3 _ _ _ d2 (by omega)
  refine r_aload_n C dX5_reckonNoticers_67 rfl ?_
  refine r_get C dX5_reckonNoticers_68 flX5_19 hs3 rfl ?_
  refine r_iload_n C dX5_reckonNoticers_71 rfl ?_
  refine r_aload_n C dX5_reckonNoticers_72 rfl ?_
  refine r_get C dX5_reckonNoticers_73 flX5_23 hs3 rfl ?_
  refine r_cVv C dX5_reckonNoticers_76 mlX5_93 kX3_replace (m_replace (w := q / 40) hr3 d13 hw0 hw8) hr3.1 rfl rfl rfl (Nat.le_of_ble_eq_true rfl) (fit hX (by decide)) ?_
  rintro h4 ⟨hr4, k4⟩
  have k34 := k3.tr k4
  have k14 : Kp SN h' h4 := k12.tr (k34.mono (fun t z => by omega))
  have d14 := k4 _ _ _ d13 (by omega)
  have d24 := k4 _ _ _ d23 (by omega)
  have htx4 : TxR h4 tr (mn (8 * v + q / 40)) (wtS tx v q (q / 40)) := ⟨bt', 3, 4, 40, _, d14, d24, hn0, hn40, hn40, fun i i0 i1 => by
    have e : wtS tx v q (q / 40) = fu (tx (8 * v + q / 40)) (q % 40) (slp (tx (8 * v + q / 40) (q % 40))) := if_pos rfl
    rw [e]
    by_cases hi : i = q % 40
    · rw [hi, fu_s, fu_s]; exact ⟨rfl, hsr⟩
    · rw [fu_n hi, fu_n hi]; exact ⟨c4 i i0 i1, (hgq i i0 i1).2.1, (hgq i i0 i1).2.2⟩⟩
  have hW4 : WdR h4 (fu fw3 (q / 40) (some tr)) (fun w => mn (8 * v + w)) (wtS tx v q) := by
    intro w w0 w1
    by_cases hwq : w = q / 40
    · rw [hwq, fu_s]; exact ⟨tr, rfl, htx4⟩
    · rw [fu_n hwq]
      obtain ⟨z, bz, mz, gz, ez, rz⟩ := (hww w w0 w1).kp k4 (by omega) (by omega)
      refine ⟨z, ez, bz, 5, 6, mz, gz, ?_⟩
      have e : wtS tx v q w = tx (8 * v + w) := if_neg hwq
      rw [e]
      exact rz
  have hokS := okW_S (hok.1 v hv hv2) hS
  have loop : ∀ (j : Nat) (i : Int) (h5 : Pic) (pl5 gv5 op5 us5 : Int), 0 ≤ i → i ≤ pg → pg - i < j → RkR h5 rk xw (fu fw3 (q / 40) (some tr)) pl5 gv5 op5 us5 → Kp (fun t => t = 42) h4 h5 →
      Go X (Qm X (pX (fun z h'' => z = bt (ntc mn tx tl du v q) pg ∧ OS h'' ao bk rk vs pg mn tx tl kn ∧ TrR h'' tr ∧ Kp SN h' h'')) 0 0) 0 0 h5 85 [some (vR al), some (vI v), some (vI (q / 40)), some (vI (q % 40)), some (vI (bAnd (bt (hold mn tx tl du v) pg) (bt (uses mn tx tl v (q / 40)) pg))), some (vI (bt (ntc mn tx tl du v q) i)), some (vI i)] [] := by
    intro j
    induction j with
    | zero => intro i h5 pl5 gv5 op5 us5 g3 g4 g5; exact absurd g5 (by omega)
    | succ j ih =>
      intro i h5 pl5 gv5 op5 us5 g3 g4 g5 hr5 k5
      have k15 : Kp SN h' h5 := k14.tr (k5.mono (fun t z => by omega))
      have hb5 : BkR h5 bk 10 vs pg mn tx tl du := hb.kp k15 (by omega) (by omega) (fun t q1 q2 => by omega)
      have hbs5 := k15 _ _ _ hbs (by omega)
      have hs5 := k15 _ _ _ hs (by omega)
      refine r_iload C dX5_reckonNoticers_85 rfl ?_
      refine r_aload_n C dX5_reckonNoticers_87 rfl ?_
      refine r_get C dX5_reckonNoticers_88 flX5_9 hs5 rfl ?_
      refine r_cVi C dX5_reckonNoticers_91 mlX5_97 kX0_pages (m_pages hb5) hbs5 rfl rfl rfl (Nat.le_of_ble_eq_true rfl) (fit hX (by decide)) ?_
      refine r_icmp_ge (tgt := 152) C dX5_reckonNoticers_94 (by decide) (fun hc94 => ?_) (fun hc94 => ?_)
      · refine r_iload C dX5_reckonNoticers_152 rfl ?_
        refine r_iret C dX5_reckonNoticers_154 (by decide) (by decide) ⟨_, rfl, by rw [show i = pg by omega], ⟨y1, y2, y3, xw, ca, us, _, pl5, gv5, op5, us5, ⟨k15 _ _ _ hos (by omega), k15 _ _ _ oe1 (by omega), k15 _ _ _ oe2 (by omega), k15 _ _ _ oe3 (by omega)⟩, hr5, hOk⟩, ⟨bt', _, _, k5 _ _ _ d14 (by omega), k5 _ _ _ d24 (by omega)⟩, k15⟩
      have hbit : bAnd (bShr (bAnd (bt (hold mn tx tl du v) pg) (bt (uses mn tx tl v (q / 40)) pg)) i) 1 = 1 ↔ (hold mn tx tl du v i ∧ uses mn tx tl v (q / 40) i) := by
        obtain ⟨jn, rfl⟩ := Int.eq_ofNat_of_zero_le g3
        rw [bit_1 g3 (by omega), tb_and, Bool.and_eq_true]
        show tb _ jn = true ∧ tb _ jn = true ↔ _
        rw [tb_bt (by omega) (by omega), tb_bt (by omega) (by omega)]
        exact ⟨fun z => ⟨z.1.2, z.2.2⟩, fun z => ⟨⟨by omega, z.1⟩, by omega, z.2⟩⟩
      refine r_iload C dX5_reckonNoticers_97 rfl ?_
      refine r_iload C dX5_reckonNoticers_99 rfl ?_
      refine r_ishr C dX5_reckonNoticers_101 ?_
      refine r_iconst C dX5_reckonNoticers_102 (by decide) ?_
      refine r_iand C dX5_reckonNoticers_103 ?_
      refine r_iconst C dX5_reckonNoticers_104 (by decide) ?_
      refine r_icmp_ne (tgt := 146) C dX5_reckonNoticers_105 (by decide) (fun hc105 => ?_) (fun hc105 => ?_)
      · -- not asked
        have hno : ¬ ntc mn tx tl du v q i := by
          intro z
          have hnu : ¬ uses mn tx tl v (q / 40) i := fun u => hc105 (hbit.mpr ⟨z.1, u⟩)
          apply z.2
          have hvd := hdu i g3 (by omega) z.1.1
          have hbit0 : tb (evV mn tx v i).2.2 (q / 40).toNat = false := by
            cases hb0 : tb (evV mn tx v i).2.2 (q / 40).toNat with
            | false => rfl
            | true => exact absurd ⟨z.1.1, (bit_1 hw0 (by omega)).mpr hb0⟩ hnu
          have e := evT_unus (w0 := q / 40) hw0 hw8 (wn := fun w => mn (8 * v + w)) (wt := fun w => tx (8 * v + w)) (wn' := fun w => mn (8 * v + w)) (wt' := wtS tx v q) (n := mn (48 + i)) (f := tx (48 + i)) (x := 0) (fun w w0 w1 wne => ⟨rfl, if_neg wne⟩) (by show 0 ≤ (evV mn tx v i).1; rw [z.1.2]; exact hvd) hbit0
          show (evT _ _ _ _ 0).1 = _
          rw [e]
          exact z.1.2
        refine r_iinc C dX5_reckonNoticers_146 rfl (by decide) (by omega) ?_
        refine r_goto (tgt := 85) C dX5_reckonNoticers_149 (by decide) ?_
        have hz := ih (i + 1) h5 pl5 gv5 op5 us5 (by omega) (by omega) (by omega) hr5 k5
        rw [bt_f g3 hno] at hz
        exact hz
      have hau := hbit.mp hc105
      have hW5 : WdR h5 (fu fw3 (q / 40) (some tr)) (fun w => mn (8 * v + w)) (wtS tx v q) := by
        intro w w0 w1
        by_cases hwq : w = q / 40
        · rw [hwq, fu_s]
          refine ⟨tr, rfl, ?_⟩
          obtain ⟨bz, tz, tz', mz, gz, rz1, rz2, rz3⟩ := htx4
          cases d14.symm.trans rz1
          cases d24.symm.trans rz2
          exact ⟨_, _, _, _, _, k5 _ _ _ d14 (by omega), k5 _ _ _ d24 (by omega), rz3⟩
        · rw [fu_n hwq]
          obtain ⟨z, bz, mz, gz, ez, rz⟩ := ((hww w w0 w1).kp k4 (by omega) (by omega)).kp k5 (by omega) (by omega)
          refine ⟨z, ez, bz, 5, 6, mz, gz, ?_⟩
          have e : wtS tx v q w = tx (8 * v + w) := if_neg hwq
          rw [e]
          exact rz
      have hex := hau.1.1
      refine r_aload_n C dX5_reckonNoticers_108 rfl ?_
      refine r_get C dX5_reckonNoticers_109 flX5_19 hs5 rfl ?_
      refine r_aload_n C dX5_reckonNoticers_112 rfl ?_
      refine r_get C dX5_reckonNoticers_113 flX5_9 hs5 rfl ?_
      refine r_iload C dX5_reckonNoticers_116 rfl ?_
      refine r_cVy C dX5_reckonNoticers_118 mlX5_100 kX0_example (m_example (p := i) hb5 g3 (by omega)) hbs5 rfl rfl rfl (Nat.le_of_ble_eq_true rfl) (fit hX (by decide)) ?_
      rintro eq h6 ⟨rfl, hteq⟩
      refine r_iconst C dX5_reckonNoticers_121 (by decide) ?_
      refine r_cVx C dX5_reckonNoticers_122 mlX5_104 kX3_outcome (m_outcome hokS hr5 (hW5) hteq.R (hok.2 i g3 (by omega) hex).2 (Int.le_refl 0) (by omega)) hr5.1 rfl rfl rfl (Nat.le_of_ble_eq_true rfl) (fit hX (by decide)) ?_
      rintro v1 h7 ⟨hv1, pl7, gv7, op7, hr7, o7⟩
      have k7 : Kp (fun t => t = 42) h6 h7 := o7.kp hr5.1 rfl
      have k57 := k5.tr k7
      have k17 : Kp SN h' h7 := k14.tr (k57.mono (fun t z => by omega))
      have hb7 : BkR h7 bk 10 vs pg mn tx tl du := hb.kp k17 (by omega) (by omega) (fun t q1 q2 => by omega)
      have hbs7 := k17 _ _ _ hbs (by omega)
      have hs7 := k17 _ _ _ hs (by omega)
      refine r_aload_n C dX5_reckonNoticers_125 rfl ?_
      refine r_get C dX5_reckonNoticers_126 flX5_9 hs7 rfl ?_
      refine r_iload C dX5_reckonNoticers_129 rfl ?_
      refine r_cVi C dX5_reckonNoticers_131 mlX5_108 kX0_due (m_due (p := i) hb7 g3 (by omega)) hbs7 rfl rfl rfl (Nat.le_of_ble_eq_true rfl) (fit hX (by decide)) ?_
      refine r_icmp_eq (tgt := 146) C dX5_reckonNoticers_134 (by decide) (fun hc134 => ?_) (fun hc134 => ?_)
      · refine r_iinc C dX5_reckonNoticers_146 rfl (by decide) (by omega) ?_
        refine r_goto (tgt := 85) C dX5_reckonNoticers_149 (by decide) ?_
        have hz := ih (i + 1) h7 pl7 gv7 op7 _ (by omega) (by omega) (by omega) hr7 k57
        rw [bt_f g3 (fun z => z.2 (by show (evT _ _ _ _ 0).1 = _; rw [← hv1]; exact hc134))] at hz
        exact hz
      · refine r_iload C dX5_reckonNoticers_137 rfl ?_
        refine r_iconst C dX5_reckonNoticers_139 (by decide) ?_
        refine r_iload C dX5_reckonNoticers_140 rfl ?_
        refine r_ishl C dX5_reckonNoticers_142 ?_
        refine r_ior C dX5_reckonNoticers_143 ?_
        refine r_istore C dX5_reckonNoticers_144 (by decide) ?_
        refine r_iinc C dX5_reckonNoticers_146 rfl (by decide) (by omega) ?_
        refine r_goto (tgt := 85) C dX5_reckonNoticers_149 (by decide) ?_
        have hz := ih (i + 1) h7 pl7 gv7 op7 _ (by omega) (by omega) (by omega) hr7 k57
        rw [bt_t g3 ⟨hau.1, fun z => hc134 (by rw [hv1]; exact z)⟩] at hz
        exact hz
  refine r_iconst C dX5_reckonNoticers_79 (by decide) ?_
  refine r_istore C dX5_reckonNoticers_80 (by decide) ?_
  refine r_iconst C dX5_reckonNoticers_82 (by decide) ?_
  refine r_istore C dX5_reckonNoticers_83 (by decide) ?_
  exact loop (pg.toNat + 1) 0 h4 pl gv op uu (by omega) (by omega) (by omega) hr4 Kp.rf
end
