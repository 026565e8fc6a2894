/-! BookShows, fourth part: held, stale, mend, images -/
section
variable {h : Pic} {x : Nat} {pn : Int} {pf : Int → Int} {vs pg : Int} {mn : Int → Int} {tx : Int → Int → Int} {tl du kp : Int → Int} {im : Int → Bs}
abbrev okPV (vs pg : Int) (tl : Int → Int) (p v : Int) : Prop := 0 ≤ p ∧ p < pg ∧ tl p = -6 ∧ 0 ≤ v ∧ v < vs
noncomputable def aHeld (vs pg : Int) (mn : Int → Int) (tx : Int → Int → Int) (tl du : Int → Int) (p v what : Int) : Int := if ¬ okPV vs pg tl p v then -1 else if what = 0 then (evV mn tx v p).1 else if what = 1 then zb (hold mn tx tl du v p) else if what = 2 then (evV mn tx v p).2.2 else -2
theorem C_held {p v what : Int} (hc : RC h x pn pf vs pg mn tx tl du kp im) (hI : IB vs pg mn tx tl du) : Meets yX7_held cX7_held 4 (some .int) 200 0 0 [vR x, vI p, vI v, vI what] h (pX (fun z h' => z = aHeld vs pg mn tx tl du p v what ∧ RC h' x pn pf vs pg mn tx tl du kp im ∧ Kp SC h h')) := by
  obtain ⟨pad, pb, tr, bk, ims, kpa, rk, ao, al, ne, i0, i1, nb, z1, z2, z3, gp, kf, kn, cs, kn2, no, f, fi, c, hra, htr, hb, ho, hl, hos, hne⟩ := id hc
  obtain ⟨⟨e0, e1, e2, e3, e4⟩, him, hp⟩ := id hra
  obtain ⟨nt, x1, x2, x3, x4, x5, ft, fs, f2, f4, f5, ⟨hbs, -⟩, -, hvs, hpg, -⟩ := id hb
  obtain ⟨y1, y2, y3, xw, ca, us, fw, pl, gv, op, uu, ⟨hots, -⟩, -⟩ := id ho
  refine Meets.of (plainFor_of_name (by decide)) (Nat.le_of_ble_eq_true rfl) (fun X C hX hN hA => ?_)
  refine r_aload_n C dX7_held_0 rfl ?_
  refine r_get C dX7_held_1 flX7_26 e0 rfl ?_
  refine r_iload_n C dX7_held_4 rfl ?_
  refine r_cVi C dX7_held_5 mlX7_146 kX0_isExample (m_isExample (p := p) hb) hbs rfl rfl rfl (Nat.le_of_ble_eq_true rfl) (fit hX (by decide)) ?_
  refine r_if_eq (tgt := 22) C dX7_held_8 (by decide) (fun hc8 => ?_) (fun hc8 => ?_)
  · have hn := zb_0.mp hc8
    have hv : aHeld vs pg mn tx tl du p v what = -1 := if_pos (fun z => hn ⟨z.1, z.2.1, z.2.2.1⟩)
    rw [hv]
    refine r_iconst C dX7_held_22 (by decide) ?_
    exact r_iret C dX7_held_23 (by decide) (by decide) ⟨_, rfl, rfl, hc, Kp.rf⟩
  obtain ⟨hp0, hp1, hex⟩ := zb_n0.mp hc8
  refine r_aload_n C dX7_held_11 rfl ?_
  refine r_get C dX7_held_12 flX7_26 e0 rfl ?_
  refine r_iload_n C dX7_held_15 rfl ?_
  refine r_cVi C dX7_held_16 mlX7_106 kX0_hasVersion (m_hasVersion (v := v) hb) hbs rfl rfl rfl (Nat.le_of_ble_eq_true rfl) (fit hX (by decide)) ?_
  refine r_if_ne (tgt := 24) C dX7_held_19 (by decide) (fun hc19 => ?_) (fun hc19 => ?_)
  rotate_left
  · have hn := zb_0.mp hc19
    have hv : aHeld vs pg mn tx tl du p v what = -1 := if_pos (fun z => hn ⟨z.2.2.2.1, z.2.2.2.2⟩)
    rw [hv]
    refine r_iconst C dX7_held_22 (by decide) ?_
    exact r_iret C dX7_held_23 (by decide) (by decide) ⟨_, rfl, rfl, hc, Kp.rf⟩
  obtain ⟨hv0, hv1⟩ := zb_n0.mp hc19
  have hv : aHeld vs pg mn tx tl du p v what = if what = 0 then (evV mn tx v p).1 else if what = 1 then zb (hold mn tx tl du v p) else if what = 2 then (evV mn tx v p).2.2 else -2 := if_neg (fun z => z ⟨hp0, hp1, hex, hv0, hv1⟩)
  rw [hv]
  refine r_aload_n C dX7_held_24 rfl ?_
  refine r_get C dX7_held_25 flX7_50 e0 rfl ?_
  refine r_iload_n C dX7_held_28 rfl ?_
  refine r_iload_n C dX7_held_29 rfl ?_
  refine r_cVv C dX7_held_30 mlX7_159 kX2_learn (m_Olearn (p := p) (v := v) ho hb hI.1 hp0 hp1 hv0 hv1) hots rfl rfl rfl (Nat.le_of_ble_eq_true rfl) (fit hX (by decide)) ?_
  rintro h1 ⟨kn1, ho1, k1, hm1, hd1⟩
  have hb1 : BkR h1 bk 10 vs pg mn tx tl du := hb.kp k1 (by omega) (by omega) (fun t q1 q2 => by omega)
  have hRC := RC_so hra htr hb hl hos hne k1 ho1
  have hKC : Kp SC h h1 := k1.mono (fun t q => by omega)
  have e01 := k1 _ _ _ e0 (by omega)
  have hots1 := k1 _ _ _ hots (by omega)
  refine r_iload_n C dX7_held_33 rfl ?_
  rcases (show what = 0 ∨ what = 1 ∨ what = 2 ∨ (what < 0 ∨ 2 < what) by omega) with rfl | rfl | rfl | hw
  · refine r_tableIn (off := 26) (tgt := 60) C dX7_held_34 (by decide) (by decide) rfl (by decide) ?_
    refine r_aload_n C dX7_held_60 rfl ?_
    refine r_get C dX7_held_61 flX7_50 e01 rfl ?_
    refine r_iload_n C dX7_held_64 rfl ?_
    refine r_iload_n C dX7_held_65 rfl ?_
    refine r_cVi C dX7_held_66 mlX7_163 kX2_of (m_of (p := p) (v := v) ho1 hb1 hp0 hp1 hex hv0 hv1 (hd1 hex)) hots1 rfl rfl rfl (Nat.le_of_ble_eq_true rfl) (fit hX (by decide)) ?_
    exact r_iret C dX7_held_69 (by decide) (by decide) ⟨_, rfl, rfl, hRC, hKC⟩
  · refine r_tableIn (off := 36) (tgt := 70) C dX7_held_34 (by decide) (by decide) rfl (by decide) ?_
    refine r_aload_n C dX7_held_70 rfl ?_
    refine r_get C dX7_held_71 flX7_50 e01 rfl ?_
    refine r_iload_n C dX7_held_74 rfl ?_
    refine r_iload_n C dX7_held_75 rfl ?_
    refine r_cVi C dX7_held_76 mlX7_167 kX2_holds (m_holds (p := p) (v := v) ho1 hb1 hp0 hp1 hv0 hv1 hd1) hots1 rfl rfl rfl (Nat.le_of_ble_eq_true rfl) (fit hX (by decide)) ?_
    refine r_if_eq (tgt := 86) C dX7_held_79 (by decide) (fun hc79 => ?_) (fun hc79 => ?_)
    · refine r_iconst C dX7_held_86 (by decide) ?_
      exact r_iret C dX7_held_87 (by decide) (by decide) ⟨_, rfl, by rw [if_neg (by decide), if_pos rfl, hc79], hRC, hKC⟩
    · refine r_iconst C dX7_held_82 (by decide) ?_
      refine r_goto (tgt := 87) C dX7_held_83 (by decide) ?_
      exact r_iret C dX7_held_87 (by decide) (by decide) ⟨_, rfl, by rw [if_neg (by decide), if_pos rfl, zb_t (zb_n0.mp hc79)], hRC, hKC⟩
  · refine r_tableIn (off := 54) (tgt := 88) C dX7_held_34 (by decide) (by decide) rfl (by decide) ?_
    refine r_aload_n C dX7_held_88 rfl ?_
    refine r_get C dX7_held_89 flX7_50 e01 rfl ?_
    refine r_iload_n C dX7_held_92 rfl ?_
    refine r_iload_n C dX7_held_93 rfl ?_
    refine r_cVi C dX7_held_94 mlX7_171 kX2_used (m_Oused (p := p) (v := v) ho1 hb1 hp0 hp1 hv0 hv1 hd1) hots1 rfl rfl rfl (Nat.le_of_ble_eq_true rfl) (fit hX (by decide)) ?_
    exact r_iret C dX7_held_97 (by decide) (by decide) ⟨_, rfl, by rw [if_pos hex, if_neg (by decide), if_neg (by decide), if_pos rfl], hRC, hKC⟩
  · refine r_tableOut (tgt := 98) C dX7_held_34 hw (by decide) ?_
    refine r_bipush C dX7_held_98 (by decide) ?_
    exact r_iret C dX7_held_100 (by decide) (by decide) ⟨_, rfl, by rw [if_neg (by omega), if_neg (by omega), if_neg (by omega)], hRC, hKC⟩
/-- from version i on, having held or not just ahead of it: the first in which it holds no more -/
noncomputable def stN (H : Int → Prop) (vs : Int) : Nat → Int → Int → Int
  | 0, _, _ => -6
  | j + 1, i, had => by classical exact if vs ≤ i then -6 else if ¬ had = 0 ∧ ¬ H i then i else stN H vs j (i + 1) (zb (H i))
theorem stN_e {H : Int → Prop} {vs i had : Int} {j : Nat} (h1 : vs ≤ i) : stN H vs (j + 1) i had = -6 := by
  conv => lhs; unfold stN
  exact if_pos h1
theorem stN_r {H : Int → Prop} {vs i had : Int} {j : Nat} (h1 : ¬ vs ≤ i) (h2 : ¬ had = 0 ∧ ¬ H i) : stN H vs (j + 1) i had = i := by
  conv => lhs; unfold stN
  rw [if_neg h1]
  exact if_pos h2
theorem stN_n {H : Int → Prop} {vs i had : Int} {j : Nat} (h1 : ¬ vs ≤ i) (h2 : ¬ (¬ had = 0 ∧ ¬ H i)) : stN H vs (j + 1) i had = stN H vs j (i + 1) (zb (H i)) := by
  conv => lhs; unfold stN
  rw [if_neg h1]
  exact if_neg h2
noncomputable def aStale (vs pg : Int) (mn : Int → Int) (tx : Int → Int → Int) (tl du : Int → Int) (p : Int) : Int := if ¬ (0 ≤ p ∧ p < pg ∧ tl p = -6) then -1 else stN (fun v => hold mn tx tl du v p) vs 7 0 0
theorem C_stale {p : Int} (hc : RC h x pn pf vs pg mn tx tl du kp im) (hI : IB vs pg mn tx tl du) : Meets yX7_stale cX7_stale 5 (some .int) 200 0 0 [vR x, vI p] h (pX (fun z h' => z = aStale vs pg mn tx tl du p ∧ RC h' x pn pf vs pg mn tx tl du kp im ∧ Kp SC h h')) := by
  obtain ⟨pad, pb, tr, bk, ims, kpa, rk, ao, al, ne, i0, i1, nb, z1, z2, z3, gp, kf, kn, cs, kn2, no, f, fi, c, hra, htr, hb, ho, hl, hos, hne⟩ := id hc
  obtain ⟨⟨e0, e1, e2, e3, e4⟩, him, hp⟩ := id hra
  obtain ⟨nt, x1, x2, x3, x4, x5, ft, fs, f2, f4, f5, ⟨hbs, -⟩, -, hvs, hpg, -⟩ := id hb
  refine Meets.of (plainFor_of_name (by decide)) (Nat.le_of_ble_eq_true rfl) (fun X C hX hN hA => ?_)
  refine r_aload_n C dX7_stale_0 rfl ?_
  refine r_get C dX7_stale_1 flX7_26 e0 rfl ?_
  refine r_iload_n C dX7_stale_4 rfl ?_
  refine r_cVi C dX7_stale_5 mlX7_146 kX0_isExample (m_isExample (p := p) hb) hbs rfl rfl rfl (Nat.le_of_ble_eq_true rfl) (fit hX (by decide)) ?_
  refine r_if_ne (tgt := 13) C dX7_stale_8 (by decide) (fun hc8 => ?_) (fun hc8 => ?_)
  rotate_left
  · have hv : aStale vs pg mn tx tl du p = -1 := if_pos (zb_0.mp hc8)
    rw [hv]
    refine r_iconst C dX7_stale_11 (by decide) ?_
    exact r_iret C dX7_stale_12 (by decide) (by decide) ⟨_, rfl, rfl, hc, Kp.rf⟩
  obtain ⟨hp0, hp1, hex⟩ := zb_n0.mp hc8
  have hv : aStale vs pg mn tx tl du p = stN (fun v => hold mn tx tl du v p) vs 7 0 0 := if_neg (fun z => z ⟨hp0, hp1, hex⟩)
  have loop : ∀ (j : Nat) (i had : Int) (h' : Pic) (kn' : Int → Int) (o4 : Option Va), 0 ≤ i → i ≤ vs → 6 - i < j → OS h' ao bk rk vs pg mn tx tl kn' → Kp SO h h' → stN (fun v => hold mn tx tl du v p) vs j i had = aStale vs pg mn tx tl du p →
      Go X (Qm X (pX (fun z h' => z = aStale vs pg mn tx tl du p ∧ RC h' x pn pf vs pg mn tx tl du kp im ∧ Kp SC h h')) 0 0) 0 0 h' 17 [some (vR x), some (vI p), some (vI had), some (vI i), o4] [] := by
    intro j
    induction j with
    | zero => intro i had h' kn' o4 g3 g4 g5; exact absurd g5 (by omega)
    | succ j ih =>
      intro i had h' kn' o4 g3 g4 g5 ho' k1 hst
      have hb1 : BkR h' bk 10 vs pg mn tx tl du := hb.kp k1 (by omega) (by omega) (fun t q1 q2 => by omega)
      have hbs1 := k1 _ _ _ hbs (by omega)
      have e01 := k1 _ _ _ e0 (by omega)
      obtain ⟨y1, y2, y3, xw, ca, us, fw, pl, gv, op, uu, ⟨hots, -⟩, -⟩ := id ho'
      refine r_iload_n C dX7_stale_17 rfl ?_
      refine r_aload_n C dX7_stale_18 rfl ?_
      refine r_get C dX7_stale_19 flX7_26 e01 rfl ?_
      refine r_cVi C dX7_stale_22 mlX7_83 kX0_versions (m_versions hb1) hbs1 rfl rfl rfl (Nat.le_of_ble_eq_true rfl) (fit hX (by decide)) ?_
      refine r_icmp_ge (tgt := 68) C dX7_stale_25 (by decide) (fun hc25 => ?_) (fun hc25 => ?_)
      · rw [stN_e (H := fun v => hold mn tx tl du v p) (vs := vs) (i := i) (had := had) (j := j) hc25] at hst
        refine r_bipush C dX7_stale_68 (by decide) ?_
        exact r_iret C dX7_stale_70 (by decide) (by decide) ⟨_, rfl, hst, RC_so hra htr hb hl hos hne k1 ho', k1.mono (fun t q => by omega)⟩
      refine r_aload_n C dX7_stale_28 rfl ?_
      refine r_get C dX7_stale_29 flX7_50 e01 rfl ?_
      refine r_iload_n C dX7_stale_32 rfl ?_
      refine r_iload_n C dX7_stale_33 rfl ?_
      refine r_cVv C dX7_stale_34 mlX7_159 kX2_learn (m_Olearn (p := p) (v := i) ho' hb1 hI.1 hp0 hp1 g3 hc25) hots rfl rfl rfl (Nat.le_of_ble_eq_true rfl) (fit hX (by decide)) ?_
      rintro h2 ⟨kn2', ho2, k2, hm2, hd2⟩
      have k12 := k1.tr k2
      have hb2 : BkR h2 bk 10 vs pg mn tx tl du := hb.kp k12 (by omega) (by omega) (fun t q1 q2 => by omega)
      have e02 := k12 _ _ _ e0 (by omega)
      have hots2 := k2 _ _ _ hots (by omega)
      refine r_aload_n C dX7_stale_37 rfl ?_
      refine r_get C dX7_stale_38 flX7_50 e02 rfl ?_
      refine r_iload_n C dX7_stale_41 rfl ?_
      refine r_iload_n C dX7_stale_42 rfl ?_
      refine r_cVi C dX7_stale_43 mlX7_167 kX2_holds (m_holds (p := p) (v := i) ho2 hb2 hp0 hp1 g3 hc25 hd2) hots2 rfl rfl rfl (Nat.le_of_ble_eq_true rfl) (fit hX (by decide)) ?_
      have hgo : ¬ (¬ had = 0 ∧ ¬ hold mn tx tl du i p) → Go X (Qm X (pX (fun z h' => z = aStale vs pg mn tx tl du p ∧ RC h' x pn pf vs pg mn tx tl du kp im ∧ Kp SC h h')) 0 0) 0 0 h2 59 [some (vR x), some (vI p), some (vI had), some (vI i), some (vI (zb (hold mn tx tl du i p)))] [] := by
        intro hcond
        rw [stN_n (H := fun v => hold mn tx tl du v p) (vs := vs) (i := i) (had := had) (j := j) (by omega) hcond] at hst
        refine r_iload C dX7_stale_59 rfl ?_
        refine r_istore_n C dX7_stale_61 (by decide) ?_
        refine r_iinc C dX7_stale_62 rfl (by decide) (by omega) ?_
        refine r_goto (tgt := 17) C dX7_stale_65 (by decide) ?_
        exact ih (i + 1) _ h2 kn2' _ (by omega) (by omega) (by omega) ho2 k12 hst
      refine r_istore C dX7_stale_46 (by decide) ?_
      refine r_iload_n C dX7_stale_48 rfl ?_
      refine r_if_eq (tgt := 59) C dX7_stale_49 (by decide) (fun hc49 => ?_) (fun hc49 => ?_)
      · exact hgo (fun z => z.1 hc49)
      refine r_iload C dX7_stale_52 rfl ?_
      refine r_if_ne (tgt := 59) C dX7_stale_54 (by decide) (fun hc54 => ?_) (fun hc54 => ?_)
      · exact hgo (fun z => z.2 (zb_n0.mp hc54))
      · rw [stN_r (H := fun v => hold mn tx tl du v p) (vs := vs) (i := i) (had := had) (j := j) (by omega) ⟨hc49, zb_0.mp hc54⟩] at hst
        refine r_iload_n C dX7_stale_57 rfl ?_
        exact r_iret C dX7_stale_58 (by decide) (by decide) ⟨_, rfl, hst, RC_so hra htr hb hl hos hne k12 ho2, k12.mono (fun t q => by omega)⟩
  refine r_iconst C dX7_stale_13 (by decide) ?_
  refine r_istore_n C dX7_stale_14 (by decide) ?_
  refine r_iconst C dX7_stale_15 (by decide) ?_
  refine r_istore_n C dX7_stale_16 (by decide) ?_
  exact loop 7 0 0 h kn none (by omega) (by omega) (by omega) ho Kp.rf hv.symm
def aMend (vs pg : Int) (mn : Int → Int) (tx : Int → Int → Int) (tl du : Int → Int) (p v : Int) : Int × (Int → Int) := if ¬ okPV vs pg tl p v then (-1, du) else if (evV mn tx v p).1 < 0 then (-5, du) else (du p, fu du p (evV mn tx v p).1)
theorem evV_rng {v p : Int} (hI : IB vs pg mn tx tl du) (hpv : okPV vs pg tl p v) : (evV mn tx v p).1 = -10 ∨ (evV mn tx v p).1 = -11 ∨ (0 ≤ (evV mn tx v p).1 ∧ (evV mn tx v p).1 ≤ 999) := by
  obtain ⟨p0, p1, hex, v0, v1⟩ := hpv
  have hpp := hI.1.2 p p0 p1 hex
  exact (ev_ok (gvN_ok (hI.1.1 v v0 v1) 20) 6 0 0 _ (0, 0) (Int.le_refl 0) hpp.2 (by omega) (Int.le_refl 0) (by omega) (Int.le_refl 0) (show (0 : Int) ≤ 300 by omega)).1
theorem C_mend {p v : Int} (hc : RC h x pn pf vs pg mn tx tl du kp im) (hI : IB vs pg mn tx tl du) : Meets yX7_mend cX7_mend 5 (some .int) 200 0 0 [vR x, vI p, vI v] h (pX (fun z h' => z = (aMend vs pg mn tx tl du p v).1 ∧ RC h' x pn pf vs pg mn tx tl (aMend vs pg mn tx tl du p v).2 kp im ∧ Kp SC h h')) := by
  obtain ⟨pad, pb, tr, bk, ims, kpa, rk, ao, al, ne, i0, i1, nb, z1, z2, z3, gp, kf, kn, cs, kn2, no, f, fi, c, hra, htr, hb, ho, hl, hos, hne⟩ := id hc
  obtain ⟨⟨e0, e1, e2, e3, e4⟩, him, hp⟩ := id hra
  obtain ⟨nt, x1, x2, x3, x4, x5, ft, fs, f2, f4, f5, ⟨hbs, -⟩, -, hvs, hpg, -⟩ := id hb
  obtain ⟨y1, y2, y3, xw, ca, us, fw, pl, gv, op, uu, ⟨hots, -⟩, -⟩ := id ho
  refine Meets.of (plainFor_of_name (by decide)) (Nat.le_of_ble_eq_true rfl) (fun X C hX hN hA => ?_)
  refine r_aload_n C dX7_mend_0 rfl ?_
  refine r_get C dX7_mend_1 flX7_26 e0 rfl ?_
  refine r_iload_n C dX7_mend_4 rfl ?_
  refine r_cVi C dX7_mend_5 mlX7_146 kX0_isExample (m_isExample (p := p) hb) hbs rfl rfl rfl (Nat.le_of_ble_eq_true rfl) (fit hX (by decide)) ?_
  refine r_if_eq (tgt := 22) C dX7_mend_8 (by decide) (fun hc8 => ?_) (fun hc8 => ?_)
  · have hn := zb_0.mp hc8
    have hv : aMend vs pg mn tx tl du p v = (-1, du) := if_pos (fun z => hn ⟨z.1, z.2.1, z.2.2.1⟩)
    rw [hv]
    refine r_iconst C dX7_mend_22 (by decide) ?_
    exact r_iret C dX7_mend_23 (by decide) (by decide) ⟨_, rfl, rfl, hc, Kp.rf⟩
  obtain ⟨hp0, hp1, hex⟩ := zb_n0.mp hc8
  refine r_aload_n C dX7_mend_11 rfl ?_
  refine r_get C dX7_mend_12 flX7_26 e0 rfl ?_
  refine r_iload_n C dX7_mend_15 rfl ?_
  refine r_cVi C dX7_mend_16 mlX7_106 kX0_hasVersion (m_hasVersion (v := v) hb) hbs rfl rfl rfl (Nat.le_of_ble_eq_true rfl) (fit hX (by decide)) ?_
  refine r_if_ne (tgt := 24) C dX7_mend_19 (by decide) (fun hc19 => ?_) (fun hc19 => ?_)
  rotate_left
  · have hn := zb_0.mp hc19
    have hv : aMend vs pg mn tx tl du p v = (-1, du) := if_pos (fun z => hn ⟨z.2.2.2.1, z.2.2.2.2⟩)
    rw [hv]
    refine r_iconst C dX7_mend_22 (by decide) ?_
    exact r_iret C dX7_mend_23 (by decide) (by decide) ⟨_, rfl, rfl, hc, Kp.rf⟩
  obtain ⟨hv0, hv1⟩ := zb_n0.mp hc19
  have hpv : okPV vs pg tl p v := ⟨hp0, hp1, hex, hv0, hv1⟩
  have hrng := evV_rng hI hpv
  refine r_aload_n C dX7_mend_24 rfl ?_
  refine r_get C dX7_mend_25 flX7_50 e0 rfl ?_
  refine r_iload_n C dX7_mend_28 rfl ?_
  refine r_iload_n C dX7_mend_29 rfl ?_
  refine r_cVv C dX7_mend_30 mlX7_159 kX2_learn (m_Olearn (p := p) (v := v) ho hb hI.1 hp0 hp1 hv0 hv1) hots rfl rfl rfl (Nat.le_of_ble_eq_true rfl) (fit hX (by decide)) ?_
  rintro h1 ⟨kn1, ho1, k1, hm1, hd1⟩
  have hb1 : BkR h1 bk 10 vs pg mn tx tl du := hb.kp k1 (by omega) (by omega) (fun t q1 q2 => by omega)
  have e01 := k1 _ _ _ e0 (by omega)
  have hbs1 := k1 _ _ _ hbs (by omega)
  have hots1 := k1 _ _ _ hots (by omega)
  refine r_aload_n C dX7_mend_33 rfl ?_
  refine r_get C dX7_mend_34 flX7_50 e01 rfl ?_
  refine r_iload_n C dX7_mend_37 rfl ?_
  refine r_iload_n C dX7_mend_38 rfl ?_
  refine r_cVi C dX7_mend_39 mlX7_163 kX2_of (m_of (p := p) (v := v) ho1 hb1 hp0 hp1 hex hv0 hv1 (hd1 hex)) hots1 rfl rfl rfl (Nat.le_of_ble_eq_true rfl) (fit hX (by decide)) ?_
  refine r_istore_n C dX7_mend_42 (by decide) ?_
  refine r_iload_n C dX7_mend_43 rfl ?_
  refine r_cSi C dX7_mend_44 mlX7_117 kX7_isNumber (m_isNumber (c := (evV mn tx v p).1)) rfl rfl (Nat.le_of_ble_eq_true rfl) (fit hX (by decide)) ?_
  refine r_if_ne (tgt := 53) C dX7_mend_47 (by decide) (fun hc47 => ?_) (fun hc47 => ?_)
  rotate_left
  · have hn := zb_0.mp hc47
    have hv : aMend vs pg mn tx tl du p v = (-5, du) := (if_neg (fun z => z hpv)).trans (if_pos (by omega))
    rw [hv]
    refine r_bipush C dX7_mend_50 (by decide) ?_
    exact r_iret C dX7_mend_52 (by decide) (by decide) ⟨_, rfl, rfl, RC_so hra htr hb hl hos hne k1 ho1, k1.mono (fun t q => by omega)⟩
  have hn := zb_n0.mp hc47
  have hv : aMend vs pg mn tx tl du p v = (du p, fu du p (evV mn tx v p).1) := (if_neg (fun z => z hpv)).trans (if_neg (by omega))
  rw [hv]
  refine r_aload_n C dX7_mend_53 rfl ?_
  refine r_get C dX7_mend_54 flX7_26 e01 rfl ?_
  refine r_iload_n C dX7_mend_57 rfl ?_
  refine r_cVi C dX7_mend_58 mlX7_149 kX0_due (m_due (p := p) hb1 hp0 hp1) hbs1 rfl rfl rfl (Nat.le_of_ble_eq_true rfl) (fit hX (by decide)) ?_
  refine r_istore C dX7_mend_61 (by decide) ?_
  refine r_aload_n C dX7_mend_63 rfl ?_
  refine r_get C dX7_mend_64 flX7_26 e01 rfl ?_
  refine r_iload_n C dX7_mend_67 rfl ?_
  refine r_iload_n C dX7_mend_68 rfl ?_
  refine r_cVv C dX7_mend_69 mlX7_220 kX0_setDue (m_setDue (p := p) (d := (evV mn tx v p).1) hb1 (by decide) hp0 hp1) hbs1 rfl rfl rfl (Nat.le_of_ble_eq_true rfl) (fit hX (by decide)) ?_
  rintro h2 ⟨hb2, k2⟩
  have k12 : Kp (fun t => t = 15 ∨ t = 42 ∨ t = 43 ∨ (45 ≤ t ∧ t ≤ 47)) h h2 := (k1.mono (fun t z => by omega)).tr (k2.mono (fun t z => by omega))
  have hl2 := hl.kp k12 (fun t q1 q2 => by omega)
  have e02 := k12 _ _ _ e0 (by omega)
  refine r_aload_n C dX7_mend_72 rfl ?_
  refine r_get C dX7_mend_73 flX7_59 e02 rfl ?_
  refine r_cVv C dX7_mend_76 mlX7_104 kX5_forget (m_Sforget hl2) hl2.1 rfl rfl rfl (Nat.le_of_ble_eq_true rfl) (fit hX (by decide)) ?_
  rintro h5 ⟨kn5, hl5, hz5, k5⟩
  have k15 : Kp (fun t => t = 15 ∨ t = 42 ∨ t = 43 ∨ (45 ≤ t ∧ t ≤ 47) ∨ t = 50) h h5 := (k12.mono (fun t z => by omega)).tr (k5.mono (fun t z => by omega))
  refine r_iload C dX7_mend_79 rfl ?_
  exact r_iret C dX7_mend_81 (by decide) (by decide) ⟨_, rfl, rfl, ⟨pad, pb, tr, bk, ims, kpa, rk, ao, al, ne, i0, i1, nb, z1, z2, z3, gp, kf, kn1, cs, kn5, no, f, fi, c, hra.kp k15 (fun t q => by omega) (fun t q1 q2 => by omega) (fun t q1 q2 => by omega), htr.kp k15 (by omega) (by omega), hb2.kp k5 (by omega) (by omega) (fun t q1 q2 => by omega), (ho1.kp k2 (fun t q1 q2 => by omega)).kp k5 (fun t q1 q2 => by omega), hl5, OkS_0 hz5, hne.kp k15 (by omega) (by omega)⟩, k15.mono (fun t q => by omega)⟩
/-- the book as it is -/
abbrev theB (vs pg : Int) (mn : Int → Int) (tx : Int → Int → Int) (tl du : Int → Int) : Bs := ((vs, pg), mn, tx, tl, du)
def aImage (kp : Int → Int) (im : Int → Bs) (b : Bs) (n : Int) : Int × (Int → Int) × (Int → Bs) := if ¬ (0 ≤ n ∧ n < 2) then (-2, kp, im) else (1, fu kp n 1, fu im n b)
theorem C_image {n : Int} (hc : RC h x pn pf vs pg mn tx tl du kp im) : Meets yX7_image cX7_image 2 (some .int) 200 0 0 [vR x, vI n] h (pX (fun z h' => z = (aImage kp im (theB vs pg mn tx tl du) n).1 ∧ RC h' x pn pf vs pg mn tx tl du (aImage kp im (theB vs pg mn tx tl du) n).2.1 (aImage kp im (theB vs pg mn tx tl du) n).2.2 ∧ Kp SC h h')) := by
  obtain ⟨pad, pb, tr, bk, ims, kpa, rk, ao, al, ne, i0, i1, nb, z1, z2, z3, gp, kf, kn, cs, kn2, no, f, fi, c, hra, htr, hb, ho, hl, hos, hne⟩ := id hc
  obtain ⟨⟨e0, e1, e2, e3, e4⟩, ⟨f0, f1, b0, b1, hk⟩, hp⟩ := id hra
  refine Meets.of (plainFor_of_name (by decide)) (Nat.le_of_ble_eq_true rfl) (fun X C hX hN hA => ?_)
  refine r_iload_n C dX7_image_0 rfl ?_
  refine r_cSi C dX7_image_1 mlX7_230 kX7_isImage (m_isImage (c := n)) rfl rfl (Nat.le_of_ble_eq_true rfl) (fit hX (by decide)) ?_
  refine r_if_ne (tgt := 10) C dX7_image_4 (by decide) (fun hc4 => ?_) (fun hc4 => ?_)
  rotate_left
  · have hv : aImage kp im (theB vs pg mn tx tl du) n = (-2, kp, im) := if_pos (zb_0.mp hc4)
    rw [hv]
    refine r_bipush C dX7_image_7 (by decide) ?_
    exact r_iret C dX7_image_9 (by decide) (by decide) ⟨_, rfl, rfl, hc, Kp.rf⟩
  have hnn := zb_n0.mp hc4
  have hv : aImage kp im (theB vs pg mn tx tl du) n = (1, fu kp n 1, fu im n (theB vs pg mn tx tl du)) := if_neg (by omega)
  rw [hv]
  rcases (show n = 0 ∨ n = 1 by omega) with rfl | rfl
  · obtain ⟨nt, x1, x2, x3, x4, x5, ft, fs, f2, f4, f5, ⟨hib, -⟩, -⟩ := id b0
    refine r_aload_n C dX7_image_10 rfl ?_
    refine r_get C dX7_image_11 flX7_30 e0 rfl ?_
    refine r_iload_n C dX7_image_14 rfl ?_
    refine r_aald C dX7_image_15 e3 (by omega) (by omega) f0 ?_
    refine r_aload_n C dX7_image_16 rfl ?_
    refine r_get C dX7_image_17 flX7_26 e0 rfl ?_
    refine r_cVv C dX7_image_20 mlX7_233 kX0_become (m_Bbecome b0 hb (by decide) (by decide)) hib rfl rfl rfl (Nat.le_of_ble_eq_true rfl) (fit hX (by decide)) ?_
    rintro h1 ⟨hb1, k1⟩
    have e01 := k1 _ _ _ e0 (by omega)
    have e41 := k1 _ _ _ e4 (by omega)
    refine r_aload_n C dX7_image_23 rfl ?_
    refine r_get C dX7_image_24 flX7_34 e01 rfl ?_
    refine r_iload_n C dX7_image_27 rfl ?_
    refine r_iconst C dX7_image_28 (by decide) ?_
    refine r_zastA C dX7_image_29 e41 (by omega) (by omega) (by omega) (fun h2 g2 o2 => ?_)
    have k2 : Kp (fun t => t = 9) h1 h2 := o2.kp e41 rfl
    have kk : Kp (fun t => t = 9 ∨ (20 ≤ t ∧ t ≤ 25)) h h2 := (k1.mono (fun t z => by omega)).tr (k2.mono (fun t z => by omega))
    refine r_iconst C dX7_image_30 (by decide) ?_
    refine r_iret C dX7_image_31 (by decide) (by decide) ⟨_, rfl, rfl, ⟨pad, pb, tr, bk, ims, kpa, rk, ao, al, ne, i0, i1, nb, z1, z2, z3, gp, fu kf 0 1, kn, cs, kn2, no, f, fi, c, ⟨⟨kk _ _ _ e0 (by omega), kk _ _ _ e1 (by omega), kk _ _ _ e2 (by omega), kk _ _ _ e3 (by omega), g2⟩, ⟨f0, f1, ?_, ?_, fun m m0 m1 => ?_⟩, hp⟩, htr.kp kk (by omega) (by omega), hb.kp kk (by omega) (by omega) (fun t q1 q2 => by omega), ho.kp kk (fun t q1 q2 => by omega), hl.kp kk (fun t q1 q2 => by omega), hos, hne.kp kk (by omega) (by omega)⟩, kk.mono (fun t q => by omega)⟩
    · show BkS h2 i0 20 (fu im 0 (theB vs pg mn tx tl du) 0)
      rw [fu_s]
      exact BkR.kp hb1 k2 (by omega) (by omega) (fun t q1 q2 => by omega)
    · show BkS h2 i1 30 (fu im 0 (theB vs pg mn tx tl du) 1)
      rw [fu_n (by omega)]
      exact BkR.kp b1 kk (by omega) (by omega) (fun t q1 q2 => by omega)
    · show fu kf 0 1 m = fu kp 0 1 m
      by_cases hm : m = 0
      · rw [hm, fu_s, fu_s]
      · rw [fu_n hm, fu_n hm]; exact hk m m0 m1
  · obtain ⟨nt, x1, x2, x3, x4, x5, ft, fs, f2, f4, f5, ⟨hib, -⟩, -⟩ := id b1
    refine r_aload_n C dX7_image_10 rfl ?_
    refine r_get C dX7_image_11 flX7_30 e0 rfl ?_
    refine r_iload_n C dX7_image_14 rfl ?_
    refine r_aald C dX7_image_15 e3 (by omega) (by omega) f1 ?_
    refine r_aload_n C dX7_image_16 rfl ?_
    refine r_get C dX7_image_17 flX7_26 e0 rfl ?_
    refine r_cVv C dX7_image_20 mlX7_233 kX0_become (m_Bbecome b1 hb (by decide) (by decide)) hib rfl rfl rfl (Nat.le_of_ble_eq_true rfl) (fit hX (by decide)) ?_
    rintro h1 ⟨hb1, k1⟩
    have e01 := k1 _ _ _ e0 (by omega)
    have e41 := k1 _ _ _ e4 (by omega)
    refine r_aload_n C dX7_image_23 rfl ?_
    refine r_get C dX7_image_24 flX7_34 e01 rfl ?_
    refine r_iload_n C dX7_image_27 rfl ?_
    refine r_iconst C dX7_image_28 (by decide) ?_
    refine r_zastA C dX7_image_29 e41 (by omega) (by omega) (by omega) (fun h2 g2 o2 => ?_)
    have k2 : Kp (fun t => t = 9) h1 h2 := o2.kp e41 rfl
    have kk : Kp (fun t => t = 9 ∨ (30 ≤ t ∧ t ≤ 35)) h h2 := (k1.mono (fun t z => by omega)).tr (k2.mono (fun t z => by omega))
    refine r_iconst C dX7_image_30 (by decide) ?_
    refine r_iret C dX7_image_31 (by decide) (by decide) ⟨_, rfl, rfl, ⟨pad, pb, tr, bk, ims, kpa, rk, ao, al, ne, i0, i1, nb, z1, z2, z3, gp, fu kf 1 1, kn, cs, kn2, no, f, fi, c, ⟨⟨kk _ _ _ e0 (by omega), kk _ _ _ e1 (by omega), kk _ _ _ e2 (by omega), kk _ _ _ e3 (by omega), g2⟩, ⟨f0, f1, ?_, ?_, fun m m0 m1 => ?_⟩, hp⟩, htr.kp kk (by omega) (by omega), hb.kp kk (by omega) (by omega) (fun t q1 q2 => by omega), ho.kp kk (fun t q1 q2 => by omega), hl.kp kk (fun t q1 q2 => by omega), hos, hne.kp kk (by omega) (by omega)⟩, kk.mono (fun t q => by omega)⟩
    · show BkS h2 i0 20 (fu im 1 (theB vs pg mn tx tl du) 0)
      rw [fu_n (by omega)]
      exact BkR.kp b0 kk (by omega) (by omega) (fun t q1 q2 => by omega)
    · show BkS h2 i1 30 (fu im 1 (theB vs pg mn tx tl du) 1)
      rw [fu_s]
      exact BkR.kp hb1 k2 (by omega) (by omega) (fun t q1 q2 => by omega)
    · show fu kf 1 1 m = fu kp 1 1 m
      by_cases hm : m = 1
      · rw [hm, fu_s, fu_s]
      · rw [fu_n hm, fu_n hm]; exact hk m m0 m1
def aRestore (kp : Int → Int) (im : Int → Bs) (b : Bs) (n : Int) : Int × Bs := if ¬ (0 ≤ n ∧ n < 2) then (-2, b) else if kp n = 0 then (-3, b) else (1, im n)
theorem C_restore {n : Int} (hc : RC h x pn pf vs pg mn tx tl du kp im) : Meets yX7_restore cX7_restore 2 (some .int) 200 0 0 [vR x, vI n] h (pX (fun z h' => z = (aRestore kp im (theB vs pg mn tx tl du) n).1 ∧ RC h' x pn pf (aRestore kp im (theB vs pg mn tx tl du) n).2.1.1 (aRestore kp im (theB vs pg mn tx tl du) n).2.1.2 (aRestore kp im (theB vs pg mn tx tl du) n).2.2.1 (aRestore kp im (theB vs pg mn tx tl du) n).2.2.2.1 (aRestore kp im (theB vs pg mn tx tl du) n).2.2.2.2.1 (aRestore kp im (theB vs pg mn tx tl du) n).2.2.2.2.2 kp im ∧ Kp SC h h')) := by
  obtain ⟨pad, pb, tr, bk, ims, kpa, rk, ao, al, ne, i0, i1, nb, z1, z2, z3, gp, kf, kn, cs, kn2, no, f, fi, c, hra, htr, hb, ho, hl, hos, hne⟩ := id hc
  obtain ⟨⟨e0, e1, e2, e3, e4⟩, ⟨f0, f1, b0, b1, hk⟩, hp⟩ := id hra
  obtain ⟨nt, x1, x2, x3, x4, x5, ft, fs, f2, f4, f5, ⟨hbs, -⟩, -⟩ := id hb
  obtain ⟨y1, y2, y3, xw, ca, us, fw, pl, gv, op, uu, ⟨hots, -⟩, -⟩ := id ho
  refine Meets.of (plainFor_of_name (by decide)) (Nat.le_of_ble_eq_true rfl) (fun X C hX hN hA => ?_)
  refine r_iload_n C dX7_restore_0 rfl ?_
  refine r_cSi C dX7_restore_1 mlX7_230 kX7_isImage (m_isImage (c := n)) rfl rfl (Nat.le_of_ble_eq_true rfl) (fit hX (by decide)) ?_
  refine r_if_ne (tgt := 10) C dX7_restore_4 (by decide) (fun hc4 => ?_) (fun hc4 => ?_)
  rotate_left
  · have hv : aRestore kp im (theB vs pg mn tx tl du) n = (-2, theB vs pg mn tx tl du) := if_pos (zb_0.mp hc4)
    rw [hv]
    refine r_bipush C dX7_restore_7 (by decide) ?_
    exact r_iret C dX7_restore_9 (by decide) (by decide) ⟨_, rfl, rfl, hc, Kp.rf⟩
  have hnn := zb_n0.mp hc4
  have hkn := hk n hnn.1 hnn.2
  refine r_aload_n C dX7_restore_10 rfl ?_
  refine r_get C dX7_restore_11 flX7_34 e0 rfl ?_
  refine r_iload_n C dX7_restore_14 rfl ?_
  refine r_zald C dX7_restore_15 e4 (by omega) (by omega) ?_
  refine r_if_ne (tgt := 22) C dX7_restore_16 (by decide) (fun hc16 => ?_) (fun hc16 => ?_)
  rotate_left
  · have hv : aRestore kp im (theB vs pg mn tx tl du) n = (-3, theB vs pg mn tx tl du) := (if_neg (by omega)).trans (if_pos (by omega))
    rw [hv]
    refine r_bipush C dX7_restore_19 (by decide) ?_
    exact r_iret C dX7_restore_21 (by decide) (by decide) ⟨_, rfl, rfl, hc, Kp.rf⟩
  have hv : aRestore kp im (theB vs pg mn tx tl du) n = (1, im n) := (if_neg (by omega)).trans (if_neg (by omega))
  rw [hv]
  have hgo : ∀ h1, BkR h1 bk 10 (im n).1.1 (im n).1.2 (im n).2.1 (im n).2.2.1 (im n).2.2.2.1 (im n).2.2.2.2 → Kp (fun t => 10 ≤ t ∧ t ≤ 15) h h1 → Go X (Qm X (pX (fun z h' => z = ((1, im n) : Int × Bs).1 ∧ RC h' x pn pf ((1, im n) : Int × Bs).2.1.1 ((1, im n) : Int × Bs).2.1.2 ((1, im n) : Int × Bs).2.2.1 ((1, im n) : Int × Bs).2.2.2.1 ((1, im n) : Int × Bs).2.2.2.2.1 ((1, im n) : Int × Bs).2.2.2.2.2 kp im ∧ Kp SC h h')) 0 0) 0 0 h1 35 [some (vR x), some (vI n)] [] := by
    intro h1 hb1 k1
    have ho1 := ho.kp k1 (fun t q1 q2 => by omega)
    have e01 := k1 _ _ _ e0 (by omega)
    refine r_aload_n C dX7_restore_35 rfl ?_
    refine r_get C dX7_restore_36 flX7_50 e01 rfl ?_
    refine r_cVv C dX7_restore_39 mlX7_237 kX2_forgetAll (m_OforgetAll ho1) (k1 _ _ _ hots (by omega)) rfl rfl rfl (Nat.le_of_ble_eq_true rfl) (fit hX (by decide)) ?_
    rintro h2 ⟨kn', ho2, k2, hz2⟩
    have k12 : Kp (fun t => (10 ≤ t ∧ t ≤ 15) ∨ t = 45) h h2 := (k1.mono (fun t z => by omega)).tr (k2.mono (fun t z => by omega))
    have hl2 := hl.kp k12 (fun t q1 q2 => by omega)
    have e02 := k12 _ _ _ e0 (by omega)
    refine r_aload_n C dX7_restore_42 rfl ?_
    refine r_get C dX7_restore_43 flX7_59 e02 rfl ?_
    refine r_cVv C dX7_restore_46 mlX7_104 kX5_forget (m_Sforget hl2) hl2.1 rfl rfl rfl (Nat.le_of_ble_eq_true rfl) (fit hX (by decide)) ?_
    rintro h5 ⟨kn5, hl5, hz5, k5⟩
    have k15 : Kp (fun t => (10 ≤ t ∧ t ≤ 15) ∨ t = 45 ∨ t = 50) h h5 := (k12.mono (fun t z => by omega)).tr (k5.mono (fun t z => by omega))
    refine r_iconst C dX7_restore_49 (by decide) ?_
    obtain ⟨y1', y2', y3', xw', ca', us', fw', pl', gv', op', uu', hot', hr', -⟩ := ho2.kp k5 (fun t q1 q2 => by omega)
    exact r_iret C dX7_restore_50 (by decide) (by decide) ⟨_, rfl, rfl, ⟨pad, pb, tr, bk, ims, kpa, rk, ao, al, ne, i0, i1, nb, z1, z2, z3, gp, kf, kn', cs, kn5, no, f, fi, c, hra.kp k15 (fun t q => by omega) (fun t q1 q2 => by omega) (fun t q1 q2 => by omega), htr.kp k15 (by omega) (by omega), (hb1.kp k2 (by omega) (by omega) (fun t q1 q2 => by omega)).kp k5 (by omega) (by omega) (fun t q1 q2 => by omega), ⟨y1', y2', y3', xw', ca', us', fw', pl', gv', op', uu', hot', hr', OkO_0 hz2⟩, hl5, OkS_0 hz5, hne.kp k15 (by omega) (by omega)⟩, k15.mono (fun t q => by omega)⟩
  rcases (show n = 0 ∨ n = 1 by omega) with rfl | rfl
  · refine r_aload_n C dX7_restore_22 rfl ?_
    refine r_get C dX7_restore_23 flX7_26 e0 rfl ?_
    refine r_aload_n C dX7_restore_26 rfl ?_
    refine r_get C dX7_restore_27 flX7_30 e0 rfl ?_
    refine r_iload_n C dX7_restore_30 rfl ?_
    refine r_aald C dX7_restore_31 e3 (by omega) (by omega) f0 ?_
    refine r_cVv C dX7_restore_32 mlX7_233 kX0_become (m_Bbecome hb b0 (by decide) (by decide)) hbs rfl rfl rfl (Nat.le_of_ble_eq_true rfl) (fit hX (by decide)) ?_
    rintro h1 ⟨hb1, k1⟩
    exact hgo h1 hb1 k1
  · refine r_aload_n C dX7_restore_22 rfl ?_
    refine r_get C dX7_restore_23 flX7_26 e0 rfl ?_
    refine r_aload_n C dX7_restore_26 rfl ?_
    refine r_get C dX7_restore_27 flX7_30 e0 rfl ?_
    refine r_iload_n C dX7_restore_30 rfl ?_
    refine r_aald C dX7_restore_31 e3 (by omega) (by omega) f1 ?_
    refine r_cVv C dX7_restore_32 mlX7_233 kX0_become (m_Bbecome hb b1 (by decide) (by decide)) hbs rfl rfl rfl (Nat.le_of_ble_eq_true rfl) (fit hX (by decide)) ?_
    rintro h1 ⟨hb1, k1⟩
    exact hgo h1 hb1 k1
end
