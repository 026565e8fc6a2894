/-! BookShows, second part: words, versions, pages -/
theorem OS.rk {h h' : Pic} {ao bk rk : Nat} {vs pg : Int} {mn : Int → Int} {tx : Int → Int → Int} {tl kn : Int → Int} (ho : OS h ao bk rk vs pg mn tx tl kn) (k : Kp (fun t => t = 42 ∨ t = 43) h h') {xw : Nat} {fw : Int → Option Nat} {pl gv op us : Int} (hr : RkR h' rk xw fw pl gv op us) : OS h' ao bk rk vs pg mn tx tl kn := by
  obtain ⟨y1, y2, y3, xw0, ca, us0, fw0, pl0, gv0, op0, uu, ⟨e0, e1, e2, e3⟩, -, hk⟩ := ho
  exact ⟨y1, y2, y3, xw, ca, us0, fw, pl, gv, op, us, ⟨k _ _ _ e0 (by omega), k _ _ _ e1 (by omega), k _ _ _ e2 (by omega), k _ _ _ e3 (by omega)⟩, hr, hk⟩
theorem OS.to {h : Pic} {ao bk rk : Nat} {vs pg vs' pg' : Int} {mn mn' : Int → Int} {tx tx' : Int → Int → Int} {tl tl' kn : Int → Int} (ho : OS h ao bk rk vs pg mn tx tl kn) (hok : okB vs pg mn tx tl) (hv : vs ≤ vs') (hp : pg ≤ pg') (hA : ∀ v p, 0 ≤ v → v < vs → 0 ≤ p → p < pg → ¬ kn (v * 12 + p) = 0 → AgV mn mn' tx tx' v) (hP : ∀ p, 0 ≤ p → p < pg → AgP mn mn' tx tx' p ∧ tl' p = tl p) : OS h ao bk rk vs' pg' mn' tx' tl' kn := by
  obtain ⟨y1, y2, y3, xw0, ca, us0, fw0, pl0, gv0, op0, uu, hot, hr, hk⟩ := ho
  exact ⟨y1, y2, y3, xw0, ca, us0, fw0, pl0, gv0, op0, uu, hot, hr, OkO_ag hk hok hv hp hA hP⟩
section
variable {h : Pic} {x : Nat} {pn : Int} {pf : Int → Int} {vs pg : Int} {mn : Int → Int} {tx : Int → Int → Int} {tl du kp : Int → Int} {im : Int → Bs}
def aVer (vs : Int) (mn : Int → Int) (tx : Int → Int → Int) : Int × Int × (Int → Int) × (Int → Int → Int) := if 6 ≤ vs then (-4, vs, mn, tx) else (vs, vs + 1, mnA vs mn 8, mnA vs tx 8)
theorem C_version (hc : RC h x pn pf vs pg mn tx tl du kp im) (hI : IB vs pg mn tx tl du) : Meets yX7_version cX7_version 1 (some .int) 200 0 0 [vR x] h (pX (fun z h' => z = (aVer vs mn tx).1 ∧ RC h' x pn pf (aVer vs mn tx).2.1 pg (aVer vs mn tx).2.2.1 (aVer vs mn tx).2.2.2 tl du kp im ∧ Kp SC h h')) := by
  obtain ⟨pad, pb, tr, bk, ims, kpa, rk, ao, al, ne, i0, i1, nb, z1, z2, z3, gp, kf, kn, cs, kn2, no, f, fi, c, hra, htr, hb, ho, hl, hos, hne⟩ := id hc
  obtain ⟨⟨e0, e1, e2, e3, e4⟩, him, hp⟩ := id hra
  obtain ⟨nt, x1, x2, x3, x4, x5, ft, fs, f2, f4, f5, ⟨hbs, -⟩, -, hvs, hpg, -⟩ := id hb
  refine Meets.of (plainFor_of_name (by decide)) (Nat.le_of_ble_eq_true rfl) (fun X C hX hN hA => ?_)
  refine r_aload_n C dX7_version_0 rfl ?_
  refine r_get C dX7_version_1 flX7_26 e0 rfl ?_
  refine r_cVi C dX7_version_4 mlX7_83 kX0_versions (m_versions hb) hbs rfl rfl rfl (Nat.le_of_ble_eq_true rfl) (fit hX (by decide)) ?_
  refine r_bipush C dX7_version_7 (by decide) ?_
  refine r_icmp_lt (tgt := 15) C dX7_version_9 (by decide) (fun hc9 => ?_) (fun hc9 => ?_)
  rotate_left
  · have hv : aVer vs mn tx = (-4, vs, mn, tx) := if_pos hc9
    rw [hv]
    refine r_bipush C dX7_version_12 (by decide) ?_
    exact r_iret C dX7_version_14 (by decide) (by decide) ⟨_, rfl, rfl, hc, Kp.rf⟩
  have hv : aVer vs mn tx = (vs, vs + 1, mnA vs mn 8, mnA vs tx 8) := if_neg (by omega)
  rw [hv]
  refine r_aload_n C dX7_version_15 rfl ?_
  refine r_get C dX7_version_16 flX7_26 e0 rfl ?_
  refine r_cVx C dX7_version_19 mlX7_86 kX0_addVersion (m_addVersion hb (by decide) hc9) hbs rfl rfl rfl (Nat.le_of_ble_eq_true rfl) (fit hX (by decide)) ?_
  rintro z1' h1 ⟨rfl, hb1, k1⟩
  have hAV : ∀ v, 0 ≤ v → v < z1' → AgV mn (mnA z1' mn 8) tx (mnA z1' tx 8) v := fun v v0 v1 w w0 w1 => ⟨mnA_lo (by omega), mnA_lo (by omega)⟩
  have hAP : ∀ p, 0 ≤ p → p < pg → AgP mn (mnA z1' mn 8) tx (mnA z1' tx 8) p := fun p p0 p1 => ⟨if_neg (by omega), if_neg (by omega)⟩
  exact r_iret C dX7_version_22 (by decide) (by decide) ⟨_, rfl, rfl, ⟨pad, pb, tr, bk, ims, kpa, rk, ao, al, ne, i0, i1, nb, z1, z2, z3, gp, kf, kn, cs, kn2, no, f, fi, c, hra.kp k1 (fun t q => by omega) (fun t q1 q2 => by omega) (fun t q1 q2 => by omega), htr.kp k1 (by omega) (by omega), hb1, (ho.kp k1 (fun t q1 q2 => by omega)).to hI.1 (show z1' ≤ z1' + 1 by omega) (Int.le_refl _) (fun v p v0 v1 _ _ _ => hAV v v0 v1) (fun p p0 p1 => ⟨hAP p p0 p1, rfl⟩), hl.kp k1 (fun t q1 q2 => by omega), OkS_ag hos hI.1 (show z1' ≤ z1' + 1 by omega) hpg.1 (Or.inl rfl) (fun v v0 v1 _ => hAV v v0 v1) (fun p p0 p1 => ⟨hAP p p0 p1, rfl, fun _ => rfl⟩), hne.kp k1 (by omega) (by omega)⟩, k1.mono (fun t z => by omega)⟩
/-- the pad's text, kept: a text of the pool more -/
theorem copy_pool {h1 : Pic} {q : Nat} {n : Int} {f : Int → Int} (hn : 0 ≤ n ∧ n ≤ 40) (hf : ∀ i, 0 ≤ i → i < n → 0 ≤ f i ∧ f i ≤ 126) (hq : ∃ qb g', h q = none ∧ h qb = none ∧ q ≠ qb ∧ h1 q = some (ob 5 6 [vR qb, vI n]) ∧ h1 qb = some (ia 6 1 n g') ∧ Off [q, qb] h h1 ∧ ∀ i, 0 ≤ i → i < n → g' i = f i) : TxP h1 (some q) n f ∧ Kp (fun _ => False) h h1 := by
  obtain ⟨qb, g', q1, q2, q3, q4, q5, q6, q7⟩ := hq
  refine ⟨⟨q, qb, n, g', rfl, q4, q5, hn.1, Int.le_refl _, hn.2, fun i j0 j1 => ⟨q7 i j0 j1, hf i j0 j1⟩⟩, q6.kpN (fun z hz => ?_)⟩
  rcases List.mem_cons.mp hz with rfl | hz
  · exact q1
  · rw [List.mem_singleton.mp hz]; exact q2
def aWord (pn : Int) (pf : Int → Int) (vs : Int) (mn : Int → Int) (tx : Int → Int → Int) (w : Int) : Int × Int × (Int → Int) × (Int → Int → Int) := if ¬ (0 ≤ w ∧ w < 8) then (-1, pn, mn, tx) else if 0 < pn ∧ ¬ flt pn pf = -6 then (-5, pn, mn, tx) else (pn, 0, fu mn (8 * (vs - 1) + w) pn, fu tx (8 * (vs - 1) + w) pf)
theorem C_word {w : Int} (hc : RC h x pn pf vs pg mn tx tl du kp im) (hI : IB vs pg mn tx tl du) : Meets yX7_word cX7_word 3 (some .int) 200 2 42 [vR x, vI w] h (pX (fun z h' => z = (aWord pn pf vs mn tx w).1 ∧ RC h' x (aWord pn pf vs mn tx w).2.1 pf vs pg (aWord pn pf vs mn tx w).2.2.1 (aWord pn pf vs mn tx w).2.2.2 tl du kp im ∧ Kp SC h h')) := by
  obtain ⟨pad, pb, tr, bk, ims, kpa, rk, ao, al, ne, i0, i1, nb, z1, z2, z3, gp, kf, kn, cs, kn2, no, f, fi, c, hra, htr, hb, ho, hl, hos, hne⟩ := id hc
  obtain ⟨⟨e0, e1, e2, e3, e4⟩, him, hp⟩ := id hra
  obtain ⟨nt, x1, x2, x3, x4, x5, ft, fs, f2, f4, f5, ⟨hbs, -⟩, -, hvs, hpg, -⟩ := id hb
  have htx := PadR e1 e2 hp
  refine Meets.of (plainFor_of_name (by decide)) (Nat.le_of_ble_eq_true rfl) (fun X C hX hN hA => ?_)
  refine r_iload_n C dX7_word_0 rfl ?_
  refine r_cSi C dX7_word_1 mlX7_89 kX7_isWord (m_isWord (c := w)) rfl rfl (Nat.le_of_ble_eq_true rfl) (fit hX (by decide)) ?_
  refine r_if_ne (tgt := 9) C dX7_word_4 (by decide) (fun hc4 => ?_) (fun hc4 => ?_)
  rotate_left
  · have hv : aWord pn pf vs mn tx w = (-1, pn, mn, tx) := if_pos (zb_0.mp hc4)
    rw [hv]
    refine r_iconst C dX7_word_7 (by decide) ?_
    exact r_iret C dX7_word_8 (by decide) (by decide) ⟨_, rfl, rfl, hc, Kp.rf⟩
  have hww := zb_n0.mp hc4
  refine r_aload_n C dX7_word_9 rfl ?_
  refine r_get C dX7_word_10 flX7_14 e0 rfl ?_
  refine r_cVi C dX7_word_13 mlX7_70 kX6_count (m_count htx) e1 rfl rfl rfl (Nat.le_of_ble_eq_true rfl) (fit hX (by decide)) ?_
  have hgo : (0 < pn → flt pn pf = -6) → Go X (Qm X (pX (fun z h' => z = (aWord pn pf vs mn tx w).1 ∧ RC h' x (aWord pn pf vs mn tx w).2.1 pf vs pg (aWord pn pf vs mn tx w).2.2.1 (aWord pn pf vs mn tx w).2.2.2 tl du kp im ∧ Kp SC h h')) 2 42) 0 0 h 36 [some (vR x), some (vI w), some (vI pn)] [] := by
    intro hfl
    have hv : aWord pn pf vs mn tx w = (pn, 0, fu mn (8 * (vs - 1) + w) pn, fu tx (8 * (vs - 1) + w) pf) := (if_neg (by omega)).trans (if_neg (fun z => z.2 (hfl z.1)))
    rw [hv]
    refine r_aload_n C dX7_word_36 rfl ?_
    refine r_get C dX7_word_37 flX7_26 e0 rfl ?_
    refine r_iload_n C dX7_word_40 rfl ?_
    refine r_aload_n C dX7_word_41 rfl ?_
    refine r_get C dX7_word_42 flX7_14 e0 rfl ?_
    refine r_cVy C dX7_word_45 mlX7_93 kX6_copy (m_copy (f := pf) e1 e2 (by decide) (by decide) hp.1 hp.2.1 hp.2.1 (fun i j0 j1 => ⟨(hp.2.2 i j0 j1).1, by have := (hp.2.2 i j0 j1).2.1; omega, (hp.2.2 i j0 j1).2.2⟩)) e1 rfl rfl rfl (Nat.le_of_ble_eq_true rfl) (fit hX (by omega)) ?_
    intro q h1 hq
    obtain ⟨htp, k1⟩ := copy_pool ⟨hp.1, hp.2.1⟩ (fun i j0 j1 => ⟨by have := (hp.2.2 i j0 j1).2.1; omega, (hp.2.2 i j0 j1).2.2⟩) hq
    have hb1 := hb.kp k1 (fun z => z) (fun z => z) (fun t q1 q2 z => z)
    refine r_cVv C dX7_word_48 mlX7_97 kX0_rewrite (m_rewrite (w := w) hb1 (by decide) htp hww.1 hww.2) (k1 _ _ _ hbs (fun z => z)) rfl rfl rfl (Nat.le_of_ble_eq_true rfl) (fit hX (by omega)) ?_
    rintro h2 ⟨hb2, k2⟩
    have k12 : Kp (fun t => t = 11) h h2 := (k1.mono (fun t z => z.elim)).tr k2
    have hra2 := hra.kp k12 (fun t q => by omega) (fun t q1 q2 => by omega) (fun t q1 q2 => by omega)
    obtain ⟨⟨d0, d1, d2, d3, d4⟩, -, -⟩ := id hra2
    refine r_aload_n C dX7_word_51 rfl ?_
    refine r_get C dX7_word_52 flX7_14 d0 rfl ?_
    refine r_cVv C dX7_word_55 mlX7_77 kX6_clear (m_clear d1) d1 rfl rfl rfl (Nat.le_of_ble_eq_true rfl) (fit hX (by omega)) ?_
    intro h3 hz
    obtain ⟨k3, hra3⟩ := pad_clear hra2 hz
    have k13 : Kp (fun t => t = 1 ∨ t = 11) h h3 := (k12.mono (fun t z => Or.inr z)).tr (k3.mono (fun t z => Or.inl z))
    have hb3 := hb2.kp k3 (by omega) (by omega) (fun t q1 q2 => by omega)
    have ho3 := ho.kp k13 (fun t q1 q2 => by omega)
    have hl3 := hl.kp k13 (fun t q1 q2 => by omega)
    obtain ⟨⟨g0, g1, g2, g3, g4⟩, -, -⟩ := id hra3
    obtain ⟨nt', x1', x2', x3', x4', x5', ft', fs', f2', f4', f5', ⟨hbs3, -⟩, -⟩ := id hb3
    obtain ⟨y1, y2, y3, xw, ca, us, fw, pl, gv, op, uu, ⟨hos3, -⟩, -⟩ := id ho3
    refine r_aload_n C dX7_word_58 rfl ?_
    refine r_get C dX7_word_59 flX7_50 g0 rfl ?_
    refine r_aload_n C dX7_word_62 rfl ?_
    refine r_get C dX7_word_63 flX7_26 g0 rfl ?_
    refine r_cVi C dX7_word_66 mlX7_83 kX0_versions (m_versions hb3) hbs3 rfl rfl rfl (Nat.le_of_ble_eq_true rfl) (fit hX (by omega)) ?_
    refine r_iconst C dX7_word_69 (by decide) ?_
    refine r_isub C dX7_word_70 (by omega) ?_
    refine r_cVv C dX7_word_71 mlX7_101 kX2_forget (m_Oforget (v := vs - 1) ho3 (by omega) (by omega)) hos3 rfl rfl rfl (Nat.le_of_ble_eq_true rfl) (fit hX (by omega)) ?_
    rintro h4 ⟨kn4, ho4, k4, hm4, hd4⟩
    have hra4 := hra3.kp k4 (fun t q => by omega) (fun t q1 q2 => by omega) (fun t q1 q2 => by omega)
    have hl4 := hl3.kp k4 (fun t q1 q2 => by omega)
    obtain ⟨⟨g04, -⟩, -, -⟩ := id hra4
    refine r_aload_n C dX7_word_74 rfl ?_
    refine r_get C dX7_word_75 flX7_59 g04 rfl ?_
    refine r_cVv C dX7_word_78 mlX7_104 kX5_forget (m_Sforget hl4) hl4.1 rfl rfl rfl (Nat.le_of_ble_eq_true rfl) (fit hX (by omega)) ?_
    rintro h5 ⟨kn5, hl5, hz5, k5⟩
    have k45 : Kp (fun t => t = 45 ∨ t = 50) h3 h5 := (k4.mono (fun t z => Or.inl z)).tr (k5.mono (fun t z => Or.inr z))
    have k15 : Kp (fun t => t = 1 ∨ t = 11 ∨ t = 45 ∨ t = 50) h h5 := (k13.mono (fun t z => by omega)).tr (k45.mono (fun t z => by omega))
    refine r_iload_n C dX7_word_81 rfl ?_
    refine r_iret C dX7_word_82 (by decide) (by omega) ⟨_, rfl, rfl, ⟨pad, pb, tr, bk, ims, kpa, rk, ao, al, ne, i0, i1, nb, z1, z2, z3, gp, kf, kn4, cs, kn5, no, f, fi, c, hra4.kp k5 (fun t q => by omega) (fun t q1 q2 => by omega) (fun t q1 q2 => by omega), htr.kp k15 (by omega) (by omega), hb3.kp k45 (by omega) (by omega) (fun t q1 q2 => by omega), (ho4.kp k5 (fun t q1 q2 => by omega)).to hI.1 (Int.le_refl _) (Int.le_refl _) (fun v p v0 v1 p0 p1 hkk => ?_) (fun p p0 p1 => ⟨⟨fu_n (by omega), fu_n (by omega)⟩, rfl⟩), hl5, OkS_0 hz5, hne.kp k15 (by omega) (by omega)⟩, k15.mono (fun t z => by omega)⟩
    have hvl : v ≠ vs - 1 := fun e => hkk (by rw [e]; exact hd4 p p0 (by omega))
    exact fun w' w0 w1 => ⟨fu_n (by omega), fu_n (by omega)⟩
  refine r_istore_n C dX7_word_16 (by decide) ?_
  refine r_iload_n C dX7_word_17 rfl ?_
  refine r_if_le (tgt := 36) C dX7_word_18 (by decide) (fun hc18 => ?_) (fun hc18 => ?_)
  · exact hgo (fun q => by omega)
  refine r_aload_n C dX7_word_21 rfl ?_
  refine r_get C dX7_word_22 flX7_14 e0 rfl ?_
  refine r_cVi C dX7_word_25 mlX7_80 kX6_firstFault (m_firstFault htx) e1 rfl rfl rfl (Nat.le_of_ble_eq_true rfl) (fit hX (by decide)) ?_
  refine r_bipush C dX7_word_28 (by decide) ?_
  refine r_icmp_eq (tgt := 36) C dX7_word_30 (by decide) (fun hc30 => ?_) (fun hc30 => ?_)
  · exact hgo (fun _ => hc30)
  have hv : aWord pn pf vs mn tx w = (-5, pn, mn, tx) := (if_neg (by omega)).trans (if_pos ⟨hc18, hc30⟩)
  rw [hv]
  refine r_bipush C dX7_word_33 (by decide) ?_
  exact r_iret C dX7_word_35 (by decide) (by decide) ⟨_, rfl, rfl, hc, Kp.rf⟩
noncomputable def aComes (pn : Int) (pf : Int → Int) (vs : Int) (mn : Int → Int) (tx : Int → Int → Int) (v g : Int) : Int := if ¬ (0 ≤ v ∧ v < vs) then -1 else if ¬ (0 ≤ g ∧ g < 1000) then -2 else if ¬ flt pn pf = -6 then -5 else (evT (fun w => mn (8 * v + w)) (fun w => tx (8 * v + w)) pn pf g).1
theorem flt_ok {n : Int} {f : Int → Int} (hn : 0 ≤ n) (h : flt n f = -6) : pe n f 6 0 = n := by
  have hr := pe_rng n f 6 0 (Int.le_refl 0) hn
  unfold flt at h
  (repeat' split at h) <;> omega
theorem C_comes {v g : Int} (hc : RC h x pn pf vs pg mn tx tl du kp im) (hI : IB vs pg mn tx tl du) : Meets yX7_comes cX7_comes 3 (some .int) 200 0 0 [vR x, vI v, vI g] h (pX (fun z h' => z = aComes pn pf vs mn tx v g ∧ RC h' x pn pf vs pg mn tx tl du kp im ∧ Kp SC h h')) := by
  obtain ⟨pad, pb, tr, bk, ims, kpa, rk, ao, al, ne, i0, i1, nb, z1, z2, z3, gp, kf, kn, cs, kn2, no, f, fi, c, hra, htr, hb, ho, hl, hos, hne⟩ := id hc
  obtain ⟨⟨e0, e1, e2, e3, e4⟩, him, hp⟩ := id hra
  obtain ⟨nt, x1, x2, x3, x4, x5, ft, fs, f2, f4, f5, ⟨hbs, -⟩, -, hvs, hpg, -⟩ := id hb
  obtain ⟨y1, y2, y3, xw, ca, us, fw, pl, gv, op, uu, -, hr, -⟩ := id ho
  have htx := PadR e1 e2 hp
  refine Meets.of (plainFor_of_name (by decide)) (Nat.le_of_ble_eq_true rfl) (fun X C hX hN hA => ?_)
  refine r_aload_n C dX7_comes_0 rfl ?_
  refine r_get C dX7_comes_1 flX7_26 e0 rfl ?_
  refine r_iload_n C dX7_comes_4 rfl ?_
  refine r_cVi C dX7_comes_5 mlX7_106 kX0_hasVersion (m_hasVersion (v := v) hb) hbs rfl rfl rfl (Nat.le_of_ble_eq_true rfl) (fit hX (by decide)) ?_
  refine r_if_ne (tgt := 13) C dX7_comes_8 (by decide) (fun hc8 => ?_) (fun hc8 => ?_)
  rotate_left
  · have hv : aComes pn pf vs mn tx v g = -1 := if_pos (zb_0.mp hc8)
    rw [hv]
    refine r_iconst C dX7_comes_11 (by decide) ?_
    exact r_iret C dX7_comes_12 (by decide) (by decide) ⟨_, rfl, rfl, hc, Kp.rf⟩
  have hvv := zb_n0.mp hc8
  refine r_iload_n C dX7_comes_13 rfl ?_
  refine r_cSi C dX7_comes_14 mlX7_117 kX7_isNumber (m_isNumber (c := g)) rfl rfl (Nat.le_of_ble_eq_true rfl) (fit hX (by decide)) ?_
  refine r_if_ne (tgt := 23) C dX7_comes_17 (by decide) (fun hc17 => ?_) (fun hc17 => ?_)
  rotate_left
  · have hv : aComes pn pf vs mn tx v g = -2 := (if_neg (by omega)).trans (if_pos (zb_0.mp hc17))
    rw [hv]
    refine r_bipush C dX7_comes_20 (by decide) ?_
    exact r_iret C dX7_comes_22 (by decide) (by decide) ⟨_, rfl, rfl, hc, Kp.rf⟩
  have hgg := zb_n0.mp hc17
  refine r_aload_n C dX7_comes_23 rfl ?_
  refine r_get C dX7_comes_24 flX7_14 e0 rfl ?_
  refine r_cVi C dX7_comes_27 mlX7_80 kX6_firstFault (m_firstFault htx) e1 rfl rfl rfl (Nat.le_of_ble_eq_true rfl) (fit hX (by decide)) ?_
  refine r_bipush C dX7_comes_30 (by decide) ?_
  refine r_icmp_eq (tgt := 38) C dX7_comes_32 (by decide) (fun hc32 => ?_) (fun hc32 => ?_)
  rotate_left
  · have hv : aComes pn pf vs mn tx v g = -5 := (if_neg (by omega)).trans ((if_neg (by omega)).trans (if_pos hc32))
    rw [hv]
    refine r_bipush C dX7_comes_35 (by decide) ?_
    exact r_iret C dX7_comes_37 (by decide) (by decide) ⟨_, rfl, rfl, hc, Kp.rf⟩
  have hv : aComes pn pf vs mn tx v g = (evT (fun w => mn (8 * v + w)) (fun w => tx (8 * v + w)) pn pf g).1 := (if_neg (by omega)).trans ((if_neg (by omega)).trans (if_neg (fun z => z hc32)))
  rw [hv]
  refine r_aload_n C dX7_comes_38 rfl ?_
  refine r_get C dX7_comes_39 flX7_41 e0 rfl ?_
  refine r_aload_n C dX7_comes_42 rfl ?_
  refine r_get C dX7_comes_43 flX7_26 e0 rfl ?_
  refine r_iload_n C dX7_comes_46 rfl ?_
  refine r_cVv C dX7_comes_47 mlX7_120 kX3_take (m_take hr hb (by decide) (by decide) hvv.1 hvv.2) hr.1 rfl rfl rfl (Nat.le_of_ble_eq_true rfl) (fit hX (by decide)) ?_
  rintro h1 ⟨fw1, hr1, k1, hww⟩
  have hra1 := hra.kp k1 (fun t q => by omega) (fun t q1 q2 => by omega) (fun t q1 q2 => by omega)
  obtain ⟨⟨d0, d1, d2, -⟩, -, hp1⟩ := id hra1
  refine r_aload_n C dX7_comes_50 rfl ?_
  refine r_get C dX7_comes_51 flX7_41 d0 rfl ?_
  refine r_aload_n C dX7_comes_54 rfl ?_
  refine r_get C dX7_comes_55 flX7_14 d0 rfl ?_
  refine r_iload_n C dX7_comes_58 rfl ?_
  refine r_cVx C dX7_comes_59 mlX7_124 kX3_outcome (m_outcome (hI.1.1 v hvv.1 hvv.2) hr1 (WdR.of hww) (PadR d1 d2 hp1) (flt_ok hp.1 hc32) hgg.1 (by omega)) hr1.1 rfl rfl rfl (Nat.le_of_ble_eq_true rfl) (fit hX (by decide)) ?_
  rintro z h2 ⟨hz, pl2, gv2, op2, hr2, o2⟩
  have k2 : Kp (fun t => t = 42 ∨ t = 43) h1 h2 := o2.kp hr1.1 (Or.inl rfl)
  have k12 : Kp (fun t => t = 42 ∨ t = 43) h h2 := (k1.mono (fun t q => Or.inr q)).tr k2
  exact r_iret C dX7_comes_62 (by decide) (by decide) ⟨z, rfl, hz, ⟨pad, pb, tr, bk, ims, kpa, rk, ao, al, ne, i0, i1, nb, z1, z2, z3, gp, kf, kn, cs, kn2, no, f, fi, c, hra.kp k12 (fun t q => by omega) (fun t q1 q2 => by omega) (fun t q1 q2 => by omega), htr.kp k12 (by omega) (by omega), hb.kp k12 (by omega) (by omega) (fun t q1 q2 => by omega), ho.rk k12 hr2, hl.kp k12 (fun t q1 q2 => by omega), hos, hne.kp k12 (by omega) (by omega)⟩, k12.mono (fun t q => by omega)⟩
end
