/-! BookShows: instead -/
/-- what an example comes to in a version with another sign at a place -/
def evI (mn : Int → Int) (tx : Int → Int → Int) (v p k s : Int) : Sv := evT (fun w => mn (8 * v + w)) (fun w => tx (8 * v + w)) (mn (48 + p)) (fu (tx (48 + p)) k s) 0
/-- the first word from w on, but for t, that is right -/
noncomputable def mwN (H : Int → Prop) (t : Int) : Nat → Int → Int
  | 0, _ => -6
  | j + 1, w => by classical exact if 8 ≤ w then -6 else if w ≠ t ∧ H w then w else mwN H t j (w + 1)
theorem mwN_e {H : Int → Prop} {t w : Int} {j : Nat} (h1 : 8 ≤ w) : mwN H t (j + 1) w = -6 := by
  conv => lhs; unfold mwN
  exact if_pos h1
theorem mwN_t {H : Int → Prop} {t w : Int} {j : Nat} (h1 : ¬ 8 ≤ w) (h2 : w ≠ t) (h3 : H w) : mwN H t (j + 1) w = w := by
  conv => lhs; unfold mwN
  rw [if_neg h1]; exact if_pos ⟨h2, h3⟩
theorem mwN_n {H : Int → Prop} {t w : Int} {j : Nat} (h1 : ¬ 8 ≤ w) (h2 : ¬ (w ≠ t ∧ H w)) : mwN H t (j + 1) w = mwN H t j (w + 1) := by
  conv => lhs; unfold mwN
  rw [if_neg h1]; exact if_neg h2
/-- over the places from k on: the first with a word in whose place another is right -/
noncomputable def inN (H : Int → Int → Prop) (n : Int) (f : Int → Int) : Nat → Int → Int
  | 0, _ => -6
  | j + 1, k => by classical exact if n ≤ k then -6 else if isW (f k) ∧ ¬ mwN (H k) (f k - 97) 9 0 = -6 then 10 * k + mwN (H k) (f k - 97) 9 0 else inN H n f j (k + 1)
theorem inN_e {H : Int → Int → Prop} {n k : Int} {f : Int → Int} {j : Nat} (h1 : n ≤ k) : inN H n f (j + 1) k = -6 := by
  conv => lhs; unfold inN
  exact if_pos h1
theorem inN_t {H : Int → Int → Prop} {n k : Int} {f : Int → Int} {j : Nat} (h1 : ¬ n ≤ k) (h2 : isW (f k)) (h3 : ¬ mwN (H k) (f k - 97) 9 0 = -6) : inN H n f (j + 1) k = 10 * k + mwN (H k) (f k - 97) 9 0 := by
  conv => lhs; unfold inN
  rw [if_neg h1]; exact if_pos ⟨h2, h3⟩
theorem inN_n {H : Int → Int → Prop} {n k : Int} {f : Int → Int} {j : Nat} (h1 : ¬ n ≤ k) (h2 : ¬ (isW (f k) ∧ ¬ mwN (H k) (f k - 97) 9 0 = -6)) : inN H n f (j + 1) k = inN H n f j (k + 1) := by
  conv => lhs; unfold inN
  rw [if_neg h1]; exact if_neg h2
theorem mwN_rng {H : Int → Prop} {t : Int} : ∀ (j : Nat) (w : Int), 0 ≤ w → mwN H t j w = -6 ∨ (0 ≤ mwN H t j w ∧ mwN H t j w < 8) := by
  intro j
  induction j with
  | zero => intro w _; exact Or.inl rfl
  | succ j ih =>
    intro w w0
    by_cases h1 : 8 ≤ w
    · exact Or.inl (mwN_e h1)
    by_cases h2 : w ≠ t ∧ H w
    · rw [mwN_t h1 h2.1 h2.2]; exact Or.inr ⟨w0, by omega⟩
    · rw [mwN_n h1 h2]; exact ih (w + 1) (by omega)
noncomputable def aInstead (vs pg : Int) (mn : Int → Int) (tx : Int → Int → Int) (tl du : Int → Int) (p v : Int) : Int := by
  classical exact if ¬ okPV vs pg tl p v then -1 else inN (fun k w => (evI mn tx v p k (97 + w)).1 = du p) (mn (48 + p)) (tx (48 + p)) 41 0
/-- a word's sign in the place of another's: the text is as good -/
theorem pe_I {n k c : Int} {f : Int → Int} (hk : isW (f k)) (hc : 97 ≤ c ∧ c < 105) (h : pe n f 6 0 = n) : pe n (fu f k c) 6 0 = n := by
  have hk' : 97 ≤ f k ∧ f k < 105 := hk
  rw [← pe_nd (n := n) (f := f) (f' := fu f k c) (fun i i0 i1 => ?_) 6]
  · exact h
  · by_cases hi : i = k
    · rw [hi, fu_s]
      have e1 : nd (f k) = 1 := by unfold nd; rw [if_neg (by omega), if_neg (by omega), if_neg (by omega), if_neg (by omega), if_pos (by omega)]
      have e2 : nd c = 1 := by unfold nd; rw [if_neg (by omega), if_neg (by omega), if_neg (by omega), if_neg (by omega), if_pos (by omega)]
      rw [e1, e2]
    · rw [fu_n hi]
section
variable {h : Pic} {x : Nat} {pn : Int} {pf : Int → Int} {vs pg : Int} {mn : Int → Int} {tx : Int → Int → Int} {tl du kp : Int → Int} {im : Int → Bs}
variable {pad pb tr bk ims kpa rk ao al ne i0 i1 nb z1 z2 z3 xw : Nat} {gp kf kn kn' cs kn2 no f : Int → Int} {fi fw : Int → Option Nat} {c pl gv op us : Int}
theorem m_mendingWord {p v k d : Int} {q : Nat} (hra : RA h x pad pb tr bk ims kpa rk ao al ne i0 i1 pn pf gp kf kp fi im) (htr : TrR h tr) (hr : RkR h rk xw fw pl gv op us) (hww : ∀ w, 0 ≤ w → w < 8 → TxP h (fw w) (mn (8 * v + w)) (tx (8 * v + w))) (hq : TxP h (some q) (mn (48 + p)) (tx (48 + p))) (hI : IB vs pg mn tx tl du) (hp0 : 0 ≤ p) (hp1 : p < pg) (hex : tl p = -6) (hv : 0 ≤ v) (hv1 : v < vs) (hk0 : 0 ≤ k) (hk1 : k < mn (48 + p)) (hW : isW (tx (48 + p) k)) :
    Meets yX7_mendingWord cX7_mendingWord 6 (some .int) 190 0 0 [vR x, vR q, vI k, vI d] h (pX (fun z h' => z = mwN (fun w => (evI mn tx v p k (97 + w)).1 = d) (tx (48 + p) k - 97) 9 0 ∧ (∃ pl' gv' op' us', RkR h' rk xw fw pl' gv' op' us') ∧ TrR h' tr ∧ Kp (fun t => t = 3 ∨ t = 4 ∨ t = 42) h h')) := by
  obtain ⟨⟨e0, e1, e2, e3, e4⟩, him, hp⟩ := id hra
  obtain ⟨bt', nn, gt, ht1, ht2⟩ := id htr
  obtain ⟨tq', bq, mq, gq, eqq, hq1', hq2', hn0, hnm, hn40, hgq⟩ := id hq
  cases eqq
  have hW' : 97 ≤ tx (48 + p) k ∧ tx (48 + p) k < 105 := hW
  refine Meets.of (plainFor_of_name (by decide)) (Nat.le_of_ble_eq_true rfl) (fun X C hX hN hA => ?_)
  refine r_aload_n C dX7_mendingWord_0 rfl ?_
  refine r_iload_n C dX7_mendingWord_1 rfl ?_
  refine r_cVi C dX7_mendingWord_2 mlX7_113 kX6_sign (m_sign hq.R (p := k)) hq1' rfl rfl rfl (Nat.le_of_ble_eq_true rfl) (fit hX (by decide)) ?_
  rw [sgn_in hk0 hk1]
  refine r_bipush C dX7_mendingWord_5 (by decide) ?_
  refine r_isub C dX7_mendingWord_7 (by omega) ?_
  refine r_istore C dX7_mendingWord_8 (by decide) ?_
  refine r_aload_n C dX7_mendingWord_10 rfl ?_
  refine r_get C dX7_mendingWord_11 flX7_18 e0 rfl ?_
  refine r_aload_n C dX7_mendingWord_14 rfl ?_
  refine r_cVv C dX7_mendingWord_15 mlX7_252 kX6_become (m_become ht1 ht2 hq1' hq2' (by decide) (by decide) hn0 hn40 (Int.le_refl 40) hnm hgq) ht1 rfl rfl rfl (Nat.le_of_ble_eq_true rfl) (fit hX (by decide)) ?_
  rintro h1 ⟨g1, c1, c2, c3, c4, c5⟩
  have k1 : Kp (fun t => t = 3 ∨ t = 4 ∨ t = 42) h h1 := fun a t b e n => (c3 a (by
    have n1 : a ≠ tr := ne_of e ht1 (fun z => n (by cases z; exact Or.inl rfl))
    have n2 : a ≠ bt' := ne_of e ht2 (fun z => n (by cases z; exact Or.inr (Or.inl rfl)))
    simp [n1, n2])).trans e
  have hab := ne_of ht1 ht2 (fun z => by cases z)
  have k1b : Kp (fun t => t = 3 ∨ t = 4) h h1 := fun a t b e n => (c3 a (by
    have n1 : a ≠ tr := ne_of e ht1 (fun z => n (by cases z; exact Or.inl rfl))
    have n2 : a ≠ bt' := ne_of e ht2 (fun z => n (by cases z; exact Or.inr rfl))
    simp [n1, n2])).trans e
  have hr1 := hr.kp k1b (by omega) (by omega)
  have loop : ∀ (j : Nat) (i : Int) (h' : Pic) (g' : Int → Int) (pl' gv' op' us' : Int), 0 ≤ i → i ≤ 8 → 8 - i < j → h' tr = some (ob 3 6 [vR bt', vI (mn (48 + p))]) → h' bt' = some (ia 4 1 40 g') → (∀ m, 0 ≤ m → m < mn (48 + p) → m ≠ k → g' m = tx (48 + p) m) → RkR h' rk xw fw pl' gv' op' us' → Kp (fun t => t = 3 ∨ t = 4 ∨ t = 42) h h' → mwN (fun w => (evI mn tx v p k (97 + w)).1 = d) (tx (48 + p) k - 97) j i = mwN (fun w => (evI mn tx v p k (97 + w)).1 = d) (tx (48 + p) k - 97) 9 0 →
      Go X (Qm X (pX (fun z h' => z = mwN (fun w => (evI mn tx v p k (97 + w)).1 = d) (tx (48 + p) k - 97) 9 0 ∧ (∃ pl' gv' op' us', RkR h' rk xw fw pl' gv' op' us') ∧ TrR h' tr ∧ Kp (fun t => t = 3 ∨ t = 4 ∨ t = 42) h h')) 0 0) 0 0 h' 21 [some (vR x), some (vR q), some (vI k), some (vI d), some (vI (tx (48 + p) k - 97)), some (vI i)] [] := by
    intro j
    induction j with
    | zero => intro i h' g' pl' gv' op' us' g3 g4 g5; exact absurd g5 (by omega)
    | succ j ih =>
      intro i h' g' pl' gv' op' us' g3 g4 g5 d1 d2 hg hr' k' hmw
      have e0' := k' _ _ _ e0 (by omega)
      refine r_iload C dX7_mendingWord_21 rfl ?_
      refine r_bipush C dX7_mendingWord_23 (by decide) ?_
      refine r_icmp_ge (tgt := 73) C dX7_mendingWord_25 (by decide) (fun hc25 => ?_) (fun hc25 => ?_)
      · rw [mwN_e (H := fun w => (evI mn tx v p k (97 + w)).1 = d) (t := tx (48 + p) k - 97) (w := i) (j := j) hc25] at hmw
        refine r_bipush C dX7_mendingWord_73 (by decide) ?_
        exact r_iret C dX7_mendingWord_75 (by decide) (by decide) ⟨_, rfl, hmw, ⟨_, _, _, _, hr'⟩, ⟨_, _, _, d1, d2⟩, k'⟩
      refine r_iload C dX7_mendingWord_28 rfl ?_
      refine r_iload C dX7_mendingWord_30 rfl ?_
      refine r_icmp_eq (tgt := 67) C dX7_mendingWord_32 (by decide) (fun hc32 => ?_) (fun hc32 => ?_)
      · rw [mwN_n (H := fun w => (evI mn tx v p k (97 + w)).1 = d) (t := tx (48 + p) k - 97) (w := i) (j := j) (by omega) (fun z => z.1 hc32)] at hmw
        refine r_iinc C dX7_mendingWord_67 rfl (by decide) (by omega) ?_
        refine r_goto (tgt := 21) C dX7_mendingWord_70 (by decide) ?_
        exact ih (i + 1) h' g' pl' gv' op' us' (by omega) (by omega) (by omega) d1 d2 hg hr' k' hmw
      refine r_aload_n C dX7_mendingWord_35 rfl ?_
      refine r_get C dX7_mendingWord_36 flX7_18 e0' rfl ?_
      refine r_iload_n C dX7_mendingWord_39 rfl ?_
      refine r_bipush C dX7_mendingWord_40 (by decide) ?_
      refine r_iload C dX7_mendingWord_42 rfl ?_
      refine r_iadd C dX7_mendingWord_44 (by omega) ?_
      refine r_cVv C dX7_mendingWord_45 mlX7_254 kX6_put (m_put (p := k) (c := 97 + i) d1 d2 hk0 hk1 hn40 (by omega)) d1 rfl rfl rfl (Nat.le_of_ble_eq_true rfl) (fit hX (by decide)) ?_
      rintro h2 rfl
      have o2 : Off [bt'] h' (pu h' bt' (ia 4 1 40 (fu g' k (97 + i)))) := off1
      have d22 : pu h' bt' (ia 4 1 40 (fu g' k (97 + i))) bt' = some (ia 4 1 40 (fu g' k (97 + i))) := pu_s
      generalize pu h' bt' (ia 4 1 40 (fu g' k (97 + i))) = h2 at o2 d22 ⊢
      have k2 : Kp (fun t => t = 4) h' h2 := o2.kp d2 rfl
      have k12 : Kp (fun t => t = 3 ∨ t = 4 ∨ t = 42) h h2 := k'.tr (k2.mono (fun t z => by omega))
      have d12 := k2 _ _ _ d1 (by omega)
      have e02 := k2 _ _ _ e0' (by omega)
      have hr2 := hr'.kp k2 (by omega) (by omega)
      have htx : TxR h2 tr (mn (48 + p)) (fu (tx (48 + p)) k (97 + i)) := ⟨bt', 3, 4, 40, _, d12, d22, hn0, hn40, hn40, fun m m0 m1 => by
        by_cases hm : m = k
        · rw [hm, fu_s, fu_s]; exact ⟨rfl, by omega, by omega⟩
        · rw [fu_n hm, fu_n hm]; exact ⟨hg m m0 m1 hm, (hgq m m0 m1).2.1, (hgq m m0 m1).2.2⟩⟩
      refine r_aload_n C dX7_mendingWord_48 rfl ?_
      refine r_get C dX7_mendingWord_49 flX7_41 e02 rfl ?_
      refine r_aload_n C dX7_mendingWord_52 rfl ?_
      refine r_get C dX7_mendingWord_53 flX7_18 e02 rfl ?_
      refine r_iconst C dX7_mendingWord_56 (by decide) ?_
      refine r_cVx C dX7_mendingWord_57 mlX7_124 kX3_outcome (m_outcome (hI.1.1 v hv hv1) hr2 (WdR.of (fun w w0 w1 => (hww w w0 w1).kp k12 (by omega) (by omega))) htx (pe_I hW (show 97 ≤ 97 + i ∧ 97 + i < 105 by omega) (hI.1.2 p hp0 hp1 hex).2) (Int.le_refl 0) (by omega)) hr2.1 rfl rfl rfl (Nat.le_of_ble_eq_true rfl) (fit hX (by decide)) ?_
      rintro z h3 ⟨hz, pl3, gv3, op3, hr3, o3⟩
      have k3 : Kp (fun t => t = 42) h2 h3 := o3.kp hr2.1 rfl
      have k13 : Kp (fun t => t = 3 ∨ t = 4 ∨ t = 42) h h3 := k12.tr (k3.mono (fun t z => by omega))
      have d13 := k3 _ _ _ d12 (by omega)
      have d23 := k3 _ _ _ d22 (by omega)
      have hzz : z = (evI mn tx v p k (97 + i)).1 := hz
      refine r_iload_n C dX7_mendingWord_60 rfl ?_
      refine r_icmp_ne (tgt := 67) C dX7_mendingWord_61 (by decide) (fun hc61 => ?_) (fun hc61 => ?_)
      · rw [mwN_n (H := fun w => (evI mn tx v p k (97 + w)).1 = d) (t := tx (48 + p) k - 97) (w := i) (j := j) (by omega) (fun q => hc61 (hzz.trans q.2))] at hmw
        refine r_iinc C dX7_mendingWord_67 rfl (by decide) (by omega) ?_
        refine r_goto (tgt := 21) C dX7_mendingWord_70 (by decide) ?_
        exact ih (i + 1) h3 _ pl3 gv3 op3 _ (by omega) (by omega) (by omega) d13 d23 (fun m m0 m1 mk => by rw [fu_n mk]; exact hg m m0 m1 mk) hr3 k13 hmw
      · rw [mwN_t (H := fun w => (evI mn tx v p k (97 + w)).1 = d) (t := tx (48 + p) k - 97) (w := i) (j := j) (by omega) hc32 (hzz.symm.trans hc61)] at hmw
        refine r_iload C dX7_mendingWord_64 rfl ?_
        exact r_iret C dX7_mendingWord_66 (by decide) (by decide) ⟨_, rfl, hmw, ⟨_, _, _, _, hr3⟩, ⟨_, _, _, d13, d23⟩, k13⟩
  refine r_iconst C dX7_mendingWord_18 (by decide) ?_
  refine r_istore C dX7_mendingWord_19 (by decide) ?_
  exact loop 9 0 h1 g1 pl gv op us (by omega) (by omega) (by omega) c1 c2 (fun m m0 m1 _ => c4 m m0 m1) hr1 k1 rfl
theorem C_instead {p v : Int} (hc : RC h x pn pf vs pg mn tx tl du kp im) (hI : IB vs pg mn tx tl du) : Meets yX7_instead cX7_instead 6 (some .int) 200 0 0 [vR x, vI p, vI v] h (pX (fun z h' => z = aInstead vs pg mn tx tl du p v ∧ RC h' x pn pf vs pg mn tx tl du kp im ∧ Kp SC h h')) := by
  obtain ⟨pad, pb, tr, bk, ims, kpa, rk, ao, al, ne, i0, i1, nb, z1, z2, z3, gp, kf, kn, cs, kn2, no, f, fi, c, hra, htr, hb, ho, hl, hos, hne⟩ := id hc
  obtain ⟨⟨e0, e1, e2, e3, e4⟩, him, hp⟩ := id hra
  obtain ⟨nt, x1, x2, x3, x4, x5, ft, fs, f2, f4, f5, ⟨hbs, -⟩, -, hvs, hpg, -⟩ := id hb
  obtain ⟨y1, y2, y3, xw, ca, us, fw, pl, gv, op, uu, ⟨hots, -⟩, hr, -⟩ := id ho
  refine Meets.of (plainFor_of_name (by decide)) (Nat.le_of_ble_eq_true rfl) (fun X C hX hN hA => ?_)
  refine r_aload_n C dX7_instead_0 rfl ?_
  refine r_get C dX7_instead_1 flX7_26 e0 rfl ?_
  refine r_iload_n C dX7_instead_4 rfl ?_
  refine r_cVi C dX7_instead_5 mlX7_146 kX0_isExample (m_isExample (p := p) hb) hbs rfl rfl rfl (Nat.le_of_ble_eq_true rfl) (fit hX (by decide)) ?_
  refine r_if_eq (tgt := 22) C dX7_instead_8 (by decide) (fun hc8 => ?_) (fun hc8 => ?_)
  · have hn := zb_0.mp hc8
    have hv : aInstead vs pg mn tx tl du p v = -1 := if_pos (fun z => hn ⟨z.1, z.2.1, z.2.2.1⟩)
    rw [hv]
    refine r_iconst C dX7_instead_22 (by decide) ?_
    exact r_iret C dX7_instead_23 (by decide) (by decide) ⟨_, rfl, rfl, hc, Kp.rf⟩
  obtain ⟨hp0, hp1, hex⟩ := zb_n0.mp hc8
  refine r_aload_n C dX7_instead_11 rfl ?_
  refine r_get C dX7_instead_12 flX7_26 e0 rfl ?_
  refine r_iload_n C dX7_instead_15 rfl ?_
  refine r_cVi C dX7_instead_16 mlX7_106 kX0_hasVersion (m_hasVersion (v := v) hb) hbs rfl rfl rfl (Nat.le_of_ble_eq_true rfl) (fit hX (by decide)) ?_
  refine r_if_ne (tgt := 24) C dX7_instead_19 (by decide) (fun hc19 => ?_) (fun hc19 => ?_)
  rotate_left
  · have hn := zb_0.mp hc19
    have hv : aInstead vs pg mn tx tl du p v = -1 := if_pos (fun z => hn ⟨z.2.2.2.1, z.2.2.2.2⟩)
    rw [hv]
    refine r_iconst C dX7_instead_22 (by decide) ?_
    exact r_iret C dX7_instead_23 (by decide) (by decide) ⟨_, rfl, rfl, hc, Kp.rf⟩
  obtain ⟨hv0, hv1⟩ := zb_n0.mp hc19
  have hpv : okPV vs pg tl p v := ⟨hp0, hp1, hex, hv0, hv1⟩
  have hv : aInstead vs pg mn tx tl du p v = inN (fun k w => (evI mn tx v p k (97 + w)).1 = du p) (mn (48 + p)) (tx (48 + p)) 41 0 := if_neg (fun z => z hpv)
  rw [hv]
  refine r_aload_n C dX7_instead_24 rfl ?_
  refine r_get C dX7_instead_25 flX7_26 e0 rfl ?_
  refine r_iload_n C dX7_instead_28 rfl ?_
  refine r_cVy C dX7_instead_29 mlX7_155 kX0_example (m_example (p := p) hb hp0 hp1) hbs rfl rfl rfl (Nat.le_of_ble_eq_true rfl) (fit hX (by decide)) ?_
  rintro q h' ⟨rfl, htq⟩
  obtain ⟨tq', bq, mq, gq, eqq, hq1', hq2', hn0, hnm, hn40, hgq⟩ := id htq
  cases eqq
  refine r_astore_n C dX7_instead_32 (by decide) ?_
  refine r_aload_n C dX7_instead_33 rfl ?_
  refine r_get C dX7_instead_34 flX7_41 e0 rfl ?_
  refine r_aload_n C dX7_instead_37 rfl ?_
  refine r_get C dX7_instead_38 flX7_26 e0 rfl ?_
  refine r_iload_n C dX7_instead_41 rfl ?_
  refine r_cVv C dX7_instead_42 mlX7_120 kX3_take (m_take hr hb (by decide) (by decide) hv0 hv1) hr.1 rfl rfl rfl (Nat.le_of_ble_eq_true rfl) (fit hX (by decide)) ?_
  rintro h1 ⟨fw1, hr1, k1, hww⟩
  have loop : ∀ (j : Nat) (i : Int) (h2 : Pic) (pl' gv' op' us' : Int) (o5 : Option Va), 0 ≤ i → i ≤ mn (48 + p) → mn (48 + p) - i < j → RkR h2 rk xw fw1 pl' gv' op' us' → TrR h2 tr → Kp (fun t => t = 3 ∨ t = 4 ∨ t = 42) h1 h2 → inN (fun k w => (evI mn tx v p k (97 + w)).1 = du p) (mn (48 + p)) (tx (48 + p)) j i = inN (fun k w => (evI mn tx v p k (97 + w)).1 = du p) (mn (48 + p)) (tx (48 + p)) 41 0 →
      Go X (Qm X (pX (fun z h'' => z = inN (fun k w => (evI mn tx v p k (97 + w)).1 = du p) (mn (48 + p)) (tx (48 + p)) 41 0 ∧ RC h'' x pn pf vs pg mn tx tl du kp im ∧ Kp SC h' h'')) 0 0) 0 0 h2 48 [some (vR x), some (vI p), some (vI v), some (vR q), some (vI i), o5] [] := by
    intro j
    induction j with
    | zero => intro i h2 pl' gv' op' us' o5 g3 g4 g5; exact absurd g5 (by omega)
    | succ j ih =>
      intro i h2 pl' gv' op' us' o5 g3 g4 g5 hr2 htr2 k2 hin
      have kk : Kp SE h' h2 := (k1.mono (fun t q => by omega)).tr (k2.mono (fun t q => by omega))
      have e02 := kk _ _ _ e0 (by omega)
      have hbs2 := kk _ _ _ hbs (by omega)
      have hq2 := kk _ _ _ hq1' (by omega)
      have hb2 : BkR h2 bk 10 vs pg mn tx tl du := hb.kp kk (by omega) (by omega) (fun t q1 q2 => by omega)
      have htq2 := htq.kp kk (by omega) (by omega)
      have kr : Kp (fun t => t = 42 ∨ t = 43 ∨ t = 3 ∨ t = 4) h' h2 := (k1.mono (fun t q => by omega)).tr (k2.mono (fun t q => by omega))
      have hRf : RC h2 x pn pf vs pg mn tx tl du kp im ∧ Kp SC h' h2 := by
        obtain ⟨y1', y2', y3', xw', ca', us'', fw', pl'', gv'', op'', uu', ⟨a0, a1, a2, a3⟩, -, hkk⟩ := id ho
        exact RC_n (kn := kn) hra hb kk htr2 ⟨y1', y2', y3', xw, ca', us'', fw1, pl', gv', op', us', ⟨kr _ _ _ a0 (by omega), kr _ _ _ a1 (by omega), kr _ _ _ a2 (by omega), kr _ _ _ a3 (by omega)⟩, hr2, hkk⟩ (hl.kp kr (fun t q1 q2 => by omega)) hos (hne.kp kr (by omega) (by omega))
      refine r_iload C dX7_instead_48 rfl ?_
      refine r_aload_n C dX7_instead_50 rfl ?_
      refine r_cVi C dX7_instead_51 mlX7_70 kX6_count (m_count htq2.R) hq2 rfl rfl rfl (Nat.le_of_ble_eq_true rfl) (fit hX (by decide)) ?_
      refine r_icmp_ge (tgt := 108) C dX7_instead_54 (by decide) (fun hc54 => ?_) (fun hc54 => ?_)
      · rw [inN_e (H := fun k w => (evI mn tx v p k (97 + w)).1 = du p) (n := mn (48 + p)) (f := tx (48 + p)) (k := i) (j := j) hc54] at hin
        refine r_bipush C dX7_instead_108 (by decide) ?_
        exact r_iret C dX7_instead_110 (by decide) (by decide) ⟨_, rfl, hin, hRf⟩
      refine r_aload_n C dX7_instead_57 rfl ?_
      refine r_iload C dX7_instead_58 rfl ?_
      refine r_cVi C dX7_instead_60 mlX7_113 kX6_sign (m_sign htq2.R (p := i)) hq2 rfl rfl rfl (Nat.le_of_ble_eq_true rfl) (fit hX (by decide)) ?_
      rw [sgn_in g3 hc54]
      refine r_cSi C dX7_instead_63 mlX7_223 kX4_isWord (m_SW (c := tx (48 + p) i)) rfl rfl (Nat.le_of_ble_eq_true rfl) (fit hX (by decide)) ?_
      refine r_if_eq (tgt := 102) C dX7_instead_66 (by decide) (fun hc66 => ?_) (fun hc66 => ?_)
      · rw [inN_n (H := fun k w => (evI mn tx v p k (97 + w)).1 = du p) (n := mn (48 + p)) (f := tx (48 + p)) (k := i) (j := j) (by omega) (fun z => zb_0.mp hc66 z.1)] at hin
        refine r_iinc C dX7_instead_102 rfl (by decide) (by omega) ?_
        refine r_goto (tgt := 48) C dX7_instead_105 (by decide) ?_
        exact ih (i + 1) h2 pl' gv' op' us' _ (by omega) (by omega) (by omega) hr2 htr2 k2 hin
      have hW := zb_n0.mp hc66
      refine r_aload_n C dX7_instead_69 rfl ?_
      refine r_aload_n C dX7_instead_70 rfl ?_
      refine r_iload C dX7_instead_71 rfl ?_
      refine r_aload_n C dX7_instead_73 rfl ?_
      refine r_get C dX7_instead_74 flX7_26 e02 rfl ?_
      refine r_iload_n C dX7_instead_77 rfl ?_
      refine r_cVi C dX7_instead_78 mlX7_149 kX0_due (m_due (p := p) hb2 hp0 hp1) hbs2 rfl rfl rfl (Nat.le_of_ble_eq_true rfl) (fit hX (by decide)) ?_
      refine r_cVx C dX7_instead_81 mlX7_226 kX7_mendingWord (m_mendingWord (p := p) (v := v) (k := i) (d := du p) (hra.kp kk (fun t q => by omega) (fun t q1 q2 => by omega) (fun t q1 q2 => by omega)) htr2 hr2 (fun w w0 w1 => (hww w w0 w1).kp k2 (by omega) (by omega)) htq2 hI hp0 hp1 hex hv0 hv1 g3 hc54 hW) e02 rfl rfl rfl (Nat.le_of_ble_eq_true rfl) (fit hX (by decide)) ?_
      rintro z h3 ⟨rfl, ⟨pl3, gv3, op3, us3, hr3⟩, htr3, k3⟩
      have hmr := mwN_rng (H := fun w => (evI mn tx v p i (97 + w)).1 = du p) (t := tx (48 + p) i - 97) 9 0 (Int.le_refl 0)
      refine r_istore C dX7_instead_84 (by decide) ?_
      refine r_iload C dX7_instead_86 rfl ?_
      refine r_bipush C dX7_instead_88 (by decide) ?_
      refine r_icmp_eq (tgt := 102) C dX7_instead_90 (by decide) (fun hc90 => ?_) (fun hc90 => ?_)
      · rw [inN_n (H := fun k w => (evI mn tx v p k (97 + w)).1 = du p) (n := mn (48 + p)) (f := tx (48 + p)) (k := i) (j := j) (by omega) (fun z => z.2 hc90)] at hin
        refine r_iinc C dX7_instead_102 rfl (by decide) (by omega) ?_
        refine r_goto (tgt := 48) C dX7_instead_105 (by decide) ?_
        exact ih (i + 1) h3 pl3 gv3 op3 us3 _ (by omega) (by omega) (by omega) hr3 htr3 (k2.tr k3) hin
      · rw [inN_t (H := fun k w => (evI mn tx v p k (97 + w)).1 = du p) (n := mn (48 + p)) (f := tx (48 + p)) (k := i) (j := j) (by omega) hW hc90] at hin
        refine r_bipush C dX7_instead_93 (by decide) ?_
        refine r_iload C dX7_instead_95 rfl ?_
        refine r_imul C dX7_instead_97 (by omega) ?_
        refine r_iload C dX7_instead_98 rfl ?_
        refine r_iadd C dX7_instead_100 (by omega) ?_
        have kr3 : Kp (fun t => t = 42 ∨ t = 43 ∨ t = 3 ∨ t = 4) h' h3 := kr.tr (k3.mono (fun t q => by omega))
        obtain ⟨y1', y2', y3', xw', ca', us'', fw', pl'', gv'', op'', uu', ⟨a0, a1, a2, a3⟩, -, hkk⟩ := id ho
        exact r_iret C dX7_instead_101 (by decide) (by decide) ⟨_, rfl, hin, RC_n (kn := kn) hra hb (kr3.mono (fun t q => by omega)) htr3 ⟨y1', y2', y3', xw, ca', us'', fw1, pl3, gv3, op3, us3, ⟨kr3 _ _ _ a0 (by omega), kr3 _ _ _ a1 (by omega), kr3 _ _ _ a2 (by omega), kr3 _ _ _ a3 (by omega)⟩, hr3, hkk⟩ (hl.kp kr3 (fun t q1 q2 => by omega)) hos (hne.kp kr3 (by omega) (by omega))⟩
  refine r_iconst C dX7_instead_45 (by decide) ?_
  refine r_istore C dX7_instead_46 (by decide) ?_
  exact loop 41 0 h1 pl gv op uu none (by omega) (by omega) (by omega) hr1 (htr.kp k1 (by omega) (by omega)) Kp.rf rfl
end
