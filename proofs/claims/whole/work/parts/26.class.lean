/-! BookShows: what it holds; its simple calls -/
abbrev Bs : Type := (Int × Int) × (Int → Int) × (Int → Int → Int) × (Int → Int) × (Int → Int)
def BkS (h : Pic) (a T : Nat) (b : Bs) : Prop := BkR h a T b.1.1 b.1.2 b.2.1 b.2.2.1 b.2.2.2.1 b.2.2.2.2
/-- pad, images, the object itself -/
def RA (h : Pic) (x pad pb tr bk ims kpa rk ao al ne i0 i1 : Nat) (pn : Int) (pf gp kf kp : Int → Int) (fi : Int → Option Nat) (im : Int → Bs) : Prop :=
  (h x = some (ob 7 7 [vR pad, vR tr, vR bk, vR ims, vR kpa, vR rk, vR ao, vR al, vR ne]) ∧ h pad = some (ob 1 6 [vR pb, vI pn]) ∧ h pb = some (ia 2 1 40 gp) ∧ h ims = some (ra 8 1 2 fi) ∧ h kpa = some (ia 9 2 2 kf)) ∧
  (fi 0 = some i0 ∧ fi 1 = some i1 ∧ BkS h i0 20 (im 0) ∧ BkS h i1 30 (im 1) ∧ ∀ n, 0 ≤ n → n < 2 → kf n = kp n) ∧ (0 ≤ pn ∧ pn ≤ 40 ∧ ∀ i, 0 ≤ i → i < pn → gp i = pf i ∧ 33 ≤ pf i ∧ pf i ≤ 126)
theorem RA.kp {h h' : Pic} {S : Nat → Prop} {x pad pb tr bk ims kpa rk ao al ne i0 i1 : Nat} {pn : Int} {pf gp kf kp : Int → Int} {fi : Int → Option Nat} {im : Int → Bs} (hr : RA h x pad pb tr bk ims kpa rk ao al ne i0 i1 pn pf gp kf kp fi im) (k : Kp S h h') (h1 : ∀ t, t ≤ 2 → ¬ S t) (h2 : ∀ t, 5 ≤ t → t ≤ 9 → ¬ S t) (h3 : ∀ t, 20 ≤ t → t ≤ 39 → ¬ S t) : RA h' x pad pb tr bk ims kpa rk ao al ne i0 i1 pn pf gp kf kp fi im := by
  obtain ⟨⟨e0, e1, e2, e3, e4⟩, ⟨f0, f1, b0, b1, hk⟩, hp⟩ := hr
  exact ⟨⟨k _ _ _ e0 (h2 _ (by omega) (by omega)), k _ _ _ e1 (h1 _ (by omega)), k _ _ _ e2 (h1 _ (by omega)), k _ _ _ e3 (h2 _ (by omega) (by omega)), k _ _ _ e4 (h2 _ (by omega) (by omega))⟩, ⟨f0, f1, BkR.kp b0 k (h2 _ (by omega) (by omega)) (h2 _ (by omega) (by omega)) (fun t q1 q2 => h3 t (by omega) (by omega)), BkR.kp b1 k (h2 _ (by omega) (by omega)) (h2 _ (by omega) (by omega)) (fun t q1 q2 => h3 t (by omega) (by omega)), hk⟩, hp⟩
theorem NeR.kp {h h' : Pic} {S : Nat → Prop} {a b : Nat} {c : Int} {f : Int → Int} (hn : NeR h a b c f) (k : Kp S h h') (h0 : ¬ S 40) (h1 : ¬ S 41) : NeR h' a b c f := ⟨k _ _ _ hn.1 h0, k _ _ _ hn.2.1 h1, hn.2.2⟩
/-- the class's object holds this: the pad, the book, the images; all else is kept right -/
def RC (h : Pic) (x : Nat) (pn : Int) (pf : Int → Int) (vs pg : Int) (mn : Int → Int) (tx : Int → Int → Int) (tl du kp : Int → Int) (im : Int → Bs) : Prop :=
  ∃ (pad pb tr bk ims kpa rk ao al ne i0 i1 nb z1 z2 z3 : Nat) (gp kf kn cs kn2 no f : Int → Int) (fi : Int → Option Nat) (c : Int), RA h x pad pb tr bk ims kpa rk ao al ne i0 i1 pn pf gp kf kp fi im ∧ TrR h tr ∧ BkR h bk 10 vs pg mn tx tl du ∧ OS h ao bk rk vs pg mn tx tl kn ∧ SlR h al bk ao rk tr z1 z2 z3 cs kn2 no ∧ OkS vs pg mn tx tl du kn2 no ∧ NeR h ne nb c f
abbrev SC : Nat → Prop := fun t => t < 60
section
variable {h : Pic} {x : Nat} {pn : Int} {pf : Int → Int} {vs pg : Int} {mn : Int → Int} {tx : Int → Int → Int} {tl du kp : Int → Int} {im : Int → Bs}
theorem PadR {h : Pic} {pad pb : Nat} {pn : Int} {gp pf : Int → Int} (e1 : h pad = some (ob 1 6 [vR pb, vI pn])) (e2 : h pb = some (ia 2 1 40 gp)) (hp : 0 ≤ pn ∧ pn ≤ 40 ∧ ∀ i, 0 ≤ i → i < pn → gp i = pf i ∧ 33 ≤ pf i ∧ pf i ≤ 126) : TxR h pad pn pf := ⟨pb, 1, 2, 40, gp, e1, e2, hp.1, hp.2.1, hp.2.1, fun i i0 i1 => ⟨(hp.2.2 i i0 i1).1, by have := (hp.2.2 i i0 i1).2.1; omega, (hp.2.2 i i0 i1).2.2⟩⟩
def aSay (pn : Int) (pf : Int → Int) (s : Int) : Int × Int × (Int → Int) := if s < 33 ∨ 126 < s then (-2, pn, pf) else if 40 ≤ pn then (-4, pn, pf) else (pn + 1, pn + 1, fu pf pn s)
theorem C_say {s : Int} (hc : RC h x pn pf vs pg mn tx tl du kp im) : Meets yX7_say cX7_say 2 (some .int) 200 0 0 [vR x, vI s] h (pX (fun z h' => z = (aSay pn pf s).1 ∧ RC h' x (aSay pn pf s).2.1 (aSay pn pf s).2.2 vs pg mn tx tl du kp im ∧ Kp SC h h')) := by
  obtain ⟨pad, pb, tr, bk, ims, kpa, rk, ao, al, ne, i0, i1, nb, z1, z2, z3, gp, kf, kn, cs, kn2, no, f, fi, c, hra, htr, hb, ho, hl, hos, hne⟩ := id hc
  obtain ⟨⟨e0, e1, e2, e3, e4⟩, him, hp⟩ := id hra
  have htx := PadR e1 e2 hp
  refine Meets.of (plainFor_of_name (by decide)) (Nat.le_of_ble_eq_true rfl) (fun X C hX hN hA => ?_)
  refine r_iload_n C dX7_say_0 rfl ?_
  refine r_bipush C dX7_say_1 (by decide) ?_
  refine r_icmp_lt (tgt := 12) C dX7_say_3 (by decide) (fun hc3 => ?_) (fun hc3 => ?_)
  · have hv : aSay pn pf s = (-2, pn, pf) := if_pos (Or.inl hc3)
    rw [hv]
    refine r_bipush C dX7_say_12 (by decide) ?_
    exact r_iret C dX7_say_14 (by decide) (by decide) ⟨_, rfl, rfl, hc, Kp.rf⟩
  refine r_iload_n C dX7_say_6 rfl ?_
  refine r_bipush C dX7_say_7 (by decide) ?_
  refine r_icmp_le (tgt := 15) C dX7_say_9 (by decide) (fun hc9 => ?_) (fun hc9 => ?_)
  rotate_left
  · have hv : aSay pn pf s = (-2, pn, pf) := if_pos (Or.inr hc9)
    rw [hv]
    refine r_bipush C dX7_say_12 (by decide) ?_
    exact r_iret C dX7_say_14 (by decide) (by decide) ⟨_, rfl, rfl, hc, Kp.rf⟩
  refine r_aload_n C dX7_say_15 rfl ?_
  refine r_get C dX7_say_16 flX7_14 e0 rfl ?_
  refine r_cVi C dX7_say_19 mlX7_70 kX6_count (m_count htx) e1 rfl rfl rfl (Nat.le_of_ble_eq_true rfl) (fit hX (by decide)) ?_
  refine r_bipush C dX7_say_22 (by decide) ?_
  refine r_icmp_lt (tgt := 30) C dX7_say_24 (by decide) (fun hc24 => ?_) (fun hc24 => ?_)
  rotate_left
  · have hv : aSay pn pf s = (-4, pn, pf) := (if_neg (by omega)).trans (if_pos (by omega))
    rw [hv]
    refine r_bipush C dX7_say_27 (by decide) ?_
    exact r_iret C dX7_say_29 (by decide) (by decide) ⟨_, rfl, rfl, hc, Kp.rf⟩
  have hv : aSay pn pf s = (pn + 1, pn + 1, fu pf pn s) := (if_neg (by omega)).trans (if_neg (by omega))
  rw [hv]
  refine r_aload_n C dX7_say_30 rfl ?_
  refine r_get C dX7_say_31 flX7_14 e0 rfl ?_
  refine r_iload_n C dX7_say_34 rfl ?_
  refine r_cVv C dX7_say_35 mlX7_74 kX6_add (m_add (c := s) e1 e2 hp.1 hc24 (Int.le_refl 40) (by omega)) e1 rfl rfl rfl (Nat.le_of_ble_eq_true rfl) (fit hX (by decide)) ?_
  rintro h1 rfl
  have hab := ne_of e1 e2 (fun z => by cases z)
  have k1 : Kp (fun t => t = 1 ∨ t = 2) h (pu (pu h pb (ia 2 1 40 (fu gp pn s))) pad (ob 1 6 [vR pb, vI (pn + 1)])) := fun a t b e n => by
    have n1 : a ≠ pad := ne_of e e1 (fun z => n (by cases z; exact Or.inl rfl))
    have n2 : a ≠ pb := ne_of e e2 (fun z => n (by cases z; exact Or.inr rfl))
    rw [pu_n n1, pu_n n2]; exact e
  have d1 : pu (pu h pb (ia 2 1 40 (fu gp pn s))) pad (ob 1 6 [vR pb, vI (pn + 1)]) pad = some (ob 1 6 [vR pb, vI (pn + 1)]) := pu_s
  have d2 : pu (pu h pb (ia 2 1 40 (fu gp pn s))) pad (ob 1 6 [vR pb, vI (pn + 1)]) pb = some (ia 2 1 40 (fu gp pn s)) := (pu_n hab.symm).trans pu_s
  generalize pu (pu h pb (ia 2 1 40 (fu gp pn s))) pad (ob 1 6 [vR pb, vI (pn + 1)]) = h1 at k1 d1 d2 ⊢
  have hp1 : 0 ≤ pn + 1 ∧ pn + 1 ≤ 40 ∧ ∀ i, 0 ≤ i → i < pn + 1 → fu gp pn s i = fu pf pn s i ∧ 33 ≤ fu pf pn s i ∧ fu pf pn s i ≤ 126 := ⟨by omega, by omega, fun i j0 j1 => by
    by_cases hi : i = pn
    · rw [hi, fu_s, fu_s]; exact ⟨rfl, by omega, by omega⟩
    · rw [fu_n hi, fu_n hi]; exact hp.2.2 i j0 (by omega)⟩
  have e01 := k1 _ _ _ e0 (by omega)
  have htx1 := PadR d1 d2 hp1
  refine r_aload_n C dX7_say_38 rfl ?_
  refine r_get C dX7_say_39 flX7_14 e01 rfl ?_
  refine r_cVi C dX7_say_42 mlX7_70 kX6_count (m_count htx1) d1 rfl rfl rfl (Nat.le_of_ble_eq_true rfl) (fit hX (by decide)) ?_
  refine r_iret C dX7_say_45 (by decide) (by decide) ⟨_, rfl, rfl, ?_, k1.mono (fun t z => by omega)⟩
  obtain ⟨f0, f1, b0, b1, hk⟩ := him
  exact ⟨pad, pb, tr, bk, ims, kpa, rk, ao, al, ne, i0, i1, nb, z1, z2, z3, fu gp pn s, kf, kn, cs, kn2, no, f, fi, c, ⟨⟨e01, d1, d2, k1 _ _ _ e3 (by omega), k1 _ _ _ e4 (by omega)⟩, ⟨f0, f1, BkR.kp b0 k1 (by omega) (by omega) (fun t q1 q2 => by omega), BkR.kp b1 k1 (by omega) (by omega) (fun t q1 q2 => by omega), hk⟩, hp1⟩, htr.kp k1 (by omega) (by omega), hb.kp k1 (by omega) (by omega) (fun t q1 q2 => by omega), ho.kp k1 (fun t q1 q2 => by omega), hl.kp k1 (fun t q1 q2 => by omega), hos, hne.kp k1 (by omega) (by omega)⟩
/-- the pad is empty -/
theorem pad_clear {h1 : Pic} {pad pb tr bk ims kpa rk ao al ne i0 i1 : Nat} {gp kf : Int → Int} {fi : Int → Option Nat} (hra : RA h x pad pb tr bk ims kpa rk ao al ne i0 i1 pn pf gp kf kp fi im) (hz : h1 = pu h pad (ob 1 6 [vR pb, vI 0])) : Kp (fun t => t = 1) h h1 ∧ RA h1 x pad pb tr bk ims kpa rk ao al ne i0 i1 0 pf gp kf kp fi im := by
  obtain ⟨⟨e0, e1, e2, e3, e4⟩, ⟨f0, f1, b0, b1, hk⟩, hp⟩ := hra
  subst hz
  have k1 : Kp (fun t => t = 1) h (pu h pad (ob 1 6 [vR pb, vI 0])) := off1.kp e1 rfl
  exact ⟨k1, ⟨k1 _ _ _ e0 (by omega), pu_s, k1 _ _ _ e2 (by omega), k1 _ _ _ e3 (by omega), k1 _ _ _ e4 (by omega)⟩, ⟨f0, f1, BkR.kp b0 k1 (by omega) (by omega) (fun t q1 q2 => by omega), BkR.kp b1 k1 (by omega) (by omega) (fun t q1 q2 => by omega), hk⟩, by omega, by omega, fun i j0 j1 => by omega⟩
theorem C_wipe (hc : RC h x pn pf vs pg mn tx tl du kp im) : Meets yX7_wipe cX7_wipe 2 (some .int) 200 0 0 [vR x] h (pX (fun z h' => z = pn ∧ RC h' x 0 pf vs pg mn tx tl du kp im ∧ Kp SC h h')) := by
  obtain ⟨pad, pb, tr, bk, ims, kpa, rk, ao, al, ne, i0, i1, nb, z1, z2, z3, gp, kf, kn, cs, kn2, no, f, fi, c, hra, htr, hb, ho, hl, hos, hne⟩ := id hc
  obtain ⟨⟨e0, e1, e2, e3, e4⟩, him, hp⟩ := id hra
  have htx := PadR e1 e2 hp
  refine Meets.of (plainFor_of_name (by decide)) (Nat.le_of_ble_eq_true rfl) (fun X C hX hN hA => ?_)
  refine r_aload_n C dX7_wipe_0 rfl ?_
  refine r_get C dX7_wipe_1 flX7_14 e0 rfl ?_
  refine r_cVi C dX7_wipe_4 mlX7_70 kX6_count (m_count htx) e1 rfl rfl rfl (Nat.le_of_ble_eq_true rfl) (fit hX (by decide)) ?_
  refine r_istore_n C dX7_wipe_7 (by decide) ?_
  refine r_aload_n C dX7_wipe_8 rfl ?_
  refine r_get C dX7_wipe_9 flX7_14 e0 rfl ?_
  refine r_cVv C dX7_wipe_12 mlX7_77 kX6_clear (m_clear e1) e1 rfl rfl rfl (Nat.le_of_ble_eq_true rfl) (fit hX (by decide)) ?_
  intro h1 hz
  obtain ⟨k1, hra1⟩ := pad_clear hra hz
  refine r_iload_n C dX7_wipe_15 rfl ?_
  exact r_iret C dX7_wipe_16 (by decide) (by decide) ⟨_, rfl, rfl, ⟨pad, pb, tr, bk, ims, kpa, rk, ao, al, ne, i0, i1, nb, z1, z2, z3, gp, kf, kn, cs, kn2, no, f, fi, c, hra1, htr.kp k1 (by omega) (by omega), hb.kp k1 (by omega) (by omega) (fun t q1 q2 => by omega), ho.kp k1 (fun t q1 q2 => by omega), hl.kp k1 (fun t q1 q2 => by omega), hos, hne.kp k1 (by omega) (by omega)⟩, k1.mono (fun t z => by omega)⟩
theorem C_fault (hc : RC h x pn pf vs pg mn tx tl du kp im) : Meets yX7_fault cX7_fault 1 (some .int) 200 0 0 [vR x] h (pI (flt pn pf) h) := by
  obtain ⟨pad, pb, tr, bk, ims, kpa, rk, ao, al, ne, i0, i1, nb, z1, z2, z3, gp, kf, kn, cs, kn2, no, f, fi, c, hra, -⟩ := id hc
  obtain ⟨⟨e0, e1, e2, e3, e4⟩, him, hp⟩ := id hra
  have htx := PadR e1 e2 hp
  refine Meets.of (plainFor_of_name (by decide)) (Nat.le_of_ble_eq_true rfl) (fun X C hX hN hA => ?_)
  refine r_aload_n C dX7_fault_0 rfl ?_
  refine r_get C dX7_fault_1 flX7_14 e0 rfl ?_
  refine r_cVi C dX7_fault_4 mlX7_80 kX6_firstFault (m_firstFault htx) e1 rfl rfl rfl (Nat.le_of_ble_eq_true rfl) (fit hX (by decide)) ?_
  exact r_iret C dX7_fault_7 (by decide) (by decide) ⟨rfl, rfl⟩
def aWritten (vs : Int) (mn : Int → Int) (tx : Int → Int → Int) (v w i : Int) : Int := if ¬ (0 ≤ v ∧ v < vs ∧ 0 ≤ w ∧ w < 8) then -1 else if i = -1 then mn (8 * v + w) else if 0 ≤ i ∧ i < mn (8 * v + w) then tx (8 * v + w) i else -6
theorem C_written {v w i : Int} (hc : RC h x pn pf vs pg mn tx tl du kp im) : Meets yX7_written cX7_written 5 (some .int) 200 0 0 [vR x, vI v, vI w, vI i] h (pI (aWritten vs mn tx v w i) h) := by
  obtain ⟨pad, pb, tr, bk, ims, kpa, rk, ao, al, ne, i0, i1, nb, z1, z2, z3, gp, kf, kn, cs, kn2, no, f, fi, c, hra, htr, hb, -⟩ := id hc
  obtain ⟨⟨e0, -⟩, -⟩ := id hra
  obtain ⟨nt, x1, x2, x3, x4, x5, ft, fs, f2, f4, f5, ⟨hbs, -⟩, -⟩ := id hb
  refine Meets.of (plainFor_of_name (by decide)) (Nat.le_of_ble_eq_true rfl) (fun X C hX hN hA => ?_)
  refine r_aload_n C dX7_written_0 rfl ?_
  refine r_get C dX7_written_1 flX7_26 e0 rfl ?_
  refine r_iload_n C dX7_written_4 rfl ?_
  refine r_cVi C dX7_written_5 mlX7_106 kX0_hasVersion (m_hasVersion (v := v) hb) hbs rfl rfl rfl (Nat.le_of_ble_eq_true rfl) (fit hX (by decide)) ?_
  refine r_if_eq (tgt := 18) C dX7_written_8 (by decide) (fun hc8 => ?_) (fun hc8 => ?_)
  · have hno := zb_0.mp hc8
    have hv : aWritten vs mn tx v w i = -1 := if_pos (by omega)
    rw [hv]
    refine r_iconst C dX7_written_18 (by decide) ?_
    exact r_iret C dX7_written_19 (by decide) (by decide) ⟨rfl, rfl⟩
  have hvv := zb_n0.mp hc8
  refine r_iload_n C dX7_written_11 rfl ?_
  refine r_cSi C dX7_written_12 mlX7_89 kX7_isWord (m_isWord (c := w)) rfl rfl (Nat.le_of_ble_eq_true rfl) (fit hX (by decide)) ?_
  refine r_if_ne (tgt := 20) C dX7_written_15 (by decide) (fun hc15 => ?_) (fun hc15 => ?_)
  rotate_left
  · have hno := zb_0.mp hc15
    have hv : aWritten vs mn tx v w i = -1 := if_pos (by omega)
    rw [hv]
    refine r_iconst C dX7_written_18 (by decide) ?_
    exact r_iret C dX7_written_19 (by decide) (by decide) ⟨rfl, rfl⟩
  have hww := zb_n0.mp hc15
  have hv0 : aWritten vs mn tx v w i = if i = -1 then mn (8 * v + w) else if 0 ≤ i ∧ i < mn (8 * v + w) then tx (8 * v + w) i else -6 := if_neg (by omega)
  rw [hv0]
  refine r_aload_n C dX7_written_20 rfl ?_
  refine r_get C dX7_written_21 flX7_26 e0 rfl ?_
  refine r_iload_n C dX7_written_24 rfl ?_
  refine r_iload_n C dX7_written_25 rfl ?_
  refine r_cVy C dX7_written_26 mlX7_109 kX0_text (m_text (v := v) (w := w) hb hvv.1 hvv.2 hww.1 hww.2) hbs rfl rfl rfl (Nat.le_of_ble_eq_true rfl) (fit hX (by decide)) ?_
  rintro q h' ⟨rfl, htq⟩
  obtain ⟨bq, tq, tq', mq, gq, hq1, -⟩ := id htq.R
  refine r_astore C dX7_written_29 (by decide) ?_
  refine r_iload_n C dX7_written_31 rfl ?_
  refine r_iconst C dX7_written_32 (by decide) ?_
  refine r_icmp_ne (tgt := 42) C dX7_written_33 (by decide) (fun hc33 => ?_) (fun hc33 => ?_)
  rotate_left
  · rw [if_pos hc33]
    refine r_aload C dX7_written_36 rfl ?_
    refine r_cVi C dX7_written_38 mlX7_70 kX6_count (m_count htq.R) hq1 rfl rfl rfl (Nat.le_of_ble_eq_true rfl) (fit hX (by decide)) ?_
    exact r_iret C dX7_written_41 (by decide) (by decide) ⟨rfl, rfl⟩
  rw [if_neg hc33]
  refine r_iload_n C dX7_written_42 rfl ?_
  refine r_if_lt (tgt := 64) C dX7_written_43 (by decide) (fun hc43 => ?_) (fun hc43 => ?_)
  · rw [if_neg (by omega)]
    refine r_bipush C dX7_written_64 (by decide) ?_
    exact r_iret C dX7_written_66 (by decide) (by decide) ⟨rfl, rfl⟩
  refine r_iload_n C dX7_written_46 rfl ?_
  refine r_aload C dX7_written_47 rfl ?_
  refine r_cVi C dX7_written_49 mlX7_70 kX6_count (m_count htq.R) hq1 rfl rfl rfl (Nat.le_of_ble_eq_true rfl) (fit hX (by decide)) ?_
  refine r_icmp_ge (tgt := 64) C dX7_written_52 (by decide) (fun hc52 => ?_) (fun hc52 => ?_)
  · rw [if_neg (by omega)]
    refine r_bipush C dX7_written_64 (by decide) ?_
    exact r_iret C dX7_written_66 (by decide) (by decide) ⟨rfl, rfl⟩
  rw [if_pos (by omega)]
  refine r_aload C dX7_written_55 rfl ?_
  refine r_iload_n C dX7_written_57 rfl ?_
  refine r_cVi C dX7_written_58 mlX7_113 kX6_sign (m_sign htq.R (p := i)) hq1 rfl rfl rfl (Nat.le_of_ble_eq_true rfl) (fit hX (by decide)) ?_
  rw [sgn_in hc43 hc52]
  refine r_goto (tgt := 66) C dX7_written_61 (by decide) ?_
  exact r_iret C dX7_written_66 (by decide) (by decide) ⟨rfl, rfl⟩
end
