/-! Book: VERSIONS and PAGES -/
/-- all cells but those with a mark of S are kept -/
def Kp (S : Nat → Prop) (h h' : Pic) : Prop := ∀ a t b, h a = some (t, b) → ¬ S t → h' a = some (t, b)
theorem Kp.rf {S : Nat → Prop} {h : Pic} : Kp S h h := fun _ _ _ e _ => e
theorem Kp.tr {S : Nat → Prop} {h h' h'' : Pic} (x : Kp S h h') (y : Kp S h' h'') : Kp S h h'' := fun a t b e n => y a t b (x a t b e n) n
theorem Kp.mono {S S' : Nat → Prop} {h h' : Pic} (x : Kp S h h') (hs : ∀ t, S t → S' t) : Kp S' h h' := fun a t b e n => x a t b e (fun q => n (hs t q))
theorem Off.kp {h h' : Pic} {a t0 : Nat} {b0 : Bd} {S : Nat → Prop} (x : Off [a] h h') (ha : h a = some (t0, b0)) (hs : S t0) : Kp S h h' := fun q t b e n => (x q (by simp; exact ne_of e ha (fun z => n (by cases z; exact hs)))).trans e
theorem Off.kpN {h h' : Pic} {l : List Nat} {S : Nat → Prop} (x : Off l h h') (hl : ∀ q ∈ l, h q = none) : Kp S h h' := fun q t b e _ => (x q (fun z => by rw [hl q z] at e; cases e)).trans e
/-- bits of the places that have P -/
noncomputable def bitsN (P : Int → Prop) : Nat → Int
  | 0 => 0
  | j + 1 => by classical exact if P j then bOr (bitsN P j) (bShl 1 j) else bitsN P j
noncomputable def bt (P : Int → Prop) (i : Int) : Int := bitsN P i.toNat
theorem bt_0 (P : Int → Prop) : bt P 0 = 0 := rfl
theorem bt_t {P : Int → Prop} {i : Int} (h0 : 0 ≤ i) (hp : P i) : bt P (i + 1) = bOr (bt P i) (bShl 1 i) := by
  unfold bt
  have e : (i + 1).toNat = i.toNat + 1 := by omega
  have e2 : ((i.toNat : Nat) : Int) = i := by omega
  rw [e]
  conv => lhs; unfold bitsN
  rw [if_pos (by rw [e2]; exact hp), e2]
theorem bt_f {P : Int → Prop} {i : Int} (h0 : 0 ≤ i) (hp : ¬ P i) : bt P (i + 1) = bt P i := by
  unfold bt
  have e : (i + 1).toNat = i.toNat + 1 := by omega
  have e2 : ((i.toNat : Nat) : Int) = i := by omega
  rw [e]
  conv => lhs; unfold bitsN
  rw [if_neg (by rw [e2]; exact hp)]
/-- a text of the pool: nobody changes it -/
def TxP (h : Pic) (o : Option Nat) (n : Int) (f : Int → Int) : Prop := ∃ (q b : Nat) (m : Int) (g : Int → Int), o = some q ∧ h q = some (ob 5 6 [vR b, vI n]) ∧ h b = some (ia 6 1 m g) ∧ 0 ≤ n ∧ n ≤ m ∧ n ≤ 40 ∧ ∀ i, 0 ≤ i → i < n → g i = f i ∧ 0 ≤ f i ∧ f i ≤ 126
theorem TxP.R {h : Pic} {q : Nat} {n : Int} {f : Int → Int} (ht : TxP h (some q) n f) : TxR h q n f := by
  obtain ⟨q', b, m, g, e, r⟩ := ht
  cases e
  exact ⟨b, 5, 6, m, g, r⟩
theorem TxP.kp {h h' : Pic} {S : Nat → Prop} {o : Option Nat} {n : Int} {f : Int → Int} (ht : TxP h o n f) (x : Kp S h h') (h5 : ¬ S 5) (h6 : ¬ S 6) : TxP h' o n f := by
  obtain ⟨q, b, m, g, e, h1, h2, r⟩ := ht
  exact ⟨q, b, m, g, e, x _ _ _ h1 h5, x _ _ _ h2 h6, r⟩
def BkR (h : Pic) (a T : Nat) (vs pg : Int) (mn : Int → Int) (tx : Int → Int → Int) (tl du : Int → Int) : Prop := ∃ (nt x1 x2 x3 x4 x5 : Nat) (ft fs : Int → Option Nat) (f2 f4 f5 : Int → Int),
  (h a = some (ob T 0 [vR nt, vR x1, vR x2, vR x3, vR x4, vR x5, vI vs, vI pg]) ∧ h x1 = some (ra (T + 1) 0 48 ft) ∧ h x2 = some (ia (T + 2) 0 12 f2) ∧ h x3 = some (ra (T + 3) 0 12 fs) ∧ h x4 = some (ia (T + 4) 0 12 f4) ∧ h x5 = some (ia (T + 5) 0 12 f5)) ∧
  TxP h (some nt) 0 (fun _ => 0) ∧ (1 ≤ vs ∧ vs ≤ 6) ∧ (0 ≤ pg ∧ pg ≤ 12) ∧ (∀ t, 0 ≤ t → t < 48 → TxP h (ft t) (mn t) (tx t)) ∧ (∀ p, 0 ≤ p → p < 12 → TxP h (fs p) (mn (48 + p)) (tx (48 + p))) ∧ (∀ p, 0 ≤ p → p < 12 → f4 p = nmd (mn (48 + p)) (tx (48 + p)) ∧ f2 p = tl p ∧ f5 p = du p)
theorem BkR.kp {h h' : Pic} {S : Nat → Prop} {a T : Nat} {vs pg : Int} {mn : Int → Int} {tx : Int → Int → Int} {tl du : Int → Int} (hb : BkR h a T vs pg mn tx tl du) (x : Kp S h h') (h5 : ¬ S 5) (h6 : ¬ S 6) (hT : ∀ t, T ≤ t → t ≤ T + 5 → ¬ S t) : BkR h' a T vs pg mn tx tl du := by
  obtain ⟨nt, x1, x2, x3, x4, x5, ft, fs, f2, f4, f5, ⟨e0, e1, e2, e3, e4, e5⟩, hn, hv, hp, h1, h2, h3⟩ := hb
  exact ⟨nt, x1, x2, x3, x4, x5, ft, fs, f2, f4, f5, ⟨x _ _ _ e0 (hT _ (by omega) (by omega)), x _ _ _ e1 (hT _ (by omega) (by omega)), x _ _ _ e2 (hT _ (by omega) (by omega)), x _ _ _ e3 (hT _ (by omega) (by omega)), x _ _ _ e4 (hT _ (by omega) (by omega)), x _ _ _ e5 (hT _ (by omega) (by omega))⟩, hn.kp x h5 h6, hv, hp, fun t q1 q2 => (h1 t q1 q2).kp x h5 h6, fun p q1 q2 => (h2 p q1 q2).kp x h5 h6, h3⟩
section
variable {h : Pic} {a T : Nat} {vs pg : Int} {mn : Int → Int} {tx : Int → Int → Int} {tl du : Int → Int}
theorem m_versions (hb : BkR h a T vs pg mn tx tl du) : Meets yX0_versions cX0_versions 1 (some .int) 0 0 0 [vR a] h (pI vs h) := by
  obtain ⟨nt, x1, x2, x3, x4, x5, ft, fs, f2, f4, f5, ⟨hs, e1, e2, e3, e4, e5⟩, hn, hv, hp, hw1, hw2, hw3⟩ := hb
  refine Meets.of (plainFor_of_name (by decide)) (Nat.le_of_ble_eq_true rfl) (fun X C hX hN hA => ?_)
  refine r_aload_n C dX0_versions_0 rfl ?_
  refine r_get C dX0_versions_1 flX0_34 hs rfl ?_
  exact r_iret C dX0_versions_4 (by decide) (by decide) (⟨rfl, rfl⟩)
theorem m_pages (hb : BkR h a T vs pg mn tx tl du) : Meets yX0_pages cX0_pages 1 (some .int) 0 0 0 [vR a] h (pI pg h) := by
  obtain ⟨nt, x1, x2, x3, x4, x5, ft, fs, f2, f4, f5, ⟨hs, e1, e2, e3, e4, e5⟩, hn, hv, hp, hw1, hw2, hw3⟩ := hb
  refine Meets.of (plainFor_of_name (by decide)) (Nat.le_of_ble_eq_true rfl) (fun X C hX hN hA => ?_)
  refine r_aload_n C dX0_pages_0 rfl ?_
  refine r_get C dX0_pages_1 flX0_38 hs rfl ?_
  exact r_iret C dX0_pages_4 (by decide) (by decide) (⟨rfl, rfl⟩)
theorem m_hasVersion {v : Int} (hb : BkR h a T vs pg mn tx tl du) : Meets yX0_hasVersion cX0_hasVersion 2 (some .boolean) 0 0 0 [vR a, vI v] h (pI (zb (0 ≤ v ∧ v < vs)) h) := by
  obtain ⟨nt, x1, x2, x3, x4, x5, ft, fs, f2, f4, f5, ⟨hs, e1, e2, e3, e4, e5⟩, hn, hv, hp, hw1, hw2, hw3⟩ := hb
  refine Meets.of (plainFor_of_name (by decide)) (Nat.le_of_ble_eq_true rfl) (fun X C hX hN hA => ?_)
  refine r_iload_n C dX0_hasVersion_0 rfl ?_
  refine r_if_lt (tgt := 16) C dX0_hasVersion_1 (by decide) (fun hc1 => ?_) (fun hc1 => ?_)
  · refine r_iconst C dX0_hasVersion_16 (by decide) ?_
    exact r_zret C dX0_hasVersion_17 (by omega) (by decide) (by decide) (⟨some_I (by first | (rw [zb_t (by omega)]; done) | (rw [zb_f (by omega)]; done)), rfl⟩)
  · refine r_iload_n C dX0_hasVersion_4 rfl ?_
    refine r_aload_n C dX0_hasVersion_5 rfl ?_
    refine r_get C dX0_hasVersion_6 flX0_34 hs rfl ?_
    refine r_icmp_ge (tgt := 16) C dX0_hasVersion_9 (by decide) (fun hc9 => ?_) (fun hc9 => ?_)
    · refine r_iconst C dX0_hasVersion_16 (by decide) ?_
      exact r_zret C dX0_hasVersion_17 (by omega) (by decide) (by decide) (⟨some_I (by first | (rw [zb_t (by omega)]; done) | (rw [zb_f (by omega)]; done)), rfl⟩)
    · refine r_iconst C dX0_hasVersion_12 (by decide) ?_
      refine r_goto (tgt := 17) C dX0_hasVersion_13 (by decide) ?_
      exact r_zret C dX0_hasVersion_17 (by omega) (by decide) (by decide) (⟨some_I (by first | (rw [zb_t (by omega)]; done) | (rw [zb_f (by omega)]; done)), rfl⟩)
theorem m_hasPage {p : Int} (hb : BkR h a T vs pg mn tx tl du) : Meets yX0_hasPage cX0_hasPage 2 (some .boolean) 0 0 0 [vR a, vI p] h (pI (zb (0 ≤ p ∧ p < pg)) h) := by
  obtain ⟨nt, x1, x2, x3, x4, x5, ft, fs, f2, f4, f5, ⟨hs, e1, e2, e3, e4, e5⟩, hn, hv, hp, hw1, hw2, hw3⟩ := hb
  refine Meets.of (plainFor_of_name (by decide)) (Nat.le_of_ble_eq_true rfl) (fun X C hX hN hA => ?_)
  refine r_iload_n C dX0_hasPage_0 rfl ?_
  refine r_if_lt (tgt := 16) C dX0_hasPage_1 (by decide) (fun hc1 => ?_) (fun hc1 => ?_)
  · refine r_iconst C dX0_hasPage_16 (by decide) ?_
    exact r_zret C dX0_hasPage_17 (by omega) (by decide) (by decide) (⟨some_I (by first | (rw [zb_t (by omega)]; done) | (rw [zb_f (by omega)]; done)), rfl⟩)
  · refine r_iload_n C dX0_hasPage_4 rfl ?_
    refine r_aload_n C dX0_hasPage_5 rfl ?_
    refine r_get C dX0_hasPage_6 flX0_38 hs rfl ?_
    refine r_icmp_ge (tgt := 16) C dX0_hasPage_9 (by decide) (fun hc9 => ?_) (fun hc9 => ?_)
    · refine r_iconst C dX0_hasPage_16 (by decide) ?_
      exact r_zret C dX0_hasPage_17 (by omega) (by decide) (by decide) (⟨some_I (by first | (rw [zb_t (by omega)]; done) | (rw [zb_f (by omega)]; done)), rfl⟩)
    · refine r_iconst C dX0_hasPage_12 (by decide) ?_
      refine r_goto (tgt := 17) C dX0_hasPage_13 (by decide) ?_
      exact r_zret C dX0_hasPage_17 (by omega) (by decide) (by decide) (⟨some_I (by first | (rw [zb_t (by omega)]; done) | (rw [zb_f (by omega)]; done)), rfl⟩)
theorem m_isExample {p : Int} (hb : BkR h a T vs pg mn tx tl du) : Meets yX0_isExample cX0_isExample 2 (some .boolean) 1 0 0 [vR a, vI p] h (pI (zb (0 ≤ p ∧ p < pg ∧ tl p = -6)) h) := by
  obtain ⟨nt, x1, x2, x3, x4, x5, ft, fs, f2, f4, f5, ⟨hs, e1, e2, e3, e4, e5⟩, hn, hv, hp, hw1, hw2, hw3⟩ := id hb
  refine Meets.of (plainFor_of_name (by decide)) (Nat.le_of_ble_eq_true rfl) (fun X C hX hN hA => ?_)
  refine r_aload_n C dX0_isExample_0 rfl ?_
  refine r_iload_n C dX0_isExample_1 rfl ?_
  refine r_cVi C dX0_isExample_2 mlX0_56 kX0_hasPage (m_hasPage (p := p) hb) hs rfl rfl rfl (Nat.le_of_ble_eq_true rfl) (fit hX (by decide)) ?_
  refine r_if_eq (tgt := 23) C dX0_isExample_5 (by decide) (fun hc5 => ?_) (fun hc5 => ?_)
  · refine r_iconst C dX0_isExample_23 (by decide) ?_
    exact r_zret C dX0_isExample_24 (by omega) (by decide) (by decide) (⟨some_I (by first | (rw [zb_t (by omega)]; done) | (rw [zb_f (by omega)]; done) | (rw [zb_f (fun z => zb_0.mp hc5 ⟨z.1, z.2.1⟩)]; done)), rfl⟩)
  · have hq := zb_n0.mp hc5
    refine r_aload_n C dX0_isExample_8 rfl ?_
    refine r_get C dX0_isExample_9 flX0_21 hs rfl ?_
    refine r_iload_n C dX0_isExample_12 rfl ?_
    refine r_iald C dX0_isExample_13 e2 (by omega) (by omega) ?_
    have hq2 := (hw3 p (by omega) (by omega)).2.1
    refine r_bipush C dX0_isExample_14 (by decide) ?_
    refine r_icmp_ne (tgt := 23) C dX0_isExample_16 (by decide) (fun hc16 => ?_) (fun hc16 => ?_)
    · refine r_iconst C dX0_isExample_23 (by decide) ?_
      exact r_zret C dX0_isExample_24 (by omega) (by decide) (by decide) (⟨some_I (by first | (rw [zb_t (by omega)]; done) | (rw [zb_f (by omega)]; done) | (rw [zb_f (fun z => zb_0.mp hc5 ⟨z.1, z.2.1⟩)]; done)), rfl⟩)
    · refine r_iconst C dX0_isExample_19 (by decide) ?_
      refine r_goto (tgt := 24) C dX0_isExample_20 (by decide) ?_
      exact r_zret C dX0_isExample_24 (by omega) (by decide) (by decide) (⟨some_I (by first | (rw [zb_t (by omega)]; done) | (rw [zb_f (by omega)]; done) | (rw [zb_f (fun z => zb_0.mp hc5 ⟨z.1, z.2.1⟩)]; done)), rfl⟩)
theorem m_toldWord {p : Int} (hb : BkR h a T vs pg mn tx tl du) (h0 : 0 ≤ p) (h9 : p < pg) : Meets yX0_toldWord cX0_toldWord 2 (some .int) 1 0 0 [vR a, vI p] h (pI (tl p) h) := by
  obtain ⟨nt, x1, x2, x3, x4, x5, ft, fs, f2, f4, f5, ⟨hs, e1, e2, e3, e4, e5⟩, hn, hv, hp, hw1, hw2, hw3⟩ := id hb
  refine Meets.of (plainFor_of_name (by decide)) (Nat.le_of_ble_eq_true rfl) (fun X C hX hN hA => ?_)
  refine r_aload_n C dX0_toldWord_0 rfl ?_
  refine r_iload_n C dX0_toldWord_1 rfl ?_
  refine r_cVi C dX0_toldWord_2 mlX0_56 kX0_hasPage (m_hasPage (p := p) hb) hs rfl rfl rfl (Nat.le_of_ble_eq_true rfl) (fit hX (by decide)) ?_
  refine r_if_eq (tgt := 17) C dX0_toldWord_5 (by decide) (fun hc5 => ?_) (fun hc5 => ?_)
  · exact absurd hc5 (by rw [zb_t ⟨h0, h9⟩]; decide)
  · refine r_aload_n C dX0_toldWord_8 rfl ?_
    refine r_get C dX0_toldWord_9 flX0_21 hs rfl ?_
    refine r_iload_n C dX0_toldWord_12 rfl ?_
    refine r_iald C dX0_toldWord_13 e2 (by omega) (by omega) ?_
    refine r_goto (tgt := 19) C dX0_toldWord_14 (by decide) ?_
    exact r_iret C dX0_toldWord_19 (by decide) (by decide) (⟨some_I (hw3 p h0 (by omega)).2.1, rfl⟩)
theorem m_Bnamed {p : Int} (hb : BkR h a T vs pg mn tx tl du) (h0 : 0 ≤ p) (h9 : p < pg) : Meets yX0_named cX0_named 2 (some .int) 1 0 0 [vR a, vI p] h (pI (nmd (mn (48 + p)) (tx (48 + p))) h) := by
  obtain ⟨nt, x1, x2, x3, x4, x5, ft, fs, f2, f4, f5, ⟨hs, e1, e2, e3, e4, e5⟩, hn, hv, hp, hw1, hw2, hw3⟩ := id hb
  refine Meets.of (plainFor_of_name (by decide)) (Nat.le_of_ble_eq_true rfl) (fun X C hX hN hA => ?_)
  refine r_aload_n C dX0_named_0 rfl ?_
  refine r_iload_n C dX0_named_1 rfl ?_
  refine r_cVi C dX0_named_2 mlX0_56 kX0_hasPage (m_hasPage (p := p) hb) hs rfl rfl rfl (Nat.le_of_ble_eq_true rfl) (fit hX (by decide)) ?_
  refine r_if_eq (tgt := 17) C dX0_named_5 (by decide) (fun hc5 => ?_) (fun hc5 => ?_)
  · exact absurd hc5 (by rw [zb_t ⟨h0, h9⟩]; decide)
  · refine r_aload_n C dX0_named_8 rfl ?_
    refine r_get C dX0_named_9 flX0_28 hs rfl ?_
    refine r_iload_n C dX0_named_12 rfl ?_
    refine r_iald C dX0_named_13 e4 (by omega) (by omega) ?_
    refine r_goto (tgt := 18) C dX0_named_14 (by decide) ?_
    exact r_iret C dX0_named_18 (by decide) (by decide) (⟨some_I (hw3 p h0 (by omega)).1, rfl⟩)
theorem m_due {p : Int} (hb : BkR h a T vs pg mn tx tl du) (h0 : 0 ≤ p) (h9 : p < pg) : Meets yX0_due cX0_due 2 (some .int) 1 0 0 [vR a, vI p] h (pI (du p) h) := by
  obtain ⟨nt, x1, x2, x3, x4, x5, ft, fs, f2, f4, f5, ⟨hs, e1, e2, e3, e4, e5⟩, hn, hv, hp, hw1, hw2, hw3⟩ := id hb
  refine Meets.of (plainFor_of_name (by decide)) (Nat.le_of_ble_eq_true rfl) (fun X C hX hN hA => ?_)
  refine r_aload_n C dX0_due_0 rfl ?_
  refine r_iload_n C dX0_due_1 rfl ?_
  refine r_cVi C dX0_due_2 mlX0_56 kX0_hasPage (m_hasPage (p := p) hb) hs rfl rfl rfl (Nat.le_of_ble_eq_true rfl) (fit hX (by decide)) ?_
  refine r_if_eq (tgt := 17) C dX0_due_5 (by decide) (fun hc5 => ?_) (fun hc5 => ?_)
  · exact absurd hc5 (by rw [zb_t ⟨h0, h9⟩]; decide)
  · refine r_aload_n C dX0_due_8 rfl ?_
    refine r_get C dX0_due_9 flX0_31 hs rfl ?_
    refine r_iload_n C dX0_due_12 rfl ?_
    refine r_iald C dX0_due_13 e5 (by omega) (by omega) ?_
    refine r_goto (tgt := 19) C dX0_due_14 (by decide) ?_
    exact r_iret C dX0_due_19 (by decide) (by decide) (⟨some_I (hw3 p h0 (by omega)).2.2, rfl⟩)
theorem m_example {p : Int} (hb : BkR h a T vs pg mn tx tl du) (h0 : 0 ≤ p) (h9 : p < pg) : Meets yX0_example cX0_example 2 (some (.object "BookShows$Text")) 1 0 0 [vR a, vI p] h (pY (fun q h' => h' = h ∧ TxP h (some q) (mn (48 + p)) (tx (48 + p)))) := by
  obtain ⟨nt, x1, x2, x3, x4, x5, ft, fs, f2, f4, f5, ⟨hs, e1, e2, e3, e4, e5⟩, hn, hv, hp, hw1, hw2, hw3⟩ := id hb
  obtain ⟨q, b, m, g, eq, hr⟩ := hw2 p h0 (by omega)
  refine Meets.of (plainFor_of_name (by decide)) (Nat.le_of_ble_eq_true rfl) (fun X C hX hN hA => ?_)
  refine r_aload_n C dX0_example_0 rfl ?_
  refine r_iload_n C dX0_example_1 rfl ?_
  refine r_cVi C dX0_example_2 mlX0_56 kX0_hasPage (m_hasPage (p := p) hb) hs rfl rfl rfl (Nat.le_of_ble_eq_true rfl) (fit hX (by decide)) ?_
  refine r_if_eq (tgt := 17) C dX0_example_5 (by decide) (fun hc5 => ?_) (fun hc5 => ?_)
  · exact absurd hc5 (by rw [zb_t ⟨h0, h9⟩]; decide)
  · refine r_aload_n C dX0_example_8 rfl ?_
    refine r_get C dX0_example_9 flX0_25 hs rfl ?_
    refine r_iload_n C dX0_example_12 rfl ?_
    refine r_aald C dX0_example_13 e3 (by omega) (by omega) eq ?_
    refine r_goto (tgt := 21) C dX0_example_14 (by decide) ?_
    exact r_aret C dX0_example_21 (by decide) (by decide) (⟨q, rfl, rfl, q, b, m, g, rfl, hr⟩)
theorem m_text {v w : Int} (hb : BkR h a T vs pg mn tx tl du) (h0 : 0 ≤ v) (h9 : v < vs) (hw : 0 ≤ w) (hw8 : w < 8) : Meets yX0_text cX0_text 3 (some (.object "BookShows$Text")) 1 0 0 [vR a, vI v, vI w] h (pY (fun q h' => h' = h ∧ TxP h (some q) (mn (8 * v + w)) (tx (8 * v + w)))) := by
  obtain ⟨nt, x1, x2, x3, x4, x5, ft, fs, f2, f4, f5, ⟨hs, e1, e2, e3, e4, e5⟩, hn, hv, hp, hw1, hw2, hw3⟩ := id hb
  obtain ⟨q, b, m, g, eq, hr⟩ := hw1 (8 * v + w) (by omega) (by omega)
  rw [show 8 * v + w = v * 8 + w by omega] at eq
  refine Meets.of (plainFor_of_name (by decide)) (Nat.le_of_ble_eq_true rfl) (fun X C hX hN hA => ?_)
  refine r_aload_n C dX0_text_0 rfl ?_
  refine r_iload_n C dX0_text_1 rfl ?_
  refine r_cVi C dX0_text_2 mlX0_45 kX0_hasVersion (m_hasVersion (v := v) hb) hs rfl rfl rfl (Nat.le_of_ble_eq_true rfl) (fit hX (by decide)) ?_
  refine r_if_eq (tgt := 15) C dX0_text_5 (by decide) (fun hc5 => ?_) (fun hc5 => ?_)
  · exact absurd hc5 (by rw [zb_t ⟨h0, h9⟩]; decide)
  · refine r_iload_n C dX0_text_8 rfl ?_
    refine r_cNi C dX0_text_9 C.K.2.2.2.1 kX7_isWord (m_isWord (c := w)) rfl rfl (Nat.le_of_ble_eq_true rfl) (fit hX (by decide)) ?_
    refine r_if_ne (tgt := 20) C dX0_text_12 (by decide) (fun hc12 => ?_) (fun hc12 => ?_)
    · refine r_aload_n C dX0_text_20 rfl ?_
      refine r_get C dX0_text_21 flX0_17 hs rfl ?_
      refine r_iload_n C dX0_text_24 rfl ?_
      refine r_bipush C dX0_text_25 (by decide) ?_
      refine r_imul C dX0_text_27 (by omega) ?_
      refine r_iload_n C dX0_text_28 rfl ?_
      refine r_iadd C dX0_text_29 (by omega) ?_
      refine r_aald C dX0_text_30 e1 (by omega) (by omega) eq ?_
      exact r_aret C dX0_text_31 (by decide) (by decide) (⟨q, rfl, rfl, q, b, m, g, rfl, hr⟩)
    · exact absurd hc12 (by rw [zb_t ⟨hw, hw8⟩]; decide)
theorem m_examples (hb : BkR h a T vs pg mn tx tl du) : Meets yX0_examples cX0_examples 3 (some .int) 2 0 0 [vR a] h (pI (bt (fun p => tl p = -6) pg) h) := by
  obtain ⟨nt, x1, x2, x3, x4, x5, ft, fs, f2, f4, f5, ⟨hs, e1, e2, e3, e4, e5⟩, hn, hv, hp, hw1, hw2, hw3⟩ := id hb
  refine Meets.of (plainFor_of_name (by decide)) (Nat.le_of_ble_eq_true rfl) (fun X C hX hN hA => ?_)
  have loop : ∀ (j : Nat) (i : Int), 0 ≤ i → i ≤ pg → pg - i < j → Go X (Qm X (pI (bt (fun p => tl p = -6) pg) h) 0 0) 0 0 h 4 [some (vR a), some (vI (bt (fun p => tl p = -6) i)), some (vI i)] [] := by
    intro j
    induction j with
    | zero => intro i h3 h4 h5; exact absurd h5 (by omega)
    | succ j ih =>
      intro i h3 h4 h5
      refine r_iload_n C dX0_examples_4 rfl ?_
      refine r_aload_n C dX0_examples_5 rfl ?_
      refine r_get C dX0_examples_6 flX0_38 hs rfl ?_
      refine r_icmp_ge (tgt := 32) C dX0_examples_9 (by decide) (fun hc9 => ?_) (fun hc9 => ?_)
      · refine r_iload_n C dX0_examples_32 rfl ?_
        exact r_iret C dX0_examples_33 (by decide) (by decide) ⟨some_I (by rw [show i = pg by omega]), rfl⟩
      · refine r_aload_n C dX0_examples_12 rfl ?_
        refine r_iload_n C dX0_examples_13 rfl ?_
        refine r_cVi C dX0_examples_14 mlX0_59 kX0_isExample (m_isExample (p := i) hb) hs rfl rfl rfl (Nat.le_of_ble_eq_true rfl) (fit hX (by decide)) ?_
        refine r_if_eq (tgt := 26) C dX0_examples_17 (by decide) (fun hc17 => ?_) (fun hc17 => ?_)
        · refine r_iinc C dX0_examples_26 rfl (by decide) (by omega) ?_
          refine r_goto (tgt := 4) C dX0_examples_29 (by decide) ?_
          have hz := ih (i + 1) (by omega) (by omega) (by omega)
          first | (rw [bt_f h3 (fun q => zb_0.mp hc17 ⟨h3, by omega, q⟩)] at hz; exact hz) | (rw [bt_t h3 (zb_n0.mp hc17).2.2] at hz; exact hz)
        · refine r_iload_n C dX0_examples_20 rfl ?_
          refine r_iconst C dX0_examples_21 (by decide) ?_
          refine r_iload_n C dX0_examples_22 rfl ?_
          refine r_ishl C dX0_examples_23 ?_
          refine r_ior C dX0_examples_24 ?_
          refine r_istore_n C dX0_examples_25 (by decide) ?_
          refine r_iinc C dX0_examples_26 rfl (by decide) (by omega) ?_
          refine r_goto (tgt := 4) C dX0_examples_29 (by decide) ?_
          have hz := ih (i + 1) (by omega) (by omega) (by omega)
          first | (rw [bt_f h3 (fun q => zb_0.mp hc17 ⟨h3, by omega, q⟩)] at hz; exact hz) | (rw [bt_t h3 (zb_n0.mp hc17).2.2] at hz; exact hz)
  refine r_iconst C dX0_examples_0 (by decide) ?_
  refine r_istore_n C dX0_examples_1 (by decide) ?_
  refine r_iconst C dX0_examples_2 (by decide) ?_
  refine r_istore_n C dX0_examples_3 (by decide) ?_
  exact loop (pg.toNat + 1) 0 (by omega) (by omega) (by omega)
/-- the words that the pages below i tell -/
def tdN (tl : Int → Int) : Nat → Int
  | 0 => 0
  | j + 1 => if tl j = -6 then tdN tl j else bOr (tdN tl j) (bShl 1 (tl j))
def td (tl : Int → Int) (i : Int) : Int := tdN tl i.toNat
theorem td_s {tl : Int → Int} {i : Int} (h0 : 0 ≤ i) : td tl (i + 1) = if tl i = -6 then td tl i else bOr (td tl i) (bShl 1 (tl i)) := by
  unfold td
  have e : (i + 1).toNat = i.toNat + 1 := by omega
  have e2 : ((i.toNat : Nat) : Int) = i := by omega
  rw [e]
  conv => lhs; unfold tdN
  rw [e2]
theorem m_toldWords (hb : BkR h a T vs pg mn tx tl du) : Meets yX0_toldWords cX0_toldWords 3 (some .int) 2 0 0 [vR a] h (pI (td tl pg) h) := by
  obtain ⟨nt, x1, x2, x3, x4, x5, ft, fs, f2, f4, f5, ⟨hs, e1, e2, e3, e4, e5⟩, hn, hv, hp, hw1, hw2, hw3⟩ := id hb
  refine Meets.of (plainFor_of_name (by decide)) (Nat.le_of_ble_eq_true rfl) (fun X C hX hN hA => ?_)
  have loop : ∀ (j : Nat) (i : Int), 0 ≤ i → i ≤ pg → pg - i < j → Go X (Qm X (pI (td tl pg) h) 0 0) 0 0 h 4 [some (vR a), some (vI (td tl i)), some (vI i)] [] := by
    intro j
    induction j with
    | zero => intro i h3 h4 h5; exact absurd h5 (by omega)
    | succ j ih =>
      intro i h3 h4 h5
      have hst := td_s (tl := tl) h3
      refine r_iload_n C dX0_toldWords_4 rfl ?_
      refine r_aload_n C dX0_toldWords_5 rfl ?_
      refine r_get C dX0_toldWords_6 flX0_38 hs rfl ?_
      refine r_icmp_ge (tgt := 37) C dX0_toldWords_9 (by decide) (fun hc9 => ?_) (fun hc9 => ?_)
      · refine r_iload_n C dX0_toldWords_37 rfl ?_
        exact r_iret C dX0_toldWords_38 (by decide) (by decide) ⟨some_I (by rw [show i = pg by omega]), rfl⟩
      · refine r_aload_n C dX0_toldWords_12 rfl ?_
        refine r_iload_n C dX0_toldWords_13 rfl ?_
        refine r_cVi C dX0_toldWords_14 mlX0_59 kX0_isExample (m_isExample (p := i) hb) hs rfl rfl rfl (Nat.le_of_ble_eq_true rfl) (fit hX (by decide)) ?_
        refine r_if_ne (tgt := 31) C dX0_toldWords_17 (by decide) (fun hc17 => ?_) (fun hc17 => ?_)
        · refine r_iinc C dX0_toldWords_31 rfl (by decide) (by omega) ?_
          refine r_goto (tgt := 4) C dX0_toldWords_34 (by decide) ?_
          have hz := ih (i + 1) (by omega) (by omega) (by omega)
          rw [hst] at hz
          first | (rw [if_neg (fun q => zb_0.mp hc17 ⟨h3, by omega, q⟩)] at hz; exact hz) | (rw [if_pos (zb_n0.mp hc17).2.2] at hz; exact hz)
        · refine r_iload_n C dX0_toldWords_20 rfl ?_
          refine r_iconst C dX0_toldWords_21 (by decide) ?_
          refine r_aload_n C dX0_toldWords_22 rfl ?_
          refine r_get C dX0_toldWords_23 flX0_21 hs rfl ?_
          refine r_iload_n C dX0_toldWords_26 rfl ?_
          refine r_iald C dX0_toldWords_27 e2 (by omega) (by omega) ?_
          rw [(hw3 i h3 (by omega)).2.1]
          refine r_ishl C dX0_toldWords_28 ?_
          refine r_ior C dX0_toldWords_29 ?_
          refine r_istore_n C dX0_toldWords_30 (by decide) ?_
          refine r_iinc C dX0_toldWords_31 rfl (by decide) (by omega) ?_
          refine r_goto (tgt := 4) C dX0_toldWords_34 (by decide) ?_
          have hz := ih (i + 1) (by omega) (by omega) (by omega)
          rw [hst] at hz
          first | (rw [if_neg (fun q => zb_0.mp hc17 ⟨h3, by omega, q⟩)] at hz; exact hz) | (rw [if_pos (zb_n0.mp hc17).2.2] at hz; exact hz)
  refine r_iconst C dX0_toldWords_0 (by decide) ?_
  refine r_istore_n C dX0_toldWords_1 (by decide) ?_
  refine r_iconst C dX0_toldWords_2 (by decide) ?_
  refine r_istore_n C dX0_toldWords_3 (by decide) ?_
  exact loop (pg.toNat + 1) 0 (by omega) (by omega) (by omega)
/-- a word is as it was in the version ahead -/
def like (mn : Int → Int) (tx : Int → Int → Int) (s t : Int) : Prop := mn s = mn t ∧ ∀ i, 0 ≤ i → i < mn s → tx s i = tx t i
theorem m_changed {v : Int} (hb : BkR h a T vs pg mn tx tl du) (h0 : 1 ≤ v) (h9 : v < vs) : Meets yX0_changed cX0_changed 4 (some .int) 2 0 0 [vR a, vI v] h (pI (bt (fun w => ¬ like mn tx (8 * v + w) (8 * (v - 1) + w)) 8) h) := by
  obtain ⟨nt, x1, x2, x3, x4, x5, ft, fs, f2, f4, f5, ⟨hs, e1, e2, e3, e4, e5⟩, hn, hv, hp, hw1, hw2, hw3⟩ := id hb
  refine Meets.of (plainFor_of_name (by decide)) (Nat.le_of_ble_eq_true rfl) (fun X C hX hN hA => ?_)
  have loop : ∀ (j : Nat) (i : Int), 0 ≤ i → i ≤ 8 → 8 - i < j → Go X (Qm X (pI (bt (fun w => ¬ like mn tx (8 * v + w) (8 * (v - 1) + w)) 8) h) 0 0) 0 0 h 4 [some (vR a), some (vI v), some (vI (bt (fun w => ¬ like mn tx (8 * v + w) (8 * (v - 1) + w)) i)), some (vI i)] [] := by
    intro j
    induction j with
    | zero => intro i h3 h4 h5; exact absurd h5 (by omega)
    | succ j ih =>
      intro i h3 h4 h5
      refine r_iload_n C dX0_changed_4 rfl ?_
      refine r_bipush C dX0_changed_5 (by decide) ?_
      refine r_icmp_ge (tgt := 42) C dX0_changed_7 (by decide) (fun hc7 => ?_) (fun hc7 => ?_)
      · refine r_iload_n C dX0_changed_42 rfl ?_
        exact r_iret C dX0_changed_43 (by decide) (by decide) ⟨some_I (by rw [show i = 8 by omega]), rfl⟩
      refine r_aload_n C dX0_changed_10 rfl ?_
      refine r_iload_n C dX0_changed_11 rfl ?_
      refine r_iload_n C dX0_changed_12 rfl ?_
      refine r_cVy C dX0_changed_13 mlX0_41 kX0_text (m_text (v := v) (w := i) hb (by omega) (by omega) (by omega) (by omega)) hs rfl rfl rfl (Nat.le_of_ble_eq_true rfl) (fit hX (by decide)) ?_
      rintro q1 h' ⟨rfl, ht1⟩
      refine r_aload_n C dX0_changed_16 rfl ?_
      refine r_iload_n C dX0_changed_17 rfl ?_
      refine r_iconst C dX0_changed_18 (by decide) ?_
      refine r_isub C dX0_changed_19 (by omega) ?_
      refine r_iload_n C dX0_changed_20 rfl ?_
      refine r_cVy C dX0_changed_21 mlX0_41 kX0_text (m_text (v := v - 1) (w := i) hb (by omega) (by omega) (by omega) (by omega)) hs rfl rfl rfl (Nat.le_of_ble_eq_true rfl) (fit hX (by decide)) ?_
      rintro q2 h' ⟨rfl, ht2⟩
      obtain ⟨b1, t1, t1', m1, g1, hts1, -⟩ := id ht1.R
      refine r_cVi C dX0_changed_24 mlX0_52 kX6_isLike (m_isLike ht1.R ht2.R) hts1 rfl rfl rfl (Nat.le_of_ble_eq_true rfl) (fit hX (by decide)) ?_
      refine r_if_ne (tgt := 36) C dX0_changed_27 (by decide) (fun hc27 => ?_) (fun hc27 => ?_)
      · refine r_iinc C dX0_changed_36 rfl (by decide) (by omega) ?_
        refine r_goto (tgt := 4) C dX0_changed_39 (by decide) ?_
        have hz := ih (i + 1) (by omega) (by omega) (by omega)
        first | (rw [bt_f h3 (fun q => q (zb_n0.mp hc27))] at hz; exact hz) | (rw [bt_t h3 (zb_0.mp hc27)] at hz; exact hz)
      · refine r_iload_n C dX0_changed_30 rfl ?_
        refine r_iconst C dX0_changed_31 (by decide) ?_
        refine r_iload_n C dX0_changed_32 rfl ?_
        refine r_ishl C dX0_changed_33 ?_
        refine r_ior C dX0_changed_34 ?_
        refine r_istore_n C dX0_changed_35 (by decide) ?_
        refine r_iinc C dX0_changed_36 rfl (by decide) (by omega) ?_
        refine r_goto (tgt := 4) C dX0_changed_39 (by decide) ?_
        have hz := ih (i + 1) (by omega) (by omega) (by omega)
        first | (rw [bt_f h3 (fun q => q (zb_n0.mp hc27))] at hz; exact hz) | (rw [bt_t h3 (zb_0.mp hc27)] at hz; exact hz)
  refine r_iconst C dX0_changed_0 (by decide) ?_
  refine r_istore_n C dX0_changed_1 (by decide) ?_
  refine r_iconst C dX0_changed_2 (by decide) ?_
  refine r_istore_n C dX0_changed_3 (by decide) ?_
  exact loop 9 0 (by omega) (by omega) (by omega)
end
