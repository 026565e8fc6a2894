/-! Book, second part: what changes it -/
section
variable {h : Pic} {a T : Nat} {vs pg : Int} {mn : Int → Int} {tx : Int → Int → Int} {tl du : Int → Int}
theorem m_setDue {p d : Int} (hb : BkR h a T vs pg mn tx tl du) (hT : 6 < T) (h0 : 0 ≤ p) (h9 : p < pg) : Meets yX0_setDue cX0_setDue 3 none 1 0 0 [vR a, vI p, vI d] h (pV (fun h' => BkR h' a T vs pg mn tx tl (fu du p d) ∧ Kp (fun t => t = T + 5) h h')) := by
  obtain ⟨nt, x1, x2, x3, x4, x5, ft, fs, f2, f4, f5, ⟨hs, e1, e2, e3, e4, e5⟩, hn, hv, hp, hw1, hw2, hw3⟩ := id hb
  refine Meets.of (plainFor_of_name (by decide)) (Nat.le_of_ble_eq_true rfl) (fun X C hX hN hA => ?_)
  refine r_aload_n C dX0_setDue_0 rfl ?_
  refine r_iload_n C dX0_setDue_1 rfl ?_
  refine r_cVi C dX0_setDue_2 mlX0_56 kX0_hasPage (m_hasPage (p := p) hb) hs rfl rfl rfl (Nat.le_of_ble_eq_true rfl) (fit hX (by decide)) ?_
  rw [zb_t ⟨h0, h9⟩]
  refine r_if_eq (tgt := 15) C dX0_setDue_5 (by decide) (fun q => absurd q (by decide)) (fun _ => ?_)
  refine r_aload_n C dX0_setDue_8 rfl ?_
  refine r_get C dX0_setDue_9 flX0_31 hs rfl ?_
  refine r_iload_n C dX0_setDue_12 rfl ?_
  refine r_iload_n C dX0_setDue_13 rfl ?_
  refine r_iastA C dX0_setDue_14 e5 (by omega) (by omega) (fun h1' g5 o5 => ?_)
  have hk : Kp (fun t => t = T + 5) h h1' := o5.kp e5 rfl
  refine r_vret C dX0_setDue_15 (by decide) (by decide) ⟨rfl, ⟨nt, x1, x2, x3, x4, x5, ft, fs, f2, f4, fu f5 p d, ⟨hk _ _ _ hs (by omega), hk _ _ _ e1 (by omega), hk _ _ _ e2 (by omega), hk _ _ _ e3 (by omega), hk _ _ _ e4 (by omega), g5⟩, hn.kp hk (by omega) (by omega), hv, hp, fun t q1 q2 => (hw1 t q1 q2).kp hk (by omega) (by omega), fun t q1 q2 => (hw2 t q1 q2).kp hk (by omega) (by omega), fun t q1 q2 => ⟨(hw3 t q1 q2).1, (hw3 t q1 q2).2.1, ?_⟩⟩, hk⟩
  by_cases ht : t = p
  · rw [ht, fu_s, fu_s]
  · rw [fu_n ht, fu_n ht]; exact (hw3 t q1 q2).2.2
theorem m_rewrite {w n : Int} {q : Nat} {f : Int → Int} (hb : BkR h a T vs pg mn tx tl du) (hT : 6 < T) (hq : TxP h (some q) n f) (h0 : 0 ≤ w) (h9 : w < 8) : Meets yX0_rewrite cX0_rewrite 3 none 1 0 0 [vR a, vI w, vR q] h (pV (fun h' => BkR h' a T vs pg (fu mn (8 * (vs - 1) + w) n) (fu tx (8 * (vs - 1) + w) f) tl du ∧ Kp (fun t => t = T + 1) h h')) := by
  obtain ⟨nt, x1, x2, x3, x4, x5, ft, fs, f2, f4, f5, ⟨hs, e1, e2, e3, e4, e5⟩, hn, hv, hp, hw1, hw2, hw3⟩ := id hb
  obtain ⟨q', b', m', g', hqq, hq1, hq2, hq3⟩ := id hq
  cases hqq
  refine Meets.of (plainFor_of_name (by decide)) (Nat.le_of_ble_eq_true rfl) (fun X C hX hN hA => ?_)
  refine r_iload_n C dX0_rewrite_0 rfl ?_
  refine r_cNi C dX0_rewrite_1 C.K.2.2.2.1 kX7_isWord (m_isWord (c := w)) rfl rfl (Nat.le_of_ble_eq_true rfl) (fit hX (by decide)) ?_
  rw [zb_t ⟨h0, h9⟩]
  refine r_if_eq (tgt := 24) C dX0_rewrite_4 (by decide) (fun q => absurd q (by decide)) (fun _ => ?_)
  refine r_aload_n C dX0_rewrite_7 rfl ?_
  refine r_get C dX0_rewrite_8 flX0_17 hs rfl ?_
  refine r_aload_n C dX0_rewrite_11 rfl ?_
  refine r_get C dX0_rewrite_12 flX0_34 hs rfl ?_
  refine r_iconst C dX0_rewrite_15 (by decide) ?_
  refine r_isub C dX0_rewrite_16 (by omega) ?_
  refine r_bipush C dX0_rewrite_17 (by decide) ?_
  refine r_imul C dX0_rewrite_19 (by omega) ?_
  refine r_iload_n C dX0_rewrite_20 rfl ?_
  refine r_iadd C dX0_rewrite_21 (by omega) ?_
  refine r_aload_n C dX0_rewrite_22 rfl ?_
  refine r_aastA C dX0_rewrite_23 e1 hq1 (by omega) (by omega) (fun h1' g1 o1 => ?_)
  have hk : Kp (fun t => t = T + 1) h h1' := o1.kp e1 rfl
  refine r_vret C dX0_rewrite_24 (by decide) (by decide) ⟨rfl, ⟨nt, x1, x2, x3, x4, x5, fu ft ((vs - 1) * 8 + w) (some q), fs, f2, f4, f5, ⟨hk _ _ _ hs (by omega), g1, hk _ _ _ e2 (by omega), hk _ _ _ e3 (by omega), hk _ _ _ e4 (by omega), hk _ _ _ e5 (by omega)⟩, hn.kp hk (by omega) (by omega), hv, hp, fun t q1 q2 => ?_, fun t q1 q2 => ?_, fun t q1 q2 => ?_⟩, hk⟩
  · by_cases ht : t = 8 * (vs - 1) + w
    · rw [show (vs - 1) * 8 + w = 8 * (vs - 1) + w by omega, ht, fu_s, fu_s, fu_s]
      exact hq.kp hk (by omega) (by omega)
    · rw [show (vs - 1) * 8 + w = 8 * (vs - 1) + w by omega, fu_n ht, fu_n ht, fu_n ht]
      exact (hw1 t q1 q2).kp hk (by omega) (by omega)
  · rw [fu_n (by omega), fu_n (by omega)]
    exact (hw2 t q1 q2).kp hk (by omega) (by omega)
  · rw [fu_n (by omega), fu_n (by omega)]
    exact hw3 t q1 q2
/-- the words of a new version as those of the last one: the first w of them -/
def mnA {α : Type} (vs : Int) (mn : Int → α) (w : Int) : Int → α := fun t => if 8 * vs ≤ t ∧ t < 8 * vs + w then mn (t - 8) else mn t
theorem mnA_0 {α : Type} {vs : Int} {mn : Int → α} : mnA vs mn 0 = mn := by
  funext t
  unfold mnA
  rw [if_neg (by omega)]
theorem mnA_lo {α : Type} {vs : Int} {mn : Int → α} {w t : Int} (ht : t < 8 * vs) : mnA vs mn w t = mn t := if_neg (by omega)
theorem mnA_s {α : Type} {vs : Int} {mn : Int → α} {w : Int} (h0 : 0 ≤ w) : mnA vs mn (w + 1) = fu (mnA vs mn w) (8 * vs + w) (mn (8 * (vs - 1) + w)) := by
  funext t
  unfold mnA fu
  by_cases ht : t = 8 * vs + w
  · rw [if_pos (by omega), if_pos ht, show t - 8 = 8 * (vs - 1) + w by omega]
  · rw [if_neg ht]
    dsimp only
    by_cases ht2 : 8 * vs ≤ t ∧ t < 8 * vs + w
    · rw [if_pos (by omega), if_pos (by omega)]
    · rw [if_neg (by omega), if_neg (by omega)]
theorem m_addVersion (hb : BkR h a T vs pg mn tx tl du) (hT : 6 < T) (h6 : vs < 6) : Meets yX0_addVersion cX0_addVersion 2 (some .int) 2 0 0 [vR a] h (pX (fun z h' => z = vs ∧ BkR h' a T (vs + 1) pg (mnA vs mn 8) (mnA vs tx 8) tl du ∧ Kp (fun t => t = T ∨ t = T + 1) h h')) := by
  refine Meets.of (plainFor_of_name (by decide)) (Nat.le_of_ble_eq_true rfl) (fun X C hX hN hA => ?_)
  have loop : ∀ (j : Nat) (i : Int) (h' : Pic), 0 ≤ i → i ≤ 8 → 8 - i < j → BkR h' a T vs pg (mnA vs mn i) (mnA vs tx i) tl du → Kp (fun t => t = T ∨ t = T + 1) h h' → Go X (Qm X (pX (fun z h' => z = vs ∧ BkR h' a T (vs + 1) pg (mnA vs mn 8) (mnA vs tx 8) tl du ∧ Kp (fun t => t = T ∨ t = T + 1) h h')) 0 0) 0 0 h' 14 [some (vR a), some (vI i)] [] := by
    intro j
    induction j with
    | zero => intro i h' h3 h4 h5; exact absurd h5 (by omega)
    | succ j ih =>
      intro i h' h3 h4 h5 hb' hk'
      obtain ⟨nt, x1, x2, x3, x4, x5, ft, fs, f2, f4, f5, ⟨hs, e1, e2, e3, e4, e5⟩, hn, hv, hp, hw1, hw2, hw3⟩ := id hb'
      refine r_iload_n C dX0_addVersion_14 rfl ?_
      refine r_bipush C dX0_addVersion_15 (by decide) ?_
      refine r_icmp_ge (tgt := 51) C dX0_addVersion_17 (by decide) (fun hc17 => ?_) (fun hc17 => ?_)
      · have hi : i = 8 := by omega
        subst hi
        refine r_aload_n C dX0_addVersion_51 rfl ?_
        refine r_dup C dX0_addVersion_52 ?_
        refine r_get C dX0_addVersion_53 flX0_34 hs rfl ?_
        refine r_iconst C dX0_addVersion_56 (by decide) ?_
        refine r_iadd C dX0_addVersion_57 (by omega) ?_
        refine r_putA C dX0_addVersion_58 flX0_34 hs rfl rfl (fs2 := [vR nt, vR x1, vR x2, vR x3, vR x4, vR x5, vI (vs + 1), vI pg]) rfl (fun h1' g0 o0 => ?_)
        have hk : Kp (fun t => t = T ∨ t = T + 1) h' h1' := o0.kp hs (Or.inl rfl)
        refine r_aload_n C dX0_addVersion_61 rfl ?_
        refine r_get C dX0_addVersion_62 flX0_34 g0 rfl ?_
        refine r_iconst C dX0_addVersion_65 (by decide) ?_
        refine r_isub C dX0_addVersion_66 (by omega) ?_
        rw [show vs + 1 - 1 = vs by omega]
        have hk2 : Kp (fun t => t = T) h' h1' := o0.kp hs rfl
        exact r_iret C dX0_addVersion_67 (by decide) (by decide) ⟨vs, rfl, rfl, ⟨nt, x1, x2, x3, x4, x5, ft, fs, f2, f4, f5, ⟨g0, hk2 _ _ _ e1 (by omega), hk2 _ _ _ e2 (by omega), hk2 _ _ _ e3 (by omega), hk2 _ _ _ e4 (by omega), hk2 _ _ _ e5 (by omega)⟩, hn.kp hk2 (by omega) (by omega), by omega, hp, fun t q1 q2 => (hw1 t q1 q2).kp hk2 (by omega) (by omega), fun t q1 q2 => (hw2 t q1 q2).kp hk2 (by omega) (by omega), hw3⟩, hk'.tr hk⟩
      refine r_aload_n C dX0_addVersion_20 rfl ?_
      refine r_get C dX0_addVersion_21 flX0_17 hs rfl ?_
      refine r_aload_n C dX0_addVersion_24 rfl ?_
      refine r_get C dX0_addVersion_25 flX0_34 hs rfl ?_
      refine r_bipush C dX0_addVersion_28 (by decide) ?_
      refine r_imul C dX0_addVersion_30 (by omega) ?_
      refine r_iload_n C dX0_addVersion_31 rfl ?_
      refine r_iadd C dX0_addVersion_32 (by omega) ?_
      refine r_aload_n C dX0_addVersion_33 rfl ?_
      refine r_aload_n C dX0_addVersion_34 rfl ?_
      refine r_get C dX0_addVersion_35 flX0_34 hs rfl ?_
      refine r_iconst C dX0_addVersion_38 (by decide) ?_
      refine r_isub C dX0_addVersion_39 (by omega) ?_
      refine r_iload_n C dX0_addVersion_40 rfl ?_
      refine r_cVy C dX0_addVersion_41 mlX0_41 kX0_text (m_text (v := vs - 1) (w := i) hb' (by omega) (by omega) (by omega) (by omega)) hs rfl rfl rfl (Nat.le_of_ble_eq_true rfl) (fit hX (by decide)) ?_
      rintro q h'' ⟨rfl, htq⟩
      rw [mnA_lo (by omega), mnA_lo (by omega)] at htq
      obtain ⟨q', b', m', g', hqq, hq1, hq2, hq3⟩ := id htq
      cases hqq
      refine r_aastA C dX0_addVersion_44 e1 hq1 (by omega) (by omega) (fun h1' g1 o1 => ?_)
      have hk : Kp (fun t => t = T + 1) h'' h1' := o1.kp e1 rfl
      refine r_iinc C dX0_addVersion_45 rfl (by decide) (by omega) ?_
      refine r_goto (tgt := 14) C dX0_addVersion_48 (by decide) ?_
      refine ih (i + 1) h1' (by omega) (by omega) (by omega) ?_ (hk'.tr (hk.mono (fun t z => Or.inr z)))
      rw [mnA_s h3, mnA_s h3]
      refine ⟨nt, x1, x2, x3, x4, x5, fu ft (vs * 8 + i) (some q), fs, f2, f4, f5, ⟨hk _ _ _ hs (by omega), g1, hk _ _ _ e2 (by omega), hk _ _ _ e3 (by omega), hk _ _ _ e4 (by omega), hk _ _ _ e5 (by omega)⟩, hn.kp hk (by omega) (by omega), hv, hp, fun t q1 q2 => ?_, fun t q1 q2 => ?_, fun t q1 q2 => ?_⟩
      · by_cases ht : t = 8 * vs + i
        · rw [show vs * 8 + i = 8 * vs + i by omega, ht, fu_s, fu_s, fu_s]
          exact htq.kp hk (by omega) (by omega)
        · rw [show vs * 8 + i = 8 * vs + i by omega, fu_n ht, fu_n ht, fu_n ht]
          exact (hw1 t q1 q2).kp hk (by omega) (by omega)
      · rw [fu_n (by omega), fu_n (by omega)]
        exact (hw2 t q1 q2).kp hk (by omega) (by omega)
      · rw [fu_n (by omega), fu_n (by omega)]
        exact hw3 t q1 q2
  obtain ⟨nt, x1, x2, x3, x4, x5, ft, fs, f2, f4, f5, ⟨hs, e1, e2, e3, e4, e5⟩, hn, hv, hp, hw1, hw2, hw3⟩ := id hb
  refine r_aload_n C dX0_addVersion_0 rfl ?_
  refine r_get C dX0_addVersion_1 flX0_34 hs rfl ?_
  refine r_bipush C dX0_addVersion_4 (by decide) ?_
  refine r_icmp_lt (tgt := 12) C dX0_addVersion_6 (by decide) (fun _ => ?_) (fun q => absurd q (by omega))
  refine r_iconst C dX0_addVersion_12 (by decide) ?_
  refine r_istore_n C dX0_addVersion_13 (by decide) ?_
  exact loop 9 0 h (by omega) (by omega) (by omega) (by rw [mnA_0, mnA_0]; exact hb) Kp.rf
/-- a page more -/
theorem m_Badd {w n d : Int} {q : Nat} {f : Int → Int} (hb : BkR h a T vs pg mn tx tl du) (hT : 6 < T) (hq : TxP h (some q) n f) (h12 : pg < 12) : Meets yX0_add cX0_add 4 (some .int) 2 0 0 [vR a, vI w, vR q, vI d] h (pX (fun z h' => z = pg ∧ BkR h' a T vs (pg + 1) (fu mn (48 + pg) n) (fu tx (48 + pg) f) (fu tl pg w) (fu du pg d) ∧ Kp (fun t => t = T ∨ (T + 2 ≤ t ∧ t ≤ T + 5)) h h')) := by
  obtain ⟨nt, x1, x2, x3, x4, x5, ft, fs, f2, f4, f5, ⟨hs, e1, e2, e3, e4, e5⟩, hn, hv, hp, hw1, hw2, hw3⟩ := id hb
  obtain ⟨q', b', m', g', hqq, hq1, hq2, hq3⟩ := id hq
  cases hqq
  refine Meets.of (plainFor_of_name (by decide)) (Nat.le_of_ble_eq_true rfl) (fun X C hX hN hA => ?_)
  refine r_aload_n C dX0_add_0 rfl ?_
  refine r_get C dX0_add_1 flX0_38 hs rfl ?_
  refine r_bipush C dX0_add_4 (by decide) ?_
  refine r_icmp_lt (tgt := 12) C dX0_add_6 (by decide) (fun _ => ?_) (fun q => absurd q (by omega))
  refine r_aload_n C dX0_add_12 rfl ?_
  refine r_get C dX0_add_13 flX0_21 hs rfl ?_
  refine r_aload_n C dX0_add_16 rfl ?_
  refine r_get C dX0_add_17 flX0_38 hs rfl ?_
  refine r_iload_n C dX0_add_20 rfl ?_
  refine r_iastA C dX0_add_21 e2 (by omega) (by omega) (fun h1 g2 o2 => ?_)
  have k1 : Kp (fun t => t = T + 2) h h1 := o2.kp e2 rfl
  have hs1 := k1 _ _ _ hs (by omega)
  have e31 := k1 _ _ _ e3 (by omega)
  have hq11 := k1 _ _ _ hq1 (by omega)
  refine r_aload_n C dX0_add_22 rfl ?_
  refine r_get C dX0_add_23 flX0_25 hs1 rfl ?_
  refine r_aload_n C dX0_add_26 rfl ?_
  refine r_get C dX0_add_27 flX0_38 hs1 rfl ?_
  refine r_aload_n C dX0_add_30 rfl ?_
  refine r_aastA C dX0_add_31 e31 hq11 (by omega) (by omega) (fun h2 g3 o3 => ?_)
  have k2 : Kp (fun t => t = T + 3) h1 h2 := o3.kp e31 rfl
  have hs2 := k2 _ _ _ hs1 (by omega)
  have e42 := k2 _ _ _ (k1 _ _ _ e4 (by omega)) (by omega)
  have hqt : TxP h2 (some q) n f := (hq.kp k1 (by omega) (by omega)).kp k2 (by omega) (by omega)
  have hq12 := k2 _ _ _ hq11 (by omega)
  refine r_aload_n C dX0_add_32 rfl ?_
  refine r_get C dX0_add_33 flX0_28 hs2 rfl ?_
  refine r_aload_n C dX0_add_36 rfl ?_
  refine r_get C dX0_add_37 flX0_38 hs2 rfl ?_
  refine r_aload_n C dX0_add_40 rfl ?_
  refine r_cVi C dX0_add_41 mlX0_66 kX6_named (m_named hqt.R) hq12 rfl rfl rfl (Nat.le_of_ble_eq_true rfl) (fit hX (by decide)) ?_
  refine r_iastA C dX0_add_44 e42 (by omega) (by omega) (fun h3 g4 o4 => ?_)
  have k3 : Kp (fun t => t = T + 4) h2 h3 := o4.kp e42 rfl
  have hs3 := k3 _ _ _ hs2 (by omega)
  have e53 := k3 _ _ _ (k2 _ _ _ (k1 _ _ _ e5 (by omega)) (by omega)) (by omega)
  refine r_aload_n C dX0_add_45 rfl ?_
  refine r_get C dX0_add_46 flX0_31 hs3 rfl ?_
  refine r_aload_n C dX0_add_49 rfl ?_
  refine r_get C dX0_add_50 flX0_38 hs3 rfl ?_
  refine r_iload_n C dX0_add_53 rfl ?_
  refine r_iastA C dX0_add_54 e53 (by omega) (by omega) (fun h4 g5 o5 => ?_)
  have k4 : Kp (fun t => t = T + 5) h3 h4 := o5.kp e53 rfl
  have hs4 := k4 _ _ _ hs3 (by omega)
  refine r_aload_n C dX0_add_55 rfl ?_
  refine r_dup C dX0_add_56 ?_
  refine r_get C dX0_add_57 flX0_38 hs4 rfl ?_
  refine r_iconst C dX0_add_60 (by decide) ?_
  refine r_iadd C dX0_add_61 (by omega) ?_
  refine r_putA C dX0_add_62 flX0_38 hs4 rfl rfl (fs2 := [vR nt, vR x1, vR x2, vR x3, vR x4, vR x5, vI vs, vI (pg + 1)]) rfl (fun h5 g6 o6 => ?_)
  have k5 : Kp (fun t => t = T) h4 h5 := o6.kp hs4 rfl
  refine r_aload_n C dX0_add_65 rfl ?_
  refine r_get C dX0_add_66 flX0_38 g6 rfl ?_
  refine r_iconst C dX0_add_69 (by decide) ?_
  refine r_isub C dX0_add_70 (by omega) ?_
  rw [show pg + 1 - 1 = pg by omega]
  have kk : Kp (fun t => t = T ∨ (T + 2 ≤ t ∧ t ≤ T + 5)) h h5 := (((k1.mono (fun t z => by omega)).tr (k2.mono (fun t z => by omega))).tr ((k3.mono (fun t z => by omega)).tr (k4.mono (fun t z => by omega)))).tr (k5.mono (fun t z => by omega))
  refine r_iret C dX0_add_71 (by decide) (by decide) ⟨pg, rfl, rfl, ⟨nt, x1, x2, x3, x4, x5, ft, fu fs pg (some q), fu f2 pg w, fu f4 pg (nmd n f), fu f5 pg d, ⟨g6, kk _ _ _ e1 (by omega), k5 _ _ _ (k4 _ _ _ (k3 _ _ _ (k2 _ _ _ g2 (by omega)) (by omega)) (by omega)) (by omega), k5 _ _ _ (k4 _ _ _ (k3 _ _ _ g3 (by omega)) (by omega)) (by omega), k5 _ _ _ (k4 _ _ _ g4 (by omega)) (by omega), k5 _ _ _ g5 (by omega)⟩, hn.kp kk (by omega) (by omega), hv, by omega, fun t q1 q2 => ?_, fun t q1 q2 => ?_, fun t q1 q2 => ?_⟩, kk⟩
  · rw [fu_n (by omega), fu_n (by omega)]
    exact (hw1 t q1 q2).kp kk (by omega) (by omega)
  · by_cases ht : t = pg
    · rw [ht, fu_s, fu_s, fu_s]
      exact hq.kp kk (by omega) (by omega)
    · rw [fu_n ht, fu_n (by omega), fu_n (by omega)]
      exact (hw2 t q1 q2).kp kk (by omega) (by omega)
  · by_cases ht : t = pg
    · rw [ht, fu_s, fu_s, fu_s, fu_s, fu_s, fu_s, fu_s]
      exact ⟨rfl, rfl, rfl⟩
    · rw [fu_n ht, fu_n ht, fu_n ht, fu_n ht, fu_n ht, fu_n (by omega), fu_n (by omega)]
      exact hw3 t q1 q2
theorem m_addTelling {w : Int} (hb : BkR h a T vs pg mn tx tl du) (hT : 6 < T) (h12 : pg < 12) : Meets yX0_addTelling cX0_addTelling 2 (some .int) 3 0 0 [vR a, vI w] h (pX (fun z h' => z = pg ∧ BkR h' a T vs (pg + 1) (fu mn (48 + pg) 0) (fu tx (48 + pg) (fun _ => 0)) (fu tl pg w) (fu du pg 0) ∧ Kp (fun t => t = T ∨ (T + 2 ≤ t ∧ t ≤ T + 5)) h h')) := by
  obtain ⟨nt, x1, x2, x3, x4, x5, ft, fs, f2, f4, f5, ⟨hs, e1, e2, e3, e4, e5⟩, hn, hv, hp, hw1, hw2, hw3⟩ := id hb
  refine Meets.of (plainFor_of_name (by decide)) (Nat.le_of_ble_eq_true rfl) (fun X C hX hN hA => ?_)
  refine r_aload_n C dX0_addTelling_0 rfl ?_
  refine r_iload_n C dX0_addTelling_1 rfl ?_
  refine r_aload_n C dX0_addTelling_2 rfl ?_
  refine r_get C dX0_addTelling_3 flX0_9 hs rfl ?_
  refine r_iconst C dX0_addTelling_6 (by decide) ?_
  refine r_cVx C dX0_addTelling_7 mlX0_62 kX0_add (m_Badd (w := w) (d := 0) hb hT hn h12) hs rfl rfl rfl (Nat.le_of_ble_eq_true rfl) (fit hX (by decide)) ?_
  rintro z h1 ⟨hz, r⟩
  exact r_iret C dX0_addTelling_10 (by decide) (by decide) ⟨z, rfl, hz, r⟩
theorem m_addExample {n d : Int} {q : Nat} {f : Int → Int} (hb : BkR h a T vs pg mn tx tl du) (hT : 6 < T) (hq : TxP h (some q) n f) (h12 : pg < 12) : Meets yX0_addExample cX0_addExample 3 (some .int) 3 0 0 [vR a, vR q, vI d] h (pX (fun z h' => z = pg ∧ BkR h' a T vs (pg + 1) (fu mn (48 + pg) n) (fu tx (48 + pg) f) (fu tl pg (-6)) (fu du pg d) ∧ Kp (fun t => t = T ∨ (T + 2 ≤ t ∧ t ≤ T + 5)) h h')) := by
  obtain ⟨nt, x1, x2, x3, x4, x5, ft, fs, f2, f4, f5, ⟨hs, e1, e2, e3, e4, e5⟩, hn, hv, hp, hw1, hw2, hw3⟩ := id hb
  refine Meets.of (plainFor_of_name (by decide)) (Nat.le_of_ble_eq_true rfl) (fun X C hX hN hA => ?_)
  refine r_aload_n C dX0_addExample_0 rfl ?_
  refine r_bipush C dX0_addExample_1 (by decide) ?_
  refine r_aload_n C dX0_addExample_3 rfl ?_
  refine r_iload_n C dX0_addExample_4 rfl ?_
  refine r_cVx C dX0_addExample_5 mlX0_62 kX0_add (m_Badd (w := -6) (d := d) hb hT hq h12) hs rfl rfl rfl (Nat.le_of_ble_eq_true rfl) (fit hX (by decide)) ?_
  rintro z h1 ⟨hz, r⟩
  exact r_iret C dX0_addExample_8 (by decide) (by decide) ⟨z, rfl, hz, r⟩
end
