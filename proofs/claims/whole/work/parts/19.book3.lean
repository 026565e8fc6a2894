/-! Book, third part: as another one; new ones. Reckoner: its words -/
section
variable {h : Pic} {a T : Nat} {vs pg : Int} {mn : Int → Int} {tx : Int → Int → Int} {tl du : Int → Int}
theorem m_Bbecome {a2 T2 : Nat} {vs2 pg2 : Int} {mn2 : Int → Int} {tx2 : Int → Int → Int} {tl2 du2 : Int → Int} (hb : BkR h a T vs pg mn tx tl du) (hb2 : BkR h a2 T2 vs2 pg2 mn2 tx2 tl2 du2) (hT : 6 < T) (hT2 : T + 5 < T2 ∨ T2 + 5 < T) :
    Meets yX0_become cX0_become 3 none 0 0 0 [vR a, vR a2] h (pV (fun h' => BkR h' a T vs2 pg2 mn2 tx2 tl2 du2 ∧ Kp (fun t => T ≤ t ∧ t ≤ T + 5) h h')) := by
  obtain ⟨nt, x1, x2, x3, x4, x5, ft, fs, f2, f4, f5, ⟨hs, e1, e2, e3, e4, e5⟩, hn, hv, hp, hw1, hw2, hw3⟩ := id hb
  obtain ⟨nto, y1, y2, y3, y4, y5, fto, fso, f2o, f4o, f5o, ⟨hso, d1, d2, d3, d4, d5⟩, hno, hvo, hpo, ho1, ho2, ho3⟩ := id hb2
  refine Meets.of (plainFor_of_name (by decide)) (Nat.le_of_ble_eq_true rfl) (fun X C hX hN hA => ?_)
  have loop2 : ∀ (j : Nat) (i : Int) (h' : Pic) (ft' fs' : Int → Option Nat) (f2' f4' f5' : Int → Int), 0 ≤ i → i ≤ 12 → 12 - i < j → Kp (fun t => T ≤ t ∧ t ≤ T + 5) h h' →
      h' a = some (ob T 0 [vR nt, vR x1, vR x2, vR x3, vR x4, vR x5, vI vs, vI pg]) → h' x1 = some (ra (T + 1) 0 48 ft') → h' x2 = some (ia (T + 2) 0 12 f2') → h' x3 = some (ra (T + 3) 0 12 fs') → h' x4 = some (ia (T + 4) 0 12 f4') → h' x5 = some (ia (T + 5) 0 12 f5') →
      (∀ t, 0 ≤ t → t < 48 → ft' t = fto t) → (∀ p, 0 ≤ p → p < i → f2' p = f2o p ∧ fs' p = fso p ∧ f4' p = f4o p ∧ f5' p = f5o p) →
      Go X (Qm X (pV (fun h' => BkR h' a T vs2 pg2 mn2 tx2 tl2 du2 ∧ Kp (fun t => T ≤ t ∧ t ≤ T + 5) h h')) 0 0) 0 0 h' 28 [some (vR a), some (vR a2), some (vI i)] [] := by
    intro j
    induction j with
    | zero => intro i h' ft' fs' f2' f4' f5' h3 h4 h5; exact absurd h5 (by omega)
    | succ j ih =>
      intro i h' ft' fs' f2' f4' f5' h3 h4 h5 hk c0 c1 c2 c3 c4 c5 hft hpp
      have hso' := hk _ _ _ hso (by omega)
      have d2' := hk _ _ _ d2 (by omega)
      have d3' := hk _ _ _ d3 (by omega)
      have d4' := hk _ _ _ d4 (by omega)
      have d5' := hk _ _ _ d5 (by omega)
      refine r_iload_n C dX0_become_28 rfl ?_
      refine r_bipush C dX0_become_29 (by decide) ?_
      refine r_icmp_ge (tgt := 88) C dX0_become_31 (by decide) (fun hc31 => ?_) (fun hc31 => ?_)
      · refine r_aload_n C dX0_become_88 rfl ?_
        refine r_aload_n C dX0_become_89 rfl ?_
        refine r_get C dX0_become_90 flX0_34 hso' rfl ?_
        refine r_putA C dX0_become_93 flX0_34 c0 rfl rfl (fs2 := [vR nt, vR x1, vR x2, vR x3, vR x4, vR x5, vI vs2, vI pg]) rfl (fun h1 g0 o0 => ?_)
        have k1 : Kp (fun t => t = T) h' h1 := o0.kp c0 rfl
        refine r_aload_n C dX0_become_96 rfl ?_
        refine r_aload_n C dX0_become_97 rfl ?_
        refine r_get C dX0_become_98 flX0_38 (k1 _ _ _ hso' (by omega)) rfl ?_
        refine r_putA C dX0_become_101 flX0_38 g0 rfl rfl (fs2 := [vR nt, vR x1, vR x2, vR x3, vR x4, vR x5, vI vs2, vI pg2]) rfl (fun h2 g1 o1 => ?_)
        have k2 : Kp (fun t => t = T) h1 h2 := o1.kp g0 rfl
        have k3 := k1.tr k2
        have kk : Kp (fun t => T ≤ t ∧ t ≤ T + 5) h h2 := hk.tr (k3.mono (fun t z => by omega))
        refine r_vret C dX0_become_104 (by decide) (by decide) ⟨rfl, ⟨nt, x1, x2, x3, x4, x5, ft', fs', f2', f4', f5', ⟨g1, k3 _ _ _ c1 (by omega), k3 _ _ _ c2 (by omega), k3 _ _ _ c3 (by omega), k3 _ _ _ c4 (by omega), k3 _ _ _ c5 (by omega)⟩, hn.kp kk (by omega) (by omega), hvo, hpo, fun t q1 q2 => ?_, fun t q1 q2 => ?_, fun t q1 q2 => ?_⟩, kk⟩
        · rw [hft t q1 q2]; exact (ho1 t q1 q2).kp kk (by omega) (by omega)
        · rw [(hpp t q1 (by omega)).2.1]; exact (ho2 t q1 q2).kp kk (by omega) (by omega)
        · obtain ⟨r1, -, r3, r4⟩ := hpp t q1 (by omega)
          rw [r1, r3, r4]; exact ho3 t q1 q2
      obtain ⟨qo, bo, mo, go, hqo, hqo1, -⟩ := (ho2 i h3 (by omega)).kp hk (by omega) (by omega)
      refine r_aload_n C dX0_become_34 rfl ?_
      refine r_get C dX0_become_35 flX0_21 c0 rfl ?_
      refine r_iload_n C dX0_become_38 rfl ?_
      refine r_aload_n C dX0_become_39 rfl ?_
      refine r_get C dX0_become_40 flX0_21 hso' rfl ?_
      refine r_iload_n C dX0_become_43 rfl ?_
      refine r_iald C dX0_become_44 d2' (by omega) (by omega) ?_
      refine r_iastA C dX0_become_45 c2 (by omega) (by omega) (fun h1 g2 o2 => ?_)
      have k1 : Kp (fun t => t = T + 2) h' h1 := o2.kp c2 rfl
      refine r_aload_n C dX0_become_46 rfl ?_
      refine r_get C dX0_become_47 flX0_25 (k1 _ _ _ c0 (by omega)) rfl ?_
      refine r_iload_n C dX0_become_50 rfl ?_
      refine r_aload_n C dX0_become_51 rfl ?_
      refine r_get C dX0_become_52 flX0_25 (k1 _ _ _ hso' (by omega)) rfl ?_
      refine r_iload_n C dX0_become_55 rfl ?_
      refine r_aald C dX0_become_56 (k1 _ _ _ d3' (by omega)) (by omega) (by omega) hqo ?_
      refine r_aastA C dX0_become_57 (k1 _ _ _ c3 (by omega)) (k1 _ _ _ hqo1 (by omega)) (by omega) (by omega) (fun h2 g3 o3 => ?_)
      have k2 : Kp (fun t => t = T + 3) h1 h2 := o3.kp (k1 _ _ _ c3 (by omega)) rfl
      have k12 : Kp (fun t => t = T + 2 ∨ t = T + 3) h' h2 := (k1.mono (fun t z => Or.inl z)).tr (k2.mono (fun t z => Or.inr z))
      refine r_aload_n C dX0_become_58 rfl ?_
      refine r_get C dX0_become_59 flX0_28 (k12 _ _ _ c0 (by omega)) rfl ?_
      refine r_iload_n C dX0_become_62 rfl ?_
      refine r_aload_n C dX0_become_63 rfl ?_
      refine r_get C dX0_become_64 flX0_28 (k12 _ _ _ hso' (by omega)) rfl ?_
      refine r_iload_n C dX0_become_67 rfl ?_
      refine r_iald C dX0_become_68 (k12 _ _ _ d4' (by omega)) (by omega) (by omega) ?_
      refine r_iastA C dX0_become_69 (k12 _ _ _ c4 (by omega)) (by omega) (by omega) (fun h3' g4 o4 => ?_)
      have k3 : Kp (fun t => t = T + 4) h2 h3' := o4.kp (k12 _ _ _ c4 (by omega)) rfl
      have k13 : Kp (fun t => t = T + 2 ∨ t = T + 3 ∨ t = T + 4) h' h3' := (k12.mono (fun t z => by omega)).tr (k3.mono (fun t z => by omega))
      refine r_aload_n C dX0_become_70 rfl ?_
      refine r_get C dX0_become_71 flX0_31 (k13 _ _ _ c0 (by omega)) rfl ?_
      refine r_iload_n C dX0_become_74 rfl ?_
      refine r_aload_n C dX0_become_75 rfl ?_
      refine r_get C dX0_become_76 flX0_31 (k13 _ _ _ hso' (by omega)) rfl ?_
      refine r_iload_n C dX0_become_79 rfl ?_
      refine r_iald C dX0_become_80 (k13 _ _ _ d5' (by omega)) (by omega) (by omega) ?_
      refine r_iastA C dX0_become_81 (k13 _ _ _ c5 (by omega)) (by omega) (by omega) (fun h4' g5 o5 => ?_)
      have k4 : Kp (fun t => t = T + 5) h3' h4' := o5.kp (k13 _ _ _ c5 (by omega)) rfl
      have k14 : Kp (fun t => t = T + 2 ∨ t = T + 3 ∨ t = T + 4 ∨ t = T + 5) h' h4' := (k13.mono (fun t z => by omega)).tr (k4.mono (fun t z => by omega))
      refine r_iinc C dX0_become_82 rfl (by decide) (by omega) ?_
      refine r_goto (tgt := 28) C dX0_become_85 (by decide) ?_
      refine ih (i + 1) h4' ft' (fu fs' i (some qo)) (fu f2' i (f2o i)) (fu f4' i (f4o i)) (fu f5' i (f5o i)) (by omega) (by omega) (by omega) (hk.tr (k14.mono (fun t z => by omega))) (k14 _ _ _ c0 (by omega)) (k14 _ _ _ c1 (by omega)) (k4 _ _ _ (k3 _ _ _ (k2 _ _ _ g2 (by omega)) (by omega)) (by omega)) (k4 _ _ _ (k3 _ _ _ g3 (by omega)) (by omega)) (k4 _ _ _ g4 (by omega)) g5 hft (fun p q1 q2 => ?_)
      by_cases hpi : p = i
      · rw [hpi, fu_s, fu_s, fu_s, fu_s, hqo]
        exact ⟨rfl, rfl, rfl, rfl⟩
      · rw [fu_n hpi, fu_n hpi, fu_n hpi, fu_n hpi]
        exact hpp p q1 (by omega)
  have loop1 : ∀ (j : Nat) (i : Int) (h' : Pic) (ft' : Int → Option Nat), 0 ≤ i → i ≤ 48 → 48 - i < j → Kp (fun t => t = T + 1) h h' → h' x1 = some (ra (T + 1) 0 48 ft') → (∀ t, 0 ≤ t → t < i → ft' t = fto t) →
      Go X (Qm X (pV (fun h' => BkR h' a T vs2 pg2 mn2 tx2 tl2 du2 ∧ Kp (fun t => T ≤ t ∧ t ≤ T + 5) h h')) 0 0) 0 0 h' 2 [some (vR a), some (vR a2), some (vI i)] [] := by
    intro j
    induction j with
    | zero => intro i h' ft' h3 h4 h5; exact absurd h5 (by omega)
    | succ j ih =>
      intro i h' ft' h3 h4 h5 hk c1 hft
      refine r_iload_n C dX0_become_2 rfl ?_
      refine r_bipush C dX0_become_3 (by decide) ?_
      refine r_icmp_ge (tgt := 26) C dX0_become_5 (by decide) (fun hc5 => ?_) (fun hc5 => ?_)
      · refine r_iconst C dX0_become_26 (by decide) ?_
        refine r_istore_n C dX0_become_27 (by decide) ?_
        exact loop2 13 0 h' ft' fs f2 f4 f5 (by omega) (by omega) (by omega) (hk.mono (fun t z => by omega)) (hk _ _ _ hs (by omega)) c1 (hk _ _ _ e2 (by omega)) (hk _ _ _ e3 (by omega)) (hk _ _ _ e4 (by omega)) (hk _ _ _ e5 (by omega)) (fun t q1 q2 => hft t q1 (by omega)) (fun p q1 q2 => by omega)
      obtain ⟨qo, bo, mo, go, hqo, hqo1, -⟩ := (ho1 i h3 (by omega)).kp hk (by omega) (by omega)
      refine r_aload_n C dX0_become_8 rfl ?_
      refine r_get C dX0_become_9 flX0_17 (hk _ _ _ hs (by omega)) rfl ?_
      refine r_iload_n C dX0_become_12 rfl ?_
      refine r_aload_n C dX0_become_13 rfl ?_
      refine r_get C dX0_become_14 flX0_17 (hk _ _ _ hso (by omega)) rfl ?_
      refine r_iload_n C dX0_become_17 rfl ?_
      refine r_aald C dX0_become_18 (hk _ _ _ d1 (by omega)) (by omega) (by omega) hqo ?_
      refine r_aastA C dX0_become_19 c1 hqo1 (by omega) (by omega) (fun h1 g1 o1 => ?_)
      have k1 : Kp (fun t => t = T + 1) h' h1 := o1.kp c1 rfl
      refine r_iinc C dX0_become_20 rfl (by decide) (by omega) ?_
      refine r_goto (tgt := 2) C dX0_become_23 (by decide) ?_
      refine ih (i + 1) h1 (fu ft' i (some qo)) (by omega) (by omega) (by omega) (hk.tr k1) g1 (fun t q1 q2 => ?_)
      by_cases hti : t = i
      · rw [hti, fu_s, hqo]
      · rw [fu_n hti]; exact hft t q1 (by omega)
  refine r_iconst C dX0_become_0 (by decide) ?_
  refine r_istore_n C dX0_become_1 (by decide) ?_
  exact loop1 49 0 h ft (by omega) (by omega) (by omega) Kp.rf e1 (fun t q1 q2 => by omega)
end
/-- the words of a version -/
theorem m_take {h : Pic} {a a2 xw T : Nat} {fw : Int → Option Nat} {pl gv op us vs pg v : Int} {mn : Int → Int} {tx : Int → Int → Int} {tl du : Int → Int} (hr : RkR h a xw fw pl gv op us) (hb : BkR h a2 T vs pg mn tx tl du) (hT : T + 5 < 42) (hT6 : 6 < T) (h0 : 0 ≤ v) (h9 : v < vs) :
    Meets yX3_take cX3_take 4 none 2 0 0 [vR a, vR a2, vI v] h (pV (fun h' => ∃ fw', RkR h' a xw fw' pl gv op us ∧ Kp (fun t => t = 43) h h' ∧ ∀ w, 0 ≤ w → w < 8 → TxP h' (fw' w) (mn (8 * v + w)) (tx (8 * v + w)))) := by
  refine Meets.of (plainFor_of_name (by decide)) (Nat.le_of_ble_eq_true rfl) (fun X C hX hN hA => ?_)
  have loop : ∀ (j : Nat) (i : Int) (h' : Pic) (fw' : Int → Option Nat), 0 ≤ i → i ≤ 8 → 8 - i < j → RkR h' a xw fw' pl gv op us → Kp (fun t => t = 43) h h' → (∀ w, 0 ≤ w → w < i → TxP h' (fw' w) (mn (8 * v + w)) (tx (8 * v + w))) →
      Go X (Qm X (pV (fun h' => ∃ fw', RkR h' a xw fw' pl gv op us ∧ Kp (fun t => t = 43) h h' ∧ ∀ w, 0 ≤ w → w < 8 → TxP h' (fw' w) (mn (8 * v + w)) (tx (8 * v + w)))) 0 0) 0 0 h' 2 [some (vR a), some (vR a2), some (vI v), some (vI i)] [] := by
    intro j
    induction j with
    | zero => intro i h' fw' h3 h4 h5; exact absurd h5 (by omega)
    | succ j ih =>
      intro i h' fw' h3 h4 h5 hr' hk hww
      have hb' : BkR h' a2 T vs pg mn tx tl du := hb.kp hk (by omega) (by omega) (fun t q1 q2 => by omega)
      obtain ⟨nt, x1, x2, x3, x4, x5, ft, fs, f2, f4, f5, ⟨hs, -⟩, -⟩ := id hb'
      refine r_iload_n C dX3_take_2 rfl ?_
      refine r_bipush C dX3_take_3 (by decide) ?_
      refine r_icmp_ge (tgt := 26) C dX3_take_5 (by decide) (fun hc5 => ?_) (fun hc5 => ?_)
      · exact r_vret C dX3_take_26 (by decide) (by decide) ⟨rfl, fw', hr', hk, fun w q1 q2 => hww w q1 (by omega)⟩
      refine r_aload_n C dX3_take_8 rfl ?_
      refine r_get C dX3_take_9 flX3_11 hr'.1 rfl ?_
      refine r_iload_n C dX3_take_12 rfl ?_
      refine r_aload_n C dX3_take_13 rfl ?_
      refine r_iload_n C dX3_take_14 rfl ?_
      refine r_iload_n C dX3_take_15 rfl ?_
      refine r_cVy C dX3_take_16 mlX3_17 kX0_text (m_text (v := v) (w := i) hb' (by omega) (by omega) (by omega) (by omega)) hs rfl rfl rfl (Nat.le_of_ble_eq_true rfl) (fit hX (by decide)) ?_
      rintro q h'' ⟨rfl, htq⟩
      obtain ⟨q', b', m', g', hqq, hq1, hq2, hq3⟩ := id htq
      cases hqq
      refine r_aastA C dX3_take_19 hr'.2 hq1 (by omega) (by omega) (fun h1 g1 o1 => ?_)
      have k1 : Kp (fun t => t = 43) h'' h1 := o1.kp hr'.2 rfl
      refine r_iinc C dX3_take_20 rfl (by decide) (by omega) ?_
      refine r_goto (tgt := 2) C dX3_take_23 (by decide) ?_
      refine ih (i + 1) h1 (fu fw' i (some q)) (by omega) (by omega) (by omega) ⟨k1 _ _ _ hr'.1 (by omega), g1⟩ (hk.tr k1) (fun w q1 q2 => ?_)
      by_cases hwi : w = i
      · rw [hwi, fu_s]; exact htq.kp k1 (by omega) (by omega)
      · rw [fu_n hwi]; exact (hww w q1 (by omega)).kp k1 (by omega) (by omega)
  refine r_iconst C dX3_take_0 (by decide) ?_
  refine r_istore_n C dX3_take_1 (by decide) ?_
  exact loop 9 0 h fw (by omega) (by omega) (by omega) hr Kp.rf (fun w q1 q2 => by omega)
theorem m_replace {h : Pic} {a xw q t b : Nat} {fw : Int → Option Nat} {pl gv op us w n : Int} (hr : RkR h a xw fw pl gv op us) (hq : h q = some (ob t 6 [vR b, vI n])) (h0 : 0 ≤ w) (h9 : w < 8) :
    Meets yX3_replace cX3_replace 3 none 1 0 0 [vR a, vI w, vR q] h (pV (fun h' => RkR h' a xw (fu fw w (some q)) pl gv op us ∧ Kp (fun t => t = 43) h h')) := by
  refine Meets.of (plainFor_of_name (by decide)) (Nat.le_of_ble_eq_true rfl) (fun X C hX hN hA => ?_)
  refine r_iload_n C dX3_replace_0 rfl ?_
  refine r_cNi C dX3_replace_1 C.K.2.2.2.2 kX7_isWord (m_isWord (c := w)) rfl rfl (Nat.le_of_ble_eq_true rfl) (fit hX (by decide)) ?_
  rw [zb_t ⟨h0, h9⟩]
  refine r_if_eq (tgt := 14) C dX3_replace_4 (by decide) (fun q => absurd q (by decide)) (fun _ => ?_)
  refine r_aload_n C dX3_replace_7 rfl ?_
  refine r_get C dX3_replace_8 flX3_11 hr.1 rfl ?_
  refine r_iload_n C dX3_replace_11 rfl ?_
  refine r_aload_n C dX3_replace_12 rfl ?_
  refine r_aastA C dX3_replace_13 hr.2 hq (by omega) (by omega) (fun h1 g1 o1 => ?_)
  have k1 : Kp (fun t => t = 43) h h1 := o1.kp hr.2 rfl
  exact r_vret C dX3_replace_14 (by decide) (by decide) ⟨rfl, ⟨k1 _ _ _ hr.1 (by omega), g1⟩, k1⟩
theorem m_Rused {h : Pic} {a xw : Nat} {fw : Int → Option Nat} {pl gv op us : Int} (hr : RkR h a xw fw pl gv op us) : Meets yX3_used cX3_used 1 (some .int) 0 0 0 [vR a] h (pI us h) := by
  refine Meets.of (plainFor_of_name (by decide)) (Nat.le_of_ble_eq_true rfl) (fun X C hX hN hA => ?_)
  refine r_aload_n C dX3_used_0 rfl ?_
  refine r_get C dX3_used_1 flX3_37 hr.1 rfl ?_
  exact r_iret C dX3_used_4 (by decide) (by decide) ⟨rfl, rfl⟩
