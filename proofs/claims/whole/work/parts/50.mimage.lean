/-! the model: images -/
section
variable {h : Pic} {m : Nat} {pn : Int} {pf : Int → Int} {vs pg : Int} {mn : Int → Int} {tx : Int → Int → Int} {tl du kp : Int → Int} {im : Int → Bs}
theorem N_image {n : Int} (hm : RM h m pn pf vs pg mn tx tl du kp im) : Meets yX8_image cX8_image 4 (some .int) 10 0 0 [vR m, vI n] h (pX (fun z h' => z = (aImage kp im (theB vs pg mn tx tl du) n).1 ∧ RM h' m pn pf vs pg mn tx tl du (aImage kp im (theB vs pg mn tx tl du) n).2.1 (aImage kp im (theB vs pg mn tx tl du) n).2.2 ∧ Kp SM h h')) := by
  obtain ⟨A, pd, us, gi, op, th, la, lv, sl, T, S, M, tL, dU, rs, pA, pS, pH, bV, be, dO, hB, sA, nO, mI, mK, hp, hpt, hba, hsz, hld, him⟩ := id hm
  refine Meets.of (plainFor_of_name (by decide)) (Nat.le_of_ble_eq_true rfl) (fun X C hX hN hA => ?_)
  refine r_iload_n C dX8_image_0 rfl ?_
  refine r_iconst C dX8_image_1 (by decide) ?_
  refine r_iconst C dX8_image_2 (by decide) ?_
  refine r_cSi C dX8_image_3 mlX8_66 kX8_in (n_in (v := n) (lo := 0) (hi := 1)) rfl rfl (Nat.le_of_ble_eq_true rfl) (fit hX (by decide)) ?_
  refine r_if_ne (tgt := 12) C dX8_image_6 (by decide) (fun hc6 => ?_) (fun hc6 => ?_)
  rotate_left
  · have hno := zb_0.mp hc6
    have hv : aImage kp im (theB vs pg mn tx tl du) n = (-2, kp, im) := if_pos (by omega)
    rw [hv]
    refine r_bipush C dX8_image_9 (by decide) ?_
    exact r_iret C dX8_image_11 (by decide) (by decide) ⟨_, rfl, rfl, hm, Kp.rf⟩
  have hnn := zb_n0.mp hc6
  have hv : aImage kp im (theB vs pg mn tx tl du) n = (1, fu kp n 1, fu im n (theB vs pg mn tx tl du)) := if_neg (by omega)
  rw [hv]
  obtain ⟨PQ, hPQ⟩ : ∃ PQ : State → Prop, PQ = Qm X (pX (fun z h' => z = 1 ∧ RM h' m pn pf vs pg mn tx tl du (fu kp n 1) (fu im n (theB vs pg mn tx tl du)) ∧ Kp SM h h')) 0 0 := ⟨_, rfl⟩
  have hPQ' : Qm X (pX (fun z h' => z = ((1 : Int), fu kp n 1, fu im n (theB vs pg mn tx tl du)).1 ∧ RM h' m pn pf vs pg mn tx tl du ((1 : Int), fu kp n 1, fu im n (theB vs pg mn tx tl du)).2.1 ((1 : Int), fu kp n 1, fu im n (theB vs pg mn tx tl du)).2.2 ∧ Kp SM h h')) 0 0 = PQ := hPQ.symm
  rw [hPQ']
  have texts : ∀ (j : Nat) (k : Int) (h' : Pic) (g : Int → Int), 0 ≤ k → k ≤ 2400 → 2400 - k < j → MP h' m A vs pg pd us gi op th la lv sl T S M tL dU rs pA pS pH bV be dO hB sA nO g mK → Kp SM h h' → (∀ i, (i < 2500 * n ∨ 2500 * n + 2500 ≤ i) → g i = mI i) → (g (2500 * n) = vs ∧ g (2500 * n + 1) = pg) → (∀ t, 0 ≤ t → t < 60 → g (2500 * n + 2 + t) = M t) → (∀ p, 0 ≤ p → p < 12 → g (2500 * n + 62 + p) = tL p ∧ g (2500 * n + 74 + p) = dU p) → (∀ i, 0 ≤ i → i < k → g (2500 * n + 86 + i) = T i) → Go X PQ 0 0 h' 120 [some (vR m), some (vI n), some (vI (2500 * n)), some (vI k)] [] := by
    intro j
    induction j with
    | zero => intro k h' g g1 g2 g3; exact absurd g3 (by omega)
    | succ j ih =>
      intro k h' g g1 g2 g3 hp' k' ho f0 f1 f2 f3
      refine r_iload_n C dX8_image_120 rfl ?_
      refine r_sipush C dX8_image_121 (by decide) ?_
      refine r_icmp_ge (tgt := 150) C dX8_image_124 (by decide) (fun hc124 => ?_) (fun hc124 => ?_)
      · have hk : k = 2400 := by omega
        rw [hk] at f3
        refine r_aload_n C dX8_image_150 rfl ?_
        refine r_get C dX8_image_151 flX8_58 hp'.o rfl ?_
        refine r_iload_n C dX8_image_154 rfl ?_
        refine r_iconst C dX8_image_155 (by decide) ?_
        refine w_mK C dX8_image_156 hp' (by omega) (by omega) (by omega) (fun h2 hp2 k2 => ?_)
        refine r_iconst C dX8_image_157 (by decide) ?_
        rw [hPQ]
        refine r_iret C dX8_image_158 (by decide) (by decide) ⟨_, rfl, rfl, ⟨A, pd, us, gi, op, th, la, lv, sl, T, S, M, tL, dU, rs, pA, pS, pH, bV, be, dO, hB, sA, nO, g, fu mK n 1, hp2, hpt, hba, hsz, hld, fun q q0 q1 => ?_⟩, k'.tr (k2.mono (fun t q => by omega))⟩
        by_cases e : q = n
        · rw [e, fu_s, fu_s, fu_s]
          refine ⟨rfl, Or.inr ⟨f0.1, f0.2, ?_⟩⟩
          exact hba.same (fun t t0 t1 => f1 t t0 t1) (fun i i0 i1 => f3 i i0 i1) (fun p p0 p1 => (f2 p p0 p1).1) (fun p p0 p1 => (f2 p p0 p1).2)
        · rw [fu_n e, fu_n e, fu_n e]
          obtain ⟨i1, i2⟩ := him q q0 q1
          refine ⟨i1, i2.imp id (fun ⟨z1, z2, z3⟩ => ⟨?_, ?_, ?_⟩)⟩
          · rw [ho _ (by omega)]; exact z1
          · rw [ho _ (by omega)]; exact z2
          · exact z3.same (fun t t0 t1 => ho _ (by omega)) (fun i i0 i1 => ho _ (by omega)) (fun p p0 p1 => ho _ (by omega)) (fun p p0 p1 => ho _ (by omega))
      refine r_aload_n C dX8_image_127 rfl ?_
      refine r_get C dX8_image_128 flX8_55 hp'.o rfl ?_
      refine r_iload_n C dX8_image_131 rfl ?_
      refine r_bipush C dX8_image_132 (by decide) ?_
      refine r_iadd C dX8_image_134 (by omega) ?_
      refine r_iload_n C dX8_image_135 rfl ?_
      refine r_iadd C dX8_image_136 (by omega) ?_
      refine r_aload_n C dX8_image_137 rfl ?_
      refine r_get C dX8_image_138 flX8_7 hp'.o rfl ?_
      refine r_iload_n C dX8_image_141 rfl ?_
      refine r_iald C dX8_image_142 hp'.aT (by omega) (by omega) ?_
      refine w_mI C dX8_image_143 hp' (by omega) (by omega) (fun h2 hp2 k2 => ?_)
      refine r_iinc C dX8_image_144 rfl (by decide) (by omega) ?_
      refine r_goto (tgt := 120) C dX8_image_147 (by decide) ?_
      refine ih (k + 1) h2 _ (by omega) (by omega) (by omega) hp2 (k'.tr (k2.mono (fun t q => by omega))) (fun i hi => by rw [fu_n (by omega)]; exact ho i hi) ⟨by rw [fu_n (by omega)]; exact f0.1, by rw [fu_n (by omega)]; exact f0.2⟩ (fun t t0 t1 => by rw [fu_n (by omega)]; exact f1 t t0 t1) (fun p p0 p1 => ⟨by rw [fu_n (by omega)]; exact (f2 p p0 p1).1, by rw [fu_n (by omega)]; exact (f2 p p0 p1).2⟩) (fun i i0 i1 => ?_)
      by_cases e : i = k
      · rw [e, fu_s]
      · rw [fu_n (by omega)]; exact f3 i i0 (by omega)
  have pages : ∀ (j : Nat) (k : Int) (h' : Pic) (g : Int → Int), 0 ≤ k → k ≤ 12 → 12 - k < j → MP h' m A vs pg pd us gi op th la lv sl T S M tL dU rs pA pS pH bV be dO hB sA nO g mK → Kp SM h h' → (∀ i, (i < 2500 * n ∨ 2500 * n + 2500 ≤ i) → g i = mI i) → (g (2500 * n) = vs ∧ g (2500 * n + 1) = pg) → (∀ t, 0 ≤ t → t < 60 → g (2500 * n + 2 + t) = M t) → (∀ p, 0 ≤ p → p < k → g (2500 * n + 62 + p) = tL p ∧ g (2500 * n + 74 + p) = dU p) → Go X PQ 0 0 h' 72 [some (vR m), some (vI n), some (vI (2500 * n)), some (vI k)] [] := by
    intro j
    induction j with
    | zero => intro k h' g g1 g2 g3; exact absurd g3 (by omega)
    | succ j ih =>
      intro k h' g g1 g2 g3 hp' k' ho f0 f1 f2
      refine r_iload_n C dX8_image_72 rfl ?_
      refine r_bipush C dX8_image_73 (by decide) ?_
      refine r_icmp_ge (tgt := 118) C dX8_image_75 (by decide) (fun hc75 => ?_) (fun hc75 => ?_)
      · have hk : k = 12 := by omega
        rw [hk] at f2
        refine r_iconst C dX8_image_118 (by decide) ?_
        refine r_istore_n C dX8_image_119 (by decide) ?_
        exact texts 2401 0 h' g (by omega) (by omega) (by omega) hp' k' ho f0 f1 f2 (fun i i0 i1 => by omega)
      refine r_aload_n C dX8_image_78 rfl ?_
      refine r_get C dX8_image_79 flX8_55 hp'.o rfl ?_
      refine r_iload_n C dX8_image_82 rfl ?_
      refine r_bipush C dX8_image_83 (by decide) ?_
      refine r_iadd C dX8_image_85 (by omega) ?_
      refine r_iload_n C dX8_image_86 rfl ?_
      refine r_iadd C dX8_image_87 (by omega) ?_
      refine r_aload_n C dX8_image_88 rfl ?_
      refine r_get C dX8_image_89 flX8_19 hp'.o rfl ?_
      refine r_iload_n C dX8_image_92 rfl ?_
      refine r_iald C dX8_image_93 hp'.atL (by omega) (by omega) ?_
      refine w_mI C dX8_image_94 hp' (by omega) (by omega) (fun h2 hp2 k2 => ?_)
      refine r_aload_n C dX8_image_95 rfl ?_
      refine r_get C dX8_image_96 flX8_55 hp2.o rfl ?_
      refine r_iload_n C dX8_image_99 rfl ?_
      refine r_bipush C dX8_image_100 (by decide) ?_
      refine r_iadd C dX8_image_102 (by omega) ?_
      refine r_iload_n C dX8_image_103 rfl ?_
      refine r_iadd C dX8_image_104 (by omega) ?_
      refine r_aload_n C dX8_image_105 rfl ?_
      refine r_get C dX8_image_106 flX8_22 hp2.o rfl ?_
      refine r_iload_n C dX8_image_109 rfl ?_
      refine r_iald C dX8_image_110 hp2.adU (by omega) (by omega) ?_
      refine w_mI C dX8_image_111 hp2 (by omega) (by omega) (fun h3 hp3 k3 => ?_)
      refine r_iinc C dX8_image_112 rfl (by decide) (by omega) ?_
      refine r_goto (tgt := 72) C dX8_image_115 (by decide) ?_
      refine ih (k + 1) h3 _ (by omega) (by omega) (by omega) hp3 (k'.tr ((k2.mono (fun t q => by omega)).tr (k3.mono (fun t q => by omega)))) (fun i hi => by rw [fu_n (by omega), fu_n (by omega)]; exact ho i hi) ⟨by rw [fu_n (by omega), fu_n (by omega)]; exact f0.1, by rw [fu_n (by omega), fu_n (by omega)]; exact f0.2⟩ (fun t t0 t1 => by rw [fu_n (by omega), fu_n (by omega)]; exact f1 t t0 t1) (fun p p0 p1 => ?_)
      by_cases e : p = k
      · rw [e]
        exact ⟨by rw [fu_n (by omega), fu_s], by rw [fu_s]⟩
      · exact ⟨by rw [fu_n (by omega), fu_n (by omega)]; exact (f2 p p0 (by omega)).1, by rw [fu_n (by omega), fu_n (by omega)]; exact (f2 p p0 (by omega)).2⟩
  have counts : ∀ (j : Nat) (k : Int) (h' : Pic) (g : Int → Int), 0 ≤ k → k ≤ 60 → 60 - k < j → MP h' m A vs pg pd us gi op th la lv sl T S M tL dU rs pA pS pH bV be dO hB sA nO g mK → Kp SM h h' → (∀ i, (i < 2500 * n ∨ 2500 * n + 2500 ≤ i) → g i = mI i) → (g (2500 * n) = vs ∧ g (2500 * n + 1) = pg) → (∀ t, 0 ≤ t → t < k → g (2500 * n + 2 + t) = M t) → Go X PQ 0 0 h' 42 [some (vR m), some (vI n), some (vI (2500 * n)), some (vI k)] [] := by
    intro j
    induction j with
    | zero => intro k h' g g1 g2 g3; exact absurd g3 (by omega)
    | succ j ih =>
      intro k h' g g1 g2 g3 hp' k' ho f0 f1
      refine r_iload_n C dX8_image_42 rfl ?_
      refine r_bipush C dX8_image_43 (by decide) ?_
      refine r_icmp_ge (tgt := 70) C dX8_image_45 (by decide) (fun hc45 => ?_) (fun hc45 => ?_)
      · have hk : k = 60 := by omega
        rw [hk] at f1
        refine r_iconst C dX8_image_70 (by decide) ?_
        refine r_istore_n C dX8_image_71 (by decide) ?_
        exact pages 13 0 h' g (by omega) (by omega) (by omega) hp' k' ho f0 f1 (fun p p0 p1 => by omega)
      refine r_aload_n C dX8_image_48 rfl ?_
      refine r_get C dX8_image_49 flX8_55 hp'.o rfl ?_
      refine r_iload_n C dX8_image_52 rfl ?_
      refine r_iconst C dX8_image_53 (by decide) ?_
      refine r_iadd C dX8_image_54 (by omega) ?_
      refine r_iload_n C dX8_image_55 rfl ?_
      refine r_iadd C dX8_image_56 (by omega) ?_
      refine r_aload_n C dX8_image_57 rfl ?_
      refine r_get C dX8_image_58 flX8_16 hp'.o rfl ?_
      refine r_iload_n C dX8_image_61 rfl ?_
      refine r_iald C dX8_image_62 hp'.aM (by omega) (by omega) ?_
      refine w_mI C dX8_image_63 hp' (by omega) (by omega) (fun h2 hp2 k2 => ?_)
      refine r_iinc C dX8_image_64 rfl (by decide) (by omega) ?_
      refine r_goto (tgt := 42) C dX8_image_67 (by decide) ?_
      refine ih (k + 1) h2 _ (by omega) (by omega) (by omega) hp2 (k'.tr (k2.mono (fun t q => by omega))) (fun i hi => by rw [fu_n (by omega)]; exact ho i hi) ⟨by rw [fu_n (by omega)]; exact f0.1, by rw [fu_n (by omega)]; exact f0.2⟩ (fun t t0 t1 => ?_)
      by_cases e : t = k
      · rw [e, fu_s]
      · rw [fu_n (by omega)]; exact f1 t t0 (by omega)
  refine r_sipush C dX8_image_12 (by decide) ?_
  refine r_iload_n C dX8_image_15 rfl ?_
  refine r_imul C dX8_image_16 (by omega) ?_
  refine r_istore_n C dX8_image_17 (by decide) ?_
  refine r_aload_n C dX8_image_18 rfl ?_
  refine r_get C dX8_image_19 flX8_55 hp.o rfl ?_
  refine r_iload_n C dX8_image_22 rfl ?_
  refine r_aload_n C dX8_image_23 rfl ?_
  refine r_get C dX8_image_24 flX8_62 hp.o rfl ?_
  refine w_mI C dX8_image_27 hp (by omega) (by omega) (fun h1 hp1 k1 => ?_)
  refine r_aload_n C dX8_image_28 rfl ?_
  refine r_get C dX8_image_29 flX8_55 hp1.o rfl ?_
  refine r_iload_n C dX8_image_32 rfl ?_
  refine r_iconst C dX8_image_33 (by decide) ?_
  refine r_iadd C dX8_image_34 (by omega) ?_
  refine r_aload_n C dX8_image_35 rfl ?_
  refine r_get C dX8_image_36 flX8_70 hp1.o rfl ?_
  refine w_mI C dX8_image_39 hp1 (by omega) (by omega) (fun h2 hp2 k2 => ?_)
  refine r_iconst C dX8_image_40 (by decide) ?_
  refine r_istore_n C dX8_image_41 (by decide) ?_
  exact counts 61 0 h2 _ (by omega) (by omega) (by omega) hp2 ((k1.mono (fun t q => by omega)).tr (k2.mono (fun t q => by omega))) (fun i hi => by rw [fu_n (by omega), fu_n (by omega)]) ⟨by rw [fu_n (by omega), fu_s], fu_s⟩ (fun t t0 t1 => by omega)
theorem N_restore {n : Int} (hm : RM h m pn pf vs pg mn tx tl du kp im) : Meets yX8_restore cX8_restore 4 (some .int) 10 0 0 [vR m, vI n] h (pX (fun z h' => z = (aRestore kp im (theB vs pg mn tx tl du) n).1 ∧ RM h' m pn pf (aRestore kp im (theB vs pg mn tx tl du) n).2.1.1 (aRestore kp im (theB vs pg mn tx tl du) n).2.1.2 (aRestore kp im (theB vs pg mn tx tl du) n).2.2.1 (aRestore kp im (theB vs pg mn tx tl du) n).2.2.2.1 (aRestore kp im (theB vs pg mn tx tl du) n).2.2.2.2.1 (aRestore kp im (theB vs pg mn tx tl du) n).2.2.2.2.2 kp im ∧ Kp SM h h')) := by
  obtain ⟨A, pd, us, gi, op, th, la, lv, sl, T, S, M, tL, dU, rs, pA, pS, pH, bV, be, dO, hB, sA, nO, mI, mK, hp, hpt, hba, hsz, hld, him⟩ := id hm
  refine Meets.of (plainFor_of_name (by decide)) (Nat.le_of_ble_eq_true rfl) (fun X C hX hN hA => ?_)
  refine r_iload_n C dX8_restore_0 rfl ?_
  refine r_iconst C dX8_restore_1 (by decide) ?_
  refine r_iconst C dX8_restore_2 (by decide) ?_
  refine r_cSi C dX8_restore_3 mlX8_66 kX8_in (n_in (v := n) (lo := 0) (hi := 1)) rfl rfl (Nat.le_of_ble_eq_true rfl) (fit hX (by decide)) ?_
  refine r_if_ne (tgt := 12) C dX8_restore_6 (by decide) (fun hc6 => ?_) (fun hc6 => ?_)
  rotate_left
  · have hno := zb_0.mp hc6
    have hv : aRestore kp im (theB vs pg mn tx tl du) n = (-2, theB vs pg mn tx tl du) := if_pos (by omega)
    rw [hv]
    refine r_bipush C dX8_restore_9 (by decide) ?_
    exact r_iret C dX8_restore_11 (by decide) (by decide) ⟨_, rfl, rfl, hm, Kp.rf⟩
  have hnn := zb_n0.mp hc6
  obtain ⟨i1, i2⟩ := him n hnn.1 (by omega)
  refine r_aload_n C dX8_restore_12 rfl ?_
  refine r_get C dX8_restore_13 flX8_58 hp.o rfl ?_
  refine r_iload_n C dX8_restore_16 rfl ?_
  refine r_zald C dX8_restore_17 hp.amK (by omega) (by omega) ?_
  rw [i1]
  refine r_if_ne (tgt := 24) C dX8_restore_18 (by decide) (fun hc18 => ?_) (fun hc18 => ?_)
  rotate_left
  · have hv : aRestore kp im (theB vs pg mn tx tl du) n = (-3, theB vs pg mn tx tl du) := (if_neg (by omega)).trans (if_pos hc18)
    rw [hv]
    refine r_bipush C dX8_restore_21 (by decide) ?_
    exact r_iret C dX8_restore_23 (by decide) (by decide) ⟨_, rfl, rfl, hm, Kp.rf⟩
  have hv : aRestore kp im (theB vs pg mn tx tl du) n = (1, im n) := (if_neg (by omega)).trans (if_neg hc18)
  rw [hv]
  obtain ⟨z1, z2, hbi⟩ := i2.resolve_left hc18
  obtain ⟨PQ, hPQ⟩ : ∃ PQ : State → Prop, PQ = Qm X (pX (fun z h' => z = 1 ∧ RM h' m pn pf (im n).1.1 (im n).1.2 (im n).2.1 (im n).2.2.1 (im n).2.2.2.1 (im n).2.2.2.2 kp im ∧ Kp SM h h')) 0 0 := ⟨_, rfl⟩
  have hPQ' : Qm X (pX (fun z h' => z = ((1 : Int), im n).1 ∧ RM h' m pn pf ((1 : Int), im n).2.1.1 ((1 : Int), im n).2.1.2 ((1 : Int), im n).2.2.1 ((1 : Int), im n).2.2.2.1 ((1 : Int), im n).2.2.2.2.1 ((1 : Int), im n).2.2.2.2.2 kp im ∧ Kp SM h h')) 0 0 = PQ := hPQ.symm
  rw [hPQ']
  have sizes : ∀ (j : Nat) (k : Int) (h' : Pic) (M' tL' dU' T' S' : Int → Int), 0 ≤ k → k ≤ 60 → 60 - k < j → MP h' m A ((im n).1.1) ((im n).1.2) pd us gi op th la lv sl T' S' M' tL' dU' rs pA pS pH bV be dO hB sA nO mI mK → Kp SM h h' → (∀ t, 60 ≤ t → M' t = M t) → (∀ i, 2400 ≤ i → T' i = T i) → BA (im n).1.1 (im n).1.2 (im n).2.1 (im n).2.2.1 (im n).2.2.2.1 (im n).2.2.2.2 M' T' tL' dU' → (∀ t, 0 ≤ t → t < k → SZ (M' t) (sx T' t) (sx S' t)) → Go X PQ 0 0 h' 164 [some (vR m), some (vI n), some (vI (2500 * n)), some (vI k)] [] := by
    intro j
    induction j with
    | zero => intro k h' M' tL' dU' T' S' g1 g2 g3; exact absurd g3 (by omega)
    | succ j ih =>
      intro k h' M' tL' dU' T' S' g1 g2 g3 hp' k' f1 f3 hb' hs'
      refine r_iload_n C dX8_restore_164 rfl ?_
      refine r_bipush C dX8_restore_165 (by decide) ?_
      refine r_icmp_ge (tgt := 181) C dX8_restore_167 (by decide) (fun hc167 => ?_) (fun hc167 => ?_)
      · have hk : k = 60 := by omega
        rw [hk] at hs'
        refine r_aload_n C dX8_restore_181 rfl ?_
        refine r_iconst C dX8_restore_182 (by decide) ?_
        refine w_la C dX8_restore_183 hp' (by omega) (fun h2 hp2 k2 => ?_)
        refine r_iconst C dX8_restore_186 (by decide) ?_
        rw [hPQ]
        exact r_iret C dX8_restore_187 (by decide) (by decide) ⟨_, rfl, rfl, ⟨A, pd, us, gi, op, th, 0, lv, sl, T', S', M', tL', dU', rs, pA, pS, pH, bV, be, dO, hB, sA, nO, mI, mK, hp2, ⟨(f1 60 (by omega)).trans hpt.1, hpt.2.1, hpt.2.2.1, fun i i0 i1 => (f3 _ (by omega)).trans (hpt.2.2.2 i i0 i1)⟩, hb', hs', Or.inl rfl, him⟩, k'.tr (k2.mono (fun t q => by omega))⟩
      obtain ⟨a1, a2, a3, -⟩ := hb'.t (t := k) g1 (by omega)
      refine r_aload_n C dX8_restore_170 rfl ?_
      refine r_iload_n C dX8_restore_171 rfl ?_
      refine r_cVv C dX8_restore_172 mlX8_85 kX8_measure (n_measure (t := k) hp' g1 (by omega) (by omega) (by omega) (hb'.pe g1 (by omega))) hp'.o rfl rfl rfl (Nat.le_of_ble_eq_true rfl) (fit hX (by decide)) ?_
      rintro h2 ⟨S2, hp2, k2, hz2, ho2⟩
      refine r_iinc C dX8_restore_175 rfl (by decide) (by omega) ?_
      refine r_goto (tgt := 164) C dX8_restore_178 (by decide) ?_
      refine ih (k + 1) h2 M' tL' dU' T' S2 (by omega) (by omega) (by omega) hp2 (k'.tr (k2.mono (fun t q => by omega))) f1 f3 hb' (fun t t0 t1 => ?_)
      by_cases e : t = k
      · rw [e]; exact hz2
      · have := hb'.m40 t t0 (by omega)
        exact (hs' t t0 (by omega)).congr (fun _ _ _ => rfl) (fun i i0 i1 => ho2 _ (by omega))
  have texts : ∀ (j : Nat) (k : Int) (h' : Pic) (M' tL' dU' T' : Int → Int), 0 ≤ k → k ≤ 2400 → 2400 - k < j → MP h' m A ((im n).1.1) ((im n).1.2) pd us gi op th la lv sl T' S M' tL' dU' rs pA pS pH bV be dO hB sA nO mI mK → Kp SM h h' → (∀ t, 0 ≤ t → t < 60 → M' t = mI (2500 * n + 2 + t)) → (∀ t, 60 ≤ t → M' t = M t) → (∀ p, 0 ≤ p → p < 12 → tL' p = mI (2500 * n + 62 + p) ∧ dU' p = mI (2500 * n + 74 + p)) → (∀ i, 0 ≤ i → i < k → T' i = mI (2500 * n + 86 + i)) → (∀ i, 2400 ≤ i → T' i = T i) → Go X PQ 0 0 h' 132 [some (vR m), some (vI n), some (vI (2500 * n)), some (vI k)] [] := by
    intro j
    induction j with
    | zero => intro k h' M' tL' dU' T' g1 g2 g3; exact absurd g3 (by omega)
    | succ j ih =>
      intro k h' M' tL' dU' T' g1 g2 g3 hp' k' f1 f1o f2 f3 f3o
      refine r_iload_n C dX8_restore_132 rfl ?_
      refine r_sipush C dX8_restore_133 (by decide) ?_
      refine r_icmp_ge (tgt := 162) C dX8_restore_136 (by decide) (fun hc136 => ?_) (fun hc136 => ?_)
      · have hk : k = 2400 := by omega
        rw [hk] at f3
        refine r_iconst C dX8_restore_162 (by decide) ?_
        refine r_istore_n C dX8_restore_163 (by decide) ?_
        exact sizes 61 0 h' M' tL' dU' T' S (by omega) (by omega) (by omega) hp' k' f1o f3o (hbi.same (fun t t0 t1 => f1 t t0 t1) (fun i i0 i1 => f3 i i0 i1) (fun p p0 p1 => (f2 p p0 p1).1) (fun p p0 p1 => (f2 p p0 p1).2)) (fun t t0 t1 => by omega)
      refine r_aload_n C dX8_restore_139 rfl ?_
      refine r_get C dX8_restore_140 flX8_7 hp'.o rfl ?_
      refine r_iload_n C dX8_restore_143 rfl ?_
      refine r_aload_n C dX8_restore_144 rfl ?_
      refine r_get C dX8_restore_145 flX8_55 hp'.o rfl ?_
      refine r_iload_n C dX8_restore_148 rfl ?_
      refine r_bipush C dX8_restore_149 (by decide) ?_
      refine r_iadd C dX8_restore_151 (by omega) ?_
      refine r_iload_n C dX8_restore_152 rfl ?_
      refine r_iadd C dX8_restore_153 (by omega) ?_
      refine r_iald C dX8_restore_154 hp'.amI (by omega) (by omega) ?_
      refine w_T C dX8_restore_155 hp' (by omega) (by omega) (fun h2 hp2 k2 => ?_)
      refine r_iinc C dX8_restore_156 rfl (by decide) (by omega) ?_
      refine r_goto (tgt := 132) C dX8_restore_159 (by decide) ?_
      refine ih (k + 1) h2 M' tL' dU' _ (by omega) (by omega) (by omega) hp2 (k'.tr (k2.mono (fun t q => by omega))) f1 f1o f2 (fun i i0 i1 => ?_) (fun i i0 => by rw [fu_n (by omega)]; exact f3o i i0)
      by_cases e : i = k
      · rw [e, fu_s]
      · rw [fu_n e]; exact f3 i i0 (by omega)
  have pages : ∀ (j : Nat) (k : Int) (h' : Pic) (M' tL' dU' : Int → Int), 0 ≤ k → k ≤ 12 → 12 - k < j → MP h' m A ((im n).1.1) ((im n).1.2) pd us gi op th la lv sl T S M' tL' dU' rs pA pS pH bV be dO hB sA nO mI mK → Kp SM h h' → (∀ t, 0 ≤ t → t < 60 → M' t = mI (2500 * n + 2 + t)) → (∀ t, 60 ≤ t → M' t = M t) → (∀ p, 0 ≤ p → p < k → tL' p = mI (2500 * n + 62 + p) ∧ dU' p = mI (2500 * n + 74 + p)) → Go X PQ 0 0 h' 84 [some (vR m), some (vI n), some (vI (2500 * n)), some (vI k)] [] := by
    intro j
    induction j with
    | zero => intro k h' M' tL' dU' g1 g2 g3; exact absurd g3 (by omega)
    | succ j ih =>
      intro k h' M' tL' dU' g1 g2 g3 hp' k' f1 f1o f2
      refine r_iload_n C dX8_restore_84 rfl ?_
      refine r_bipush C dX8_restore_85 (by decide) ?_
      refine r_icmp_ge (tgt := 130) C dX8_restore_87 (by decide) (fun hc87 => ?_) (fun hc87 => ?_)
      · have hk : k = 12 := by omega
        rw [hk] at f2
        refine r_iconst C dX8_restore_130 (by decide) ?_
        refine r_istore_n C dX8_restore_131 (by decide) ?_
        exact texts 2401 0 h' M' tL' dU' T (by omega) (by omega) (by omega) hp' k' f1 f1o f2 (fun i i0 i1 => by omega) (fun _ _ => rfl)
      refine r_aload_n C dX8_restore_90 rfl ?_
      refine r_get C dX8_restore_91 flX8_19 hp'.o rfl ?_
      refine r_iload_n C dX8_restore_94 rfl ?_
      refine r_aload_n C dX8_restore_95 rfl ?_
      refine r_get C dX8_restore_96 flX8_55 hp'.o rfl ?_
      refine r_iload_n C dX8_restore_99 rfl ?_
      refine r_bipush C dX8_restore_100 (by decide) ?_
      refine r_iadd C dX8_restore_102 (by omega) ?_
      refine r_iload_n C dX8_restore_103 rfl ?_
      refine r_iadd C dX8_restore_104 (by omega) ?_
      refine r_iald C dX8_restore_105 hp'.amI (by omega) (by omega) ?_
      refine w_tL C dX8_restore_106 hp' (by omega) (by omega) (fun h2 hp2 k2 => ?_)
      refine r_aload_n C dX8_restore_107 rfl ?_
      refine r_get C dX8_restore_108 flX8_22 hp2.o rfl ?_
      refine r_iload_n C dX8_restore_111 rfl ?_
      refine r_aload_n C dX8_restore_112 rfl ?_
      refine r_get C dX8_restore_113 flX8_55 hp2.o rfl ?_
      refine r_iload_n C dX8_restore_116 rfl ?_
      refine r_bipush C dX8_restore_117 (by decide) ?_
      refine r_iadd C dX8_restore_119 (by omega) ?_
      refine r_iload_n C dX8_restore_120 rfl ?_
      refine r_iadd C dX8_restore_121 (by omega) ?_
      refine r_iald C dX8_restore_122 hp2.amI (by omega) (by omega) ?_
      refine w_dU C dX8_restore_123 hp2 (by omega) (by omega) (fun h3 hp3 k3 => ?_)
      refine r_iinc C dX8_restore_124 rfl (by decide) (by omega) ?_
      refine r_goto (tgt := 84) C dX8_restore_127 (by decide) ?_
      refine ih (k + 1) h3 M' _ _ (by omega) (by omega) (by omega) hp3 (k'.tr ((k2.mono (fun t q => by omega)).tr (k3.mono (fun t q => by omega)))) f1 f1o (fun p p0 p1 => ?_)
      by_cases e : p = k
      · rw [e, fu_s, fu_s]; exact ⟨rfl, rfl⟩
      · rw [fu_n e, fu_n e]; exact f2 p p0 (by omega)
  have counts : ∀ (j : Nat) (k : Int) (h' : Pic) (M' : Int → Int), 0 ≤ k → k ≤ 60 → 60 - k < j → MP h' m A ((im n).1.1) ((im n).1.2) pd us gi op th la lv sl T S M' tL dU rs pA pS pH bV be dO hB sA nO mI mK → Kp SM h h' → (∀ t, 0 ≤ t → t < k → M' t = mI (2500 * n + 2 + t)) → (∀ t, 60 ≤ t → M' t = M t) → Go X PQ 0 0 h' 54 [some (vR m), some (vI n), some (vI (2500 * n)), some (vI k)] [] := by
    intro j
    induction j with
    | zero => intro k h' M' g1 g2 g3; exact absurd g3 (by omega)
    | succ j ih =>
      intro k h' M' g1 g2 g3 hp' k' f1 f1o
      refine r_iload_n C dX8_restore_54 rfl ?_
      refine r_bipush C dX8_restore_55 (by decide) ?_
      refine r_icmp_ge (tgt := 82) C dX8_restore_57 (by decide) (fun hc57 => ?_) (fun hc57 => ?_)
      · have hk : k = 60 := by omega
        rw [hk] at f1
        refine r_iconst C dX8_restore_82 (by decide) ?_
        refine r_istore_n C dX8_restore_83 (by decide) ?_
        exact pages 13 0 h' M' tL dU (by omega) (by omega) (by omega) hp' k' f1 f1o (fun p p0 p1 => by omega)
      refine r_aload_n C dX8_restore_60 rfl ?_
      refine r_get C dX8_restore_61 flX8_16 hp'.o rfl ?_
      refine r_iload_n C dX8_restore_64 rfl ?_
      refine r_aload_n C dX8_restore_65 rfl ?_
      refine r_get C dX8_restore_66 flX8_55 hp'.o rfl ?_
      refine r_iload_n C dX8_restore_69 rfl ?_
      refine r_iconst C dX8_restore_70 (by decide) ?_
      refine r_iadd C dX8_restore_71 (by omega) ?_
      refine r_iload_n C dX8_restore_72 rfl ?_
      refine r_iadd C dX8_restore_73 (by omega) ?_
      refine r_iald C dX8_restore_74 hp'.amI (by omega) (by omega) ?_
      refine w_M C dX8_restore_75 hp' (by omega) (by omega) (fun h2 hp2 k2 => ?_)
      refine r_iinc C dX8_restore_76 rfl (by decide) (by omega) ?_
      refine r_goto (tgt := 54) C dX8_restore_79 (by decide) ?_
      refine ih (k + 1) h2 _ (by omega) (by omega) (by omega) hp2 (k'.tr (k2.mono (fun t q => by omega))) (fun t t0 t1 => ?_) (fun t t0 => by rw [fu_n (by omega)]; exact f1o t t0)
      by_cases e : t = k
      · rw [e, fu_s]
      · rw [fu_n e]; exact f1 t t0 (by omega)
  refine r_sipush C dX8_restore_24 (by decide) ?_
  refine r_iload_n C dX8_restore_27 rfl ?_
  refine r_imul C dX8_restore_28 (by omega) ?_
  refine r_istore_n C dX8_restore_29 (by decide) ?_
  refine r_aload_n C dX8_restore_30 rfl ?_
  refine r_aload_n C dX8_restore_31 rfl ?_
  refine r_get C dX8_restore_32 flX8_55 hp.o rfl ?_
  refine r_iload_n C dX8_restore_35 rfl ?_
  refine r_iald C dX8_restore_36 hp.amI (by omega) (by omega) ?_
  rw [z1]
  refine w_vs C dX8_restore_37 hp (fun h1 hp1 k1 => ?_)
  refine r_aload_n C dX8_restore_40 rfl ?_
  refine r_aload_n C dX8_restore_41 rfl ?_
  refine r_get C dX8_restore_42 flX8_55 hp1.o rfl ?_
  refine r_iload_n C dX8_restore_45 rfl ?_
  refine r_iconst C dX8_restore_46 (by decide) ?_
  refine r_iadd C dX8_restore_47 (by omega) ?_
  refine r_iald C dX8_restore_48 hp1.amI (by omega) (by omega) ?_
  rw [z2]
  refine w_pg C dX8_restore_49 hp1 (fun h2 hp2 k2 => ?_)
  refine r_iconst C dX8_restore_52 (by decide) ?_
  refine r_istore_n C dX8_restore_53 (by decide) ?_
  exact counts 61 0 h2 M (by omega) (by omega) (by omega) hp2 ((k1.mono (fun t q => by omega)).tr (k2.mono (fun t q => by omega))) (fun t t0 t1 => by omega) (fun _ _ => rfl)
end
