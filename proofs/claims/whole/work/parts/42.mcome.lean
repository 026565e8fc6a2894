/-! the model: comeTo -/
section
variable {h : Pic} {m : Nat} {A : Nat → Nat} {vs pg pd us gi op th la lv sl : Int} {T S M tL dU rs pA pS pH bV be dO hB sA nO mI mK : Int → Int}
theorem n_byVersion {v : Int} (hp : MP h m A vs pg pd us gi op th la lv sl T S M tL dU rs pA pS pH bV be dO hB sA nO mI mK) : Meets yX8_byVersion cX8_byVersion 3 none 1 0 0 [vR m, vI v] h (pV (fun h' => ∃ bV', MP h' m A vs pg pd us gi op th la lv sl T S M tL dU rs pA pS pH bV' be dO hB sA nO mI mK ∧ Kp (fun t => t = 76) h h' ∧ ∀ w, 0 ≤ w → w < 8 → bV' w = v)) := by
  refine Meets.of (plainFor_of_name (by decide)) (Nat.le_of_ble_eq_true rfl) (fun X C hX hN hA => ?_)
  have loop : ∀ (j : Nat) (i : Int) (h' : Pic) (bV' : Int → Int), 0 ≤ i → i ≤ 8 → 8 - i < j → MP h' m A vs pg pd us gi op th la lv sl T S M tL dU rs pA pS pH bV' be dO hB sA nO mI mK → Kp (fun t => t = 76) h h' → (∀ w, 0 ≤ w → w < i → bV' w = v) → Go X (Qm X (pV (fun h' => ∃ bV', MP h' m A vs pg pd us gi op th la lv sl T S M tL dU rs pA pS pH bV' be dO hB sA nO mI mK ∧ Kp (fun t => t = 76) h h' ∧ ∀ w, 0 ≤ w → w < 8 → bV' w = v)) 0 0) 0 0 h' 2 [some (vR m), some (vI v), some (vI i)] [] := by
    intro j
    induction j with
    | zero => intro i h' bV' g3 g4 g5; exact absurd g5 (by omega)
    | succ j ih =>
      intro i h' bV' g3 g4 g5 hp' k' hw
      refine r_iload_n C dX8_byVersion_2 rfl ?_
      refine r_bipush C dX8_byVersion_3 (by decide) ?_
      refine r_icmp_ge (tgt := 21) C dX8_byVersion_5 (by decide) (fun hc5 => ?_) (fun hc5 => ?_)
      · exact r_vret C dX8_byVersion_21 (by decide) (by decide) ⟨rfl, bV', hp', k', fun w w0 w1 => hw w w0 (by omega)⟩
      refine r_aload_n C dX8_byVersion_8 rfl ?_
      refine r_get C dX8_byVersion_9 flX8_37 hp'.o rfl ?_
      refine r_iload_n C dX8_byVersion_12 rfl ?_
      refine r_iload_n C dX8_byVersion_13 rfl ?_
      refine w_bV C dX8_byVersion_14 hp' (by omega) (by omega) (fun h2 hp2 k2 => ?_)
      refine r_iinc C dX8_byVersion_15 rfl (by decide) (by omega) ?_
      refine r_goto (tgt := 2) C dX8_byVersion_18 (by decide) ?_
      refine ih (i + 1) h2 _ (by omega) (by omega) (by omega) hp2 (k'.tr k2) (fun w w0 w1 => ?_)
      by_cases hwi : w = i
      · rw [hwi, fu_s]
      · rw [fu_n hwi]; exact hw w w0 (by omega)
  refine r_iconst C dX8_byVersion_0 (by decide) ?_
  refine r_istore_n C dX8_byVersion_1 (by decide) ?_
  exact loop 9 0 h bV (by omega) (by omega) (by omega) hp Kp.rf (fun w w0 w1 => by omega)
/-- slot t holds a text without a fault, and its reaches -/
def GT (M T S : Int → Int) (t : Int) : Prop := 0 < M t ∧ M t ≤ 40 ∧ pe (M t) (sx T t) 6 0 = M t ∧ SZ (M t) (sx T t) (sx S t)
theorem n_comeTo {t x : Int} (hp : MP h m A vs pg pd us gi op th la lv sl T S M tL dU rs pA pS pH bV be dO hB sA nO mI mK) (ht0 : 0 ≤ t) (ht1 : t ≤ 60) (hgt : GT M T S t) (hx0 : 0 ≤ x) (hx1 : x ≤ 999) (hw : ∀ w, 0 ≤ w → w < 8 → 0 ≤ bV w ∧ bV w ≤ 5 ∧ (M (8 * bV w + w) = 0 ∨ GT M T S (8 * bV w + w))) :
    Meets yX8_comeTo cX8_comeTo 13 (some .int) 3 0 0 [vR m, vI t, vI x] h (pX (fun z h' => z = (evT (fun w => M (8 * bV w + w)) (fun w => sx T (8 * bV w + w)) (M t) (sx T t) x).1 ∧ ∃ pd' gi' op' pA' pS' pH', MP h' m A vs pg pd' ((evT (fun w => M (8 * bV w + w)) (fun w => sx T (8 * bV w + w)) (M t) (sx T t) x).2.2) gi' op' th la lv sl T S M tL dU rs pA' pS' pH' bV be dO hB sA nO mI mK ∧ Kp (fun t => 60 ≤ t) h h')) := by
  have hokW : okW (fun w => M (8 * bV w + w)) (fun w => sx T (8 * bV w + w)) := fun w w0 w1 => by
    obtain ⟨-, -, q⟩ := hw w w0 w1
    rcases q with q | q
    · exact Or.inl q
    · exact Or.inr ⟨q.1, q.2.2.1⟩
  refine Meets.of (plainFor_of_name (by decide)) (Nat.le_of_ble_eq_true rfl) (fun X C hX hN hA => ?_)
  generalize hR : evT (fun w => M (8 * bV w + w)) (fun w => sx T (8 * bV w + w)) (M t) (sx T t) x = R
  obtain ⟨WN, hWN⟩ : ∃ WN : Int → Int, WN = fun w => M (8 * bV w + w) := ⟨_, rfl⟩
  obtain ⟨WT, hWT⟩ : ∃ WT : Int → Int → Int, WT = fun w => sx T (8 * bV w + w) := ⟨_, rfl⟩
  rw [← hWN, ← hWT] at hokW hR
  have hWN' : ∀ w, WN w = M (8 * bV w + w) := fun w => by rw [hWN]
  have hWT' : ∀ w, WT w = sx T (8 * bV w + w) := fun w => by rw [hWT]
  obtain ⟨PQ, hPQ⟩ : ∃ PQ : State → Prop, PQ = Qm X (pX (fun z h' => z = R.1 ∧ ∃ pd' gi' op' pA' pS' pH', MP h' m A vs pg pd' (R.2.2) gi' op' th la lv sl T S M tL dU rs pA' pS' pH' bV be dO hB sA nO mI mK ∧ Kp (fun t => 60 ≤ t) h h')) 0 0 := ⟨_, rfl⟩
  rw [← hPQ]
  -- back at the head with something on the pile
  have disp : ∀ (h2 : Pic) (t' p k val now u2 g2 op2 : Int) (pA2 pS2 pH2 : Int → Int) (o6 o7 o8 o9 o10 o11 o12 : Option Va), MP h2 m A vs pg (k + 1) u2 g2 op2 th la lv sl T S M tL dU rs pA2 pS2 pH2 bV be dO hB sA nO mI mK → 0 ≤ k → k < 200 → pA2 k = 40 * t' + p → 0 ≤ t' → t' ≤ 60 → 0 ≤ p → p + 1 < 40 → 0 ≤ S (40 * t' + p + 1) → S (40 * t' + p + 1) ≤ 40 →
      (∀ h3 : Pic, MP h3 m A vs pg (k + 1) u2 g2 op2 th la lv sl T S M tL dU rs pA2 (fu pS2 k 1) pH2 bV be dO hB sA nO mI mK → Kp (fun t => 60 ≤ t) h2 h3 → Go X PQ 0 0 h3 194 [some (vR m), some (vI t), some (vI x), some (vI now), some (vI (-6)), some (vI val), some (vI k), some (vI (40 * t' + p)), some (vI (sx T t' p)), some (vI (40 * t' + p + 1 + S (40 * t' + p + 1))), some (vI (if pS2 k = 0 then 1 else 0)), o11, o12] []) →
      Go X PQ 0 0 h2 31 [some (vR m), some (vI t), some (vI x), some (vI now), some (vI (-6)), some (vI val), o6, o7, o8, o9, o10, o11, o12] [] := by
    intro h2 t' p k val now u2 g2 op2 pA2 pS2 pH2 o6 o7 o8 o9 o10 o11 o12 hp2 k0 k1 hpA q1 q2 q3 q4 q5 q6 kk
    refine r_iload C dX8_comeTo_31 rfl ?_
    refine r_if_ge (tgt := 43) C dX8_comeTo_33 (by decide) (fun hc33 => ?_) (fun hc33 => ?_)
    · exact absurd hc33 (by decide)
    refine r_aload_n C dX8_comeTo_36 rfl ?_
    refine r_get C dX8_comeTo_37 flX8_103 hp2.o rfl ?_
    refine r_if_le (tgt := 466) C dX8_comeTo_40 (by decide) (fun hc40 => ?_) (fun hc40 => ?_)
    · exact absurd hc40 (by omega)
    refine r_iload C dX8_comeTo_43 rfl ?_
    refine r_if_lt (tgt := 127) C dX8_comeTo_45 (by decide) (fun hc45 => ?_) (fun hc45 => ?_)
    rotate_left
    · exact absurd hc45 (by decide)
    refine r_aload_n C dX8_comeTo_127 rfl ?_
    refine r_get C dX8_comeTo_128 flX8_103 hp2.o rfl ?_
    refine r_iconst C dX8_comeTo_131 (by decide) ?_
    refine r_isub C dX8_comeTo_132 (by omega) ?_
    rw [show k + 1 - 1 = k by omega]
    refine r_istore C dX8_comeTo_133 (by decide) ?_
    refine r_aload_n C dX8_comeTo_135 rfl ?_
    refine r_get C dX8_comeTo_136 flX8_28 hp2.o rfl ?_
    refine r_iload C dX8_comeTo_139 rfl ?_
    refine r_iald C dX8_comeTo_141 hp2.apA (by omega) (by omega) ?_
    rw [hpA]
    refine r_istore C dX8_comeTo_142 (by decide) ?_
    refine r_aload_n C dX8_comeTo_144 rfl ?_
    refine r_get C dX8_comeTo_145 flX8_7 hp2.o rfl ?_
    refine r_iload C dX8_comeTo_148 rfl ?_
    refine r_iald C dX8_comeTo_150 hp2.aT (by omega) (by omega) ?_
    refine r_istore C dX8_comeTo_151 (by decide) ?_
    refine r_iload C dX8_comeTo_153 rfl ?_
    refine r_iconst C dX8_comeTo_155 (by decide) ?_
    refine r_iadd C dX8_comeTo_156 (by omega) ?_
    refine r_aload_n C dX8_comeTo_157 rfl ?_
    refine r_get C dX8_comeTo_158 flX8_13 hp2.o rfl ?_
    refine r_iload C dX8_comeTo_161 rfl ?_
    refine r_iconst C dX8_comeTo_163 (by decide) ?_
    refine r_iadd C dX8_comeTo_164 (by omega) ?_
    refine r_iald C dX8_comeTo_165 hp2.aS (by omega) (by omega) ?_
    refine r_iadd C dX8_comeTo_166 (by omega) ?_
    refine r_istore C dX8_comeTo_167 (by decide) ?_
    refine r_aload_n C dX8_comeTo_169 rfl ?_
    refine r_get C dX8_comeTo_170 flX8_31 hp2.o rfl ?_
    refine r_iload C dX8_comeTo_173 rfl ?_
    refine r_iald C dX8_comeTo_175 hp2.apS (by omega) (by omega) ?_
    refine r_if_ne (tgt := 183) C dX8_comeTo_176 (by decide) (fun hc176 => ?_) (fun hc176 => ?_)
    · rw [if_neg hc176] at kk
      refine r_iconst C dX8_comeTo_183 (by decide) ?_
      refine r_istore C dX8_comeTo_184 (by decide) ?_
      refine r_aload_n C dX8_comeTo_186 rfl ?_
      refine r_get C dX8_comeTo_187 flX8_31 hp2.o rfl ?_
      refine r_iload C dX8_comeTo_190 rfl ?_
      refine r_iconst C dX8_comeTo_192 (by decide) ?_
      refine w_pS C dX8_comeTo_193 hp2 (by omega) (by omega) (fun h3 hp3 k3 => ?_)
      exact kk h3 hp3 (k3.mono (fun t q => by omega))
    · rw [if_pos hc176] at kk
      refine r_iconst C dX8_comeTo_179 (by decide) ?_
      refine r_goto (tgt := 184) C dX8_comeTo_180 (by decide) ?_
      refine r_istore C dX8_comeTo_184 (by decide) ?_
      refine r_aload_n C dX8_comeTo_186 rfl ?_
      refine r_get C dX8_comeTo_187 flX8_31 hp2.o rfl ?_
      refine r_iload C dX8_comeTo_190 rfl ?_
      refine r_iconst C dX8_comeTo_192 (by decide) ?_
      refine w_pS C dX8_comeTo_193 hp2 (by omega) (by omega) (fun h3 hp3 k3 => ?_)
      exact kk h3 hp3 (k3.mono (fun t q => by omega))
  -- a word is given something: up to where it is opened
  have give : ∀ (o : Nat), o ≤ 20 → (∀ o', o = o' + 1 → ∀ (d : Nat), d ≤ 6 → ∀ (t' p now val k g u : Int) (h' : Pic) (pA' pS' pH' : Int → Int) (o6 o7 o8 o9 o10 o11 o12 : Option Va), 0 ≤ t' → t' ≤ 60 → GT M T S t' → 0 ≤ p → 0 ≤ pe (M t') (sx T t') d p → 0 ≤ now → now ≤ 999 → 0 ≤ k → k + d ≤ 6 * (21 - (o' : Int)) → 0 ≤ g → g ≤ 300 → MP h' m A vs pg k u g (20 - (o' : Int)) th la lv sl T S M tL dU rs pA' pS' pH' bV be dO hB sA nO mI mK → Kp (fun t => 60 ≤ t) h h' → ((ev (gvN WN WT o') (M t') (sx T t') d p now (g, u)).1 < 0 → (ev (gvN WN WT o') (M t') (sx T t') d p now (g, u)).1 = R.1 ∧ (ev (gvN WN WT o') (M t') (sx T t') d p now (g, u)).2.2 = R.2.2) → (0 ≤ (ev (gvN WN WT o') (M t') (sx T t') d p now (g, u)).1 → ∀ (h2 : Pic) (pA2 pS2 pH2 : Int → Int) (o6 o7 o8 o9 o10 o11 o12 : Option Va), MP h2 m A vs pg k ((ev (gvN WN WT o') (M t') (sx T t') d p now (g, u)).2.2) ((ev (gvN WN WT o') (M t') (sx T t') d p now (g, u)).2.1) (20 - (o' : Int)) th la lv sl T S M tL dU rs pA2 pS2 pH2 bV be dO hB sA nO mI mK → Kp (fun t => 60 ≤ t) h h2 → (∀ i, 0 ≤ i → i < k → pA2 i = pA' i ∧ pS2 i = pS' i ∧ pH2 i = pH' i) → Go X PQ 0 0 h2 31 [some (vR m), some (vI t), some (vI x), some (vI now), some (vI (-6)), some (vI (ev (gvN WN WT o') (M t') (sx T t') d p now (g, u)).1), o6, o7, o8, o9, o10, o11, o12] []) → Go X PQ 0 0 h' 31 [some (vR m), some (vI t), some (vI x), some (vI now), some (vI (40 * t' + p)), some (vI val), o6, o7, o8, o9, o10, o11, o12] []) → ∀ (t' p now val k g u : Int) (h' : Pic) (pA' pS' pH' : Int → Int) (o6 o7 o8 o9 o10 o11 o12 : Option Va), 0 ≤ t' → t' ≤ 60 → 0 ≤ p → p + 1 < 40 → 0 ≤ S (40 * t' + p + 1) → S (40 * t' + p + 1) ≤ 40 → isW (sx T t' p) → 0 ≤ now → now ≤ 999 → 0 ≤ val → val ≤ 999 → 0 ≤ k → k + 1 ≤ 6 * (21 - (o : Int)) → 0 ≤ g → g ≤ 300 → MP h' m A vs pg (k + 1) u g (20 - (o : Int)) th la lv sl T S M tL dU rs pA' pS' pH' bV be dO hB sA nO mI mK → pA' k = 40 * t' + p → pS' k = 0 → Kp (fun t => 60 ≤ t) h h' → ((gvN WN WT o (sx T t' p - 97) val (g, u)).1 < 0 → (gvN WN WT o (sx T t' p - 97) val (g, u)).1 = R.1 ∧ (gvN WN WT o (sx T t' p - 97) val (g, u)).2.2 = R.2.2) → (0 ≤ (gvN WN WT o (sx T t' p - 97) val (g, u)).1 → ∀ (h2 : Pic) (pA2 pS2 pH2 : Int → Int) (o6 o7 o8 o9 o10 o11 o12 : Option Va), MP h2 m A vs pg k ((gvN WN WT o (sx T t' p - 97) val (g, u)).2.2) ((gvN WN WT o (sx T t' p - 97) val (g, u)).2.1) (20 - (o : Int)) th la lv sl T S M tL dU rs pA2 pS2 pH2 bV be dO hB sA nO mI mK → Kp (fun t => 60 ≤ t) h h2 → (∀ i, 0 ≤ i → i < k → pA2 i = pA' i ∧ pS2 i = pS' i ∧ pH2 i = pH' i) → Go X PQ 0 0 h2 31 [some (vR m), some (vI t), some (vI x), some (vI now), some (vI (-6)), some (vI (gvN WN WT o (sx T t' p - 97) val (g, u)).1), o6, o7, o8, o9, o10, o11, o12] []) → Go X PQ 0 0 h' 31 [some (vR m), some (vI t), some (vI x), some (vI now), some (vI (-6)), some (vI val), o6, o7, o8, o9, o10, o11, o12] [] := by
    intro o ho hev t' p now val k g u h' pA' pS' pH' o6 o7 o8 o9 o10 o11 o12 b1 b2 b3 b4 b5 b6 b7 b8 b9 b10 b11 b12 b13 b14 b15 hp' hpA hpS k' hF hS
    have b7' : 97 ≤ sx T t' p ∧ sx T t' p < 105 := b7
    obtain ⟨v0, v5, hvw⟩ := hw (sx T t' p - 97) (by omega) (by omega)
    have hwn := hWN' (sx T t' p - 97)
    have hwt := hWT' (sx T t' p - 97)
    refine disp h' t' p k val now u g _ pA' pS' pH' o6 o7 o8 o9 o10 o11 o12 hp' b12 (by omega) hpA b1 b2 b3 b4 b5 b6 (fun h3 hp3 k3 => ?_)
    rw [if_pos hpS]
    refine r_iload C dX8_comeTo_194 rfl ?_
    refine r_bipush C dX8_comeTo_196 (by decide) ?_
    refine r_bipush C dX8_comeTo_198 (by decide) ?_
    refine r_cSi C dX8_comeTo_200 mlX8_66 kX8_in (n_in (v := sx T t' p) (lo := 97) (hi := 104)) rfl rfl (Nat.le_of_ble_eq_true rfl) (fit hX (by decide)) ?_
    refine r_if_eq (tgt := 366) C dX8_comeTo_203 (by decide) (fun hc203 => ?_) (fun hc203 => ?_)
    · exact absurd (zb_0.mp hc203) (by omega)
    refine r_iload C dX8_comeTo_206 rfl ?_
    refine r_if_eq (tgt := 335) C dX8_comeTo_208 (by decide) (fun hc208 => ?_) (fun hc208 => ?_)
    · exact absurd hc208 (by decide)
    refine r_iload C dX8_comeTo_211 rfl ?_
    refine r_bipush C dX8_comeTo_213 (by decide) ?_
    refine r_isub C dX8_comeTo_215 (by omega) ?_
    refine r_istore C dX8_comeTo_216 (by decide) ?_
    refine r_bipush C dX8_comeTo_218 (by decide) ?_
    refine r_aload_n C dX8_comeTo_220 rfl ?_
    refine r_get C dX8_comeTo_221 flX8_37 hp3.o rfl ?_
    refine r_iload C dX8_comeTo_224 rfl ?_
    refine r_iald C dX8_comeTo_226 hp3.abV (by omega) (by omega) ?_
    generalize hbv : bV (sx T t' p - 97) = bv at v0 v5 hvw hwn hwt ⊢
    refine r_imul C dX8_comeTo_227 (by omega) ?_
    refine r_iload C dX8_comeTo_228 rfl ?_
    refine r_iadd C dX8_comeTo_230 (by omega) ?_
    refine r_istore C dX8_comeTo_231 (by decide) ?_
    refine r_aload_n C dX8_comeTo_233 rfl ?_
    refine r_get C dX8_comeTo_234 flX8_16 hp3.o rfl ?_
    refine r_iload C dX8_comeTo_237 rfl ?_
    refine r_iald C dX8_comeTo_239 hp3.aM (by omega) (by omega) ?_
    refine r_if_ne (tgt := 259) C dX8_comeTo_240 (by decide) (fun hc240 => ?_) (fun hc240 => ?_)
    rotate_left
    · -- gone
      have hr : gvN WN WT o (sx T t' p - 97) val (g, u) = (-10, (g, bOr u (bShl 1 (sx T t' p - 97)))) := by
        cases o with
        | zero => show (if WN _ = 0 then _ else _) = _; rw [if_pos (hwn.trans hc240)]
        | succ o => show (if WN _ = 0 then _ else _) = _; rw [if_pos (hwn.trans hc240)]
      rw [hr] at hF
      obtain ⟨f1, f2⟩ := hF (show (-10 : Int) < 0 by decide)
      refine r_aload_n C dX8_comeTo_243 rfl ?_
      refine r_dup C dX8_comeTo_244 ?_
      refine r_get C dX8_comeTo_245 flX8_106 hp3.o rfl ?_
      refine r_iconst C dX8_comeTo_248 (by decide) ?_
      refine r_iload C dX8_comeTo_249 rfl ?_
      refine r_ishl C dX8_comeTo_251 ?_
      refine r_ior C dX8_comeTo_252 ?_
      refine w_us C dX8_comeTo_253 hp3 (fun h4 hp4 k4 => ?_)
      refine r_bipush C dX8_comeTo_256 (by decide) ?_
      rw [hPQ]
      rw [show bOr u (bShl 1 (sx T t' p - 97)) = R.2.2 from f2] at hp4
      exact r_iret C dX8_comeTo_258 (by decide) (by decide) ⟨_, rfl, f1, _, _, _, _, _, _, hp4, k'.tr (k3.tr (k4.mono (fun t q => by omega)))⟩
    have hne : ¬ WN (sx T t' p - 97) = 0 := fun q => hc240 (hwn.symm.trans q)
    have endless : 300 ≤ g ∨ o = 0 → Go X PQ 0 0 h3 278 [some (vR m), some (vI t), some (vI x), some (vI now), some (vI (-6)), some (vI val), some (vI k), some (vI (40 * t' + p)), some (vI (sx T t' p)), some (vI (40 * t' + p + 1 + S (40 * t' + p + 1))), some (vI 1), some (vI (sx T t' p - 97)), some (vI (8 * bv + (sx T t' p - 97)))] [] := by
      intro hc
      have hr : gvN WN WT o (sx T t' p - 97) val (g, u) = (-11, (g, u)) := by
        cases o with
        | zero => show (if WN _ = 0 then _ else _) = _; rw [if_neg hne]
        | succ o => show (if WN _ = 0 then _ else if 300 ≤ g then _ else _) = _; rw [if_neg hne, if_pos (by omega)]
      rw [hr] at hF
      obtain ⟨f1, f2⟩ := hF (show (-11 : Int) < 0 by decide)
      refine r_bipush C dX8_comeTo_278 (by decide) ?_
      rw [hPQ]
      have f2' : u = R.2.2 := f2
      rw [f2'] at hp3
      exact r_iret C dX8_comeTo_280 (by decide) (by decide) ⟨_, rfl, f1, _, _, _, _, _, _, hp3, k'.tr k3⟩
    refine r_aload_n C dX8_comeTo_259 rfl ?_
    refine r_get C dX8_comeTo_260 flX8_109 hp3.o rfl ?_
    refine r_sipush C dX8_comeTo_263 (by decide) ?_
    refine r_icmp_eq (tgt := 278) C dX8_comeTo_266 (by decide) (fun hc266 => ?_) (fun hc266 => ?_)
    · exact endless (Or.inl (by omega))
    refine r_aload_n C dX8_comeTo_269 rfl ?_
    refine r_get C dX8_comeTo_270 flX8_112 hp3.o rfl ?_
    refine r_bipush C dX8_comeTo_273 (by decide) ?_
    refine r_icmp_ne (tgt := 281) C dX8_comeTo_275 (by decide) (fun hc275 => ?_) (fun hc275 => ?_)
    rotate_left
    · exact endless (Or.inr (by omega))
    obtain ⟨o', rfl⟩ : ∃ o', o = o' + 1 := ⟨o - 1, by omega⟩
    have hGT := hvw.resolve_left hc240
    have hr : gvN WN WT (o' + 1) (sx T t' p - 97) val (g, u) = ev (gvN WN WT o') (M (8 * bv + (sx T t' p - 97))) (sx T (8 * bv + (sx T t' p - 97))) 6 0 val (g + 1, bOr u (bShl 1 (sx T t' p - 97))) := by
      show (if WN _ = 0 then _ else if 300 ≤ g then _ else _) = _
      rw [if_neg hne, if_neg (by omega), hwn, hwt]
    rw [hr] at hF hS
    refine r_aload_n C dX8_comeTo_281 rfl ?_
    refine r_dup C dX8_comeTo_282 ?_
    refine r_get C dX8_comeTo_283 flX8_106 hp3.o rfl ?_
    refine r_iconst C dX8_comeTo_286 (by decide) ?_
    refine r_iload C dX8_comeTo_287 rfl ?_
    refine r_ishl C dX8_comeTo_289 ?_
    refine r_ior C dX8_comeTo_290 ?_
    refine w_us C dX8_comeTo_291 hp3 (fun h4 hp4 k4 => ?_)
    refine r_aload_n C dX8_comeTo_294 rfl ?_
    refine r_dup C dX8_comeTo_295 ?_
    refine r_get C dX8_comeTo_296 flX8_109 hp4.o rfl ?_
    refine r_iconst C dX8_comeTo_299 (by decide) ?_
    refine r_iadd C dX8_comeTo_300 (by omega) ?_
    refine w_gi C dX8_comeTo_301 hp4 (fun h5 hp5 k5 => ?_)
    refine r_aload_n C dX8_comeTo_304 rfl ?_
    refine r_dup C dX8_comeTo_305 ?_
    refine r_get C dX8_comeTo_306 flX8_112 hp5.o rfl ?_
    refine r_iconst C dX8_comeTo_309 (by decide) ?_
    refine r_iadd C dX8_comeTo_310 (by omega) ?_
    refine w_op C dX8_comeTo_311 hp5 (fun h6 hp6 k6 => ?_)
    refine r_aload_n C dX8_comeTo_314 rfl ?_
    refine r_get C dX8_comeTo_315 flX8_34 hp6.o rfl ?_
    refine r_iload C dX8_comeTo_318 rfl ?_
    refine r_iload_n C dX8_comeTo_320 rfl ?_
    refine w_pH C dX8_comeTo_321 hp6 (by omega) (by omega) (fun h7 hp7 k7 => ?_)
    have K7 : Kp (fun t => 60 ≤ t) h h7 := k'.tr (k3.tr ((k4.mono (fun t q => by omega)).tr ((k5.mono (fun t q => by omega)).tr ((k6.mono (fun t q => by omega)).tr (k7.mono (fun t q => by omega))))))
    refine r_iload C dX8_comeTo_322 rfl ?_
    refine r_istore_n C dX8_comeTo_324 (by decide) ?_
    refine r_bipush C dX8_comeTo_325 (by decide) ?_
    refine r_iload C dX8_comeTo_327 rfl ?_
    refine r_imul C dX8_comeTo_329 (by omega) ?_
    refine r_istore C dX8_comeTo_330 (by decide) ?_
    refine r_goto (tgt := 463) C dX8_comeTo_332 (by decide) ?_
    refine r_goto (tgt := 31) C dX8_comeTo_463 (by decide) ?_
    rw [show 20 - ((o' + 1 : Nat) : Int) + 1 = 20 - (o' : Int) by omega] at hp7
    have hz := hev o' rfl 6 (by omega) (8 * bv + (sx T t' p - 97)) 0 val val (k + 1) (g + 1) (bOr u (bShl 1 (sx T t' p - 97))) h7 _ _ _ (some (vI k)) (some (vI (40 * t' + p))) (some (vI (sx T t' p))) (some (vI (40 * t' + p + 1 + S (40 * t' + p + 1)))) (some (vI 1)) (some (vI (sx T t' p - 97))) (some (vI (8 * bv + (sx T t' p - 97)))) (by omega) (by omega) hGT (Int.le_refl 0) (by rw [hGT.2.2.1]; have := hGT.1; omega) b10 b11 (by omega) (by omega) (by omega) (by omega) hp7 K7 hF (fun hnn h8 pA8 pS8 pH8 o6 o7 o8 o9 o10 o11 o12 hp8 K8 hfr => ?_)
    · rw [Int.add_zero] at hz
      exact hz
    · obtain ⟨fr1, fr2, fr3⟩ := hfr k b12 (by omega)
      rw [fu_s] at fr2 fr3
      refine disp h8 t' p k _ val _ _ _ pA8 pS8 pH8 o6 o7 o8 o9 o10 o11 o12 hp8 b12 (by omega) (fr1.trans hpA) b1 b2 b3 b4 b5 b6 (fun h9 hp9 k9 => ?_)
      rw [if_neg (by omega)]
      refine r_iload C dX8_comeTo_194 rfl ?_
      refine r_bipush C dX8_comeTo_196 (by decide) ?_
      refine r_bipush C dX8_comeTo_198 (by decide) ?_
      refine r_cSi C dX8_comeTo_200 mlX8_66 kX8_in (n_in (v := sx T t' p) (lo := 97) (hi := 104)) rfl rfl (Nat.le_of_ble_eq_true rfl) (fit hX (by decide)) ?_
      refine r_if_eq (tgt := 366) C dX8_comeTo_203 (by decide) (fun hc203b => ?_) (fun hc203b => ?_)
      · exact absurd (zb_0.mp hc203b) (by omega)
      refine r_iload C dX8_comeTo_206 rfl ?_
      refine r_if_eq (tgt := 335) C dX8_comeTo_208 (by decide) (fun hc208b => ?_) (fun hc208b => ?_)
      rotate_left
      · exact absurd rfl hc208b
      refine r_aload_n C dX8_comeTo_335 rfl ?_
      refine r_dup C dX8_comeTo_336 ?_
      refine r_get C dX8_comeTo_337 flX8_112 hp9.o rfl ?_
      refine r_iconst C dX8_comeTo_340 (by decide) ?_
      refine r_isub C dX8_comeTo_341 (by omega) ?_
      refine w_op C dX8_comeTo_342 hp9 (fun h10 hp10 k10 => ?_)
      refine r_aload_n C dX8_comeTo_345 rfl ?_
      refine r_get C dX8_comeTo_346 flX8_34 hp10.o rfl ?_
      refine r_iload C dX8_comeTo_349 rfl ?_
      refine r_iald C dX8_comeTo_351 hp10.apH (by omega) (by omega) ?_
      rw [fr3]
      refine r_istore_n C dX8_comeTo_352 (by decide) ?_
      refine r_aload_n C dX8_comeTo_353 rfl ?_
      refine r_dup C dX8_comeTo_354 ?_
      refine r_get C dX8_comeTo_355 flX8_103 hp10.o rfl ?_
      refine r_iconst C dX8_comeTo_358 (by decide) ?_
      refine r_isub C dX8_comeTo_359 (by omega) ?_
      refine w_pd C dX8_comeTo_360 hp10 (fun h11 hp11 k11 => ?_)
      refine r_goto (tgt := 463) C dX8_comeTo_363 (by decide) ?_
      refine r_goto (tgt := 31) C dX8_comeTo_463 (by decide) ?_
      rw [show 20 - (o' : Int) - 1 = 20 - ((o' + 1 : Nat) : Int) by omega, show k + 1 - 1 = k by omega] at hp11
      exact hS hnn h11 pA8 _ pH8 _ _ _ _ _ _ _ hp11 (K8.tr (k9.tr ((k10.mono (fun t q => by omega)).tr (k11.mono (fun t q => by omega))))) (fun i i0 i1 => by
        obtain ⟨w1, w2, w3⟩ := hfr i i0 (by omega)
        rw [fu_n (show i ≠ k by omega)] at w2 w3
        exact ⟨w1, by rw [fu_n (show i ≠ k by omega)]; exact w2, w3⟩)
  sorry
end
