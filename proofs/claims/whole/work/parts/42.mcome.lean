/-! the model: comeTo -/
section
variable {h : Pic} {m : Nat} {A : Nat → Nat} {vs pg pd us gi op th la lv sl : Int} {T S M tL dU rs pA pS pH bV be dO hB sA nO mI mK : Int → Int}
theorem n_byVersion {v : Int} (hp : MP h m A vs pg pd us gi op th la lv sl T S M tL dU rs pA pS pH bV be dO hB sA nO mI mK) : Meets yX8_byVersion cX8_byVersion 3 none 1 0 0 [vR m, vI v] h (pV (fun h' => ∃ bV', MP h' m A vs pg pd us gi op th la lv sl T S M tL dU rs pA pS pH bV' be dO hB sA nO mI mK ∧ Kp (fun t => t = 76) h h' ∧ ∀ w, 0 ≤ w → w < 8 → bV' w = v)) := by
  refine Meets.of (plainFor_of_name (by decide)) (Nat.le_of_ble_eq_true rfl) (fun X C hX hN hA => ?_)
  have loop : ∀ (j : Nat) (i : Int) (h' : Pic) (bV' : Int → Int), 0 ≤ i → i ≤ 8 → 8 - i < j → MP h' m A vs pg pd us gi op th la lv sl T S M tL dU rs pA pS pH bV' be dO hB sA nO mI mK → Kp (fun t => t = 76) h h' → (∀ w, 0 ≤ w → w < i → bV' w = v) → Go X (Qm X (pV (fun h' => ∃ bV', MP h' m A vs pg pd us gi op th la lv sl T S M tL dU rs pA pS pH bV' be dO hB sA nO mI mK ∧ Kp (fun t => t = 76) h h' ∧ ∀ w, 0 ≤ w → w < 8 → bV' w = v)) 0 0) 0 0 h' 2 [some (vR m), some (vI v), some (vI i)] [] := by
    intro j
    induction j with
    | zero => intro i h' bV' g3 g4 g5; exact absurd g5 (by omega)
    | succ j ih =>
      intro i h' bV' g3 g4 g5 hp' k' hw
      refine r_iload_n C dX8_byVersion_2 rfl ?_
      refine r_bipush C dX8_byVersion_3 (by decide) ?_
      refine r_icmp_ge (tgt := 21) C dX8_byVersion_5 (by decide) (fun hc5 => ?_) (fun hc5 => ?_)
      · exact r_vret C dX8_byVersion_21 (by decide) (by decide) ⟨rfl, bV', hp', k', fun w w0 w1 => hw w w0 (by omega)⟩
      refine r_aload_n C dX8_byVersion_8 rfl ?_
      refine r_get C dX8_byVersion_9 flX8_37 hp'.o rfl ?_
      refine r_iload_n C dX8_byVersion_12 rfl ?_
      refine r_iload_n C dX8_byVersion_13 rfl ?_
      refine w_bV C dX8_byVersion_14 hp' (by omega) (by omega) (fun h2 hp2 k2 => ?_)
      refine r_iinc C dX8_byVersion_15 rfl (by decide) (by omega) ?_
      refine r_goto (tgt := 2) C dX8_byVersion_18 (by decide) ?_
      refine ih (i + 1) h2 _ (by omega) (by omega) (by omega) hp2 (k'.tr k2) (fun w w0 w1 => ?_)
      by_cases hwi : w = i
      · rw [hwi, fu_s]
      · rw [fu_n hwi]; exact hw w w0 (by omega)
  refine r_iconst C dX8_byVersion_0 (by decide) ?_
  refine r_istore_n C dX8_byVersion_1 (by decide) ?_
  exact loop 9 0 h bV (by omega) (by omega) (by omega) hp Kp.rf (fun w w0 w1 => by omega)
/-- slot t holds a text without a fault, and its reaches -/
def GT (M T S : Int → Int) (t : Int) : Prop := 0 < M t ∧ M t ≤ 40 ∧ pe (M t) (sx T t) 6 0 = M t ∧ SZ (M t) (sx T t) (sx S t)
theorem n_comeTo {t x : Int} (hp : MP h m A vs pg pd us gi op th la lv sl T S M tL dU rs pA pS pH bV be dO hB sA nO mI mK) (ht0 : 0 ≤ t) (ht1 : t ≤ 60) (hgt : GT M T S t) (hx0 : 0 ≤ x) (hx1 : x ≤ 999) (hw : ∀ w, 0 ≤ w → w < 8 → 0 ≤ bV w ∧ bV w ≤ 5 ∧ (M (8 * bV w + w) = 0 ∨ GT M T S (8 * bV w + w))) :
    Meets yX8_comeTo cX8_comeTo 13 (some .int) 3 0 0 [vR m, vI t, vI x] h (pX (fun z h' => z = (evT (fun w => M (8 * bV w + w)) (fun w => sx T (8 * bV w + w)) (M t) (sx T t) x).1 ∧ ∃ pd' gi' op' pA' pS' pH', MP h' m A vs pg pd' ((evT (fun w => M (8 * bV w + w)) (fun w => sx T (8 * bV w + w)) (M t) (sx T t) x).2.2) gi' op' th la lv sl T S M tL dU rs pA' pS' pH' bV be dO hB sA nO mI mK ∧ Kp (fun t => 60 ≤ t) h h')) := by
  have hokW : okW (fun w => M (8 * bV w + w)) (fun w => sx T (8 * bV w + w)) := fun w w0 w1 => by
    obtain ⟨-, -, q⟩ := hw w w0 w1
    rcases q with q | q
    · exact Or.inl q
    · exact Or.inr ⟨q.1, q.2.2.1⟩
  refine Meets.of (plainFor_of_name (by decide)) (Nat.le_of_ble_eq_true rfl) (fun X C hX hN hA => ?_)
  generalize hR : evT (fun w => M (8 * bV w + w)) (fun w => sx T (8 * bV w + w)) (M t) (sx T t) x = R
  obtain ⟨WN, hWN⟩ : ∃ WN : Int → Int, WN = fun w => M (8 * bV w + w) := ⟨_, rfl⟩
  obtain ⟨WT, hWT⟩ : ∃ WT : Int → Int → Int, WT = fun w => sx T (8 * bV w + w) := ⟨_, rfl⟩
  rw [← hWN, ← hWT] at hokW hR
  have hWN' : ∀ w, WN w = M (8 * bV w + w) := fun w => by rw [hWN]
  have hWT' : ∀ w, WT w = sx T (8 * bV w + w) := fun w => by rw [hWT]
  obtain ⟨PQ, hPQ⟩ : ∃ PQ : State → Prop, PQ = Qm X (pX (fun z h' => z = R.1 ∧ ∃ pd' gi' op' pA' pS' pH', MP h' m A vs pg pd' (R.2.2) gi' op' th la lv sl T S M tL dU rs pA' pS' pH' bV be dO hB sA nO mI mK ∧ Kp (fun t => 60 ≤ t) h h')) 0 0 := ⟨_, rfl⟩
  rw [← hPQ]
  -- back at the head with something on the pile
  have disp : ∀ (h2 : Pic) (t' p k val now u2 g2 op2 : Int) (pA2 pS2 pH2 : Int → Int) (o6 o7 o8 o9 o10 o11 o12 : Option Va), MP h2 m A vs pg (k + 1) u2 g2 op2 th la lv sl T S M tL dU rs pA2 pS2 pH2 bV be dO hB sA nO mI mK → 0 ≤ k → k < 200 → pA2 k = 40 * t' + p → 0 ≤ t' → t' ≤ 60 → 0 ≤ p → p + 1 < 40 → 0 ≤ S (40 * t' + p + 1) → S (40 * t' + p + 1) ≤ 40 →
      (∀ h3 : Pic, MP h3 m A vs pg (k + 1) u2 g2 op2 th la lv sl T S M tL dU rs pA2 (fu pS2 k 1) pH2 bV be dO hB sA nO mI mK → Kp (fun t => 60 ≤ t) h2 h3 → Go X PQ 0 0 h3 194 [some (vR m), some (vI t), some (vI x), some (vI now), some (vI (-6)), some (vI val), some (vI k), some (vI (40 * t' + p)), some (vI (sx T t' p)), some (vI (40 * t' + p + 1 + S (40 * t' + p + 1))), some (vI (if pS2 k = 0 then 1 else 0)), o11, o12] []) →
      Go X PQ 0 0 h2 31 [some (vR m), some (vI t), some (vI x), some (vI now), some (vI (-6)), some (vI val), o6, o7, o8, o9, o10, o11, o12] [] := by
    intro h2 t' p k val now u2 g2 op2 pA2 pS2 pH2 o6 o7 o8 o9 o10 o11 o12 hp2 k0 k1 hpA q1 q2 q3 q4 q5 q6 kk
    refine r_iload C dX8_comeTo_31 rfl ?_
    refine r_if_ge (tgt := 43) C dX8_comeTo_33 (by decide) (fun hc33 => ?_) (fun hc33 => ?_)
    · exact absurd hc33 (by decide)
    refine r_aload_n C dX8_comeTo_36 rfl ?_
    refine r_get C dX8_comeTo_37 flX8_103 hp2.o rfl ?_
    refine r_if_le (tgt := 466) C dX8_comeTo_40 (by decide) (fun hc40 => ?_) (fun hc40 => ?_)
    · exact absurd hc40 (by omega)
    refine r_iload C dX8_comeTo_43 rfl ?_
    refine r_if_lt (tgt := 127) C dX8_comeTo_45 (by decide) (fun hc45 => ?_) (fun hc45 => ?_)
    rotate_left
    · exact absurd hc45 (by decide)
    refine r_aload_n C dX8_comeTo_127 rfl ?_
    refine r_get C dX8_comeTo_128 flX8_103 hp2.o rfl ?_
    refine r_iconst C dX8_comeTo_131 (by decide) ?_
    refine r_isub C dX8_comeTo_132 (by omega) ?_
    rw [show k + 1 - 1 = k by omega]
    refine r_istore C dX8_comeTo_133 (by decide) ?_
    refine r_aload_n C dX8_comeTo_135 rfl ?_
    refine r_get C dX8_comeTo_136 flX8_28 hp2.o rfl ?_
    refine r_iload C dX8_comeTo_139 rfl ?_
    refine r_iald C dX8_comeTo_141 hp2.apA (by omega) (by omega) ?_
    rw [hpA]
    refine r_istore C dX8_comeTo_142 (by decide) ?_
    refine r_aload_n C dX8_comeTo_144 rfl ?_
    refine r_get C dX8_comeTo_145 flX8_7 hp2.o rfl ?_
    refine r_iload C dX8_comeTo_148 rfl ?_
    refine r_iald C dX8_comeTo_150 hp2.aT (by omega) (by omega) ?_
    refine r_istore C dX8_comeTo_151 (by decide) ?_
    refine r_iload C dX8_comeTo_153 rfl ?_
    refine r_iconst C dX8_comeTo_155 (by decide) ?_
    refine r_iadd C dX8_comeTo_156 (by omega) ?_
    refine r_aload_n C dX8_comeTo_157 rfl ?_
    refine r_get C dX8_comeTo_158 flX8_13 hp2.o rfl ?_
    refine r_iload C dX8_comeTo_161 rfl ?_
    refine r_iconst C dX8_comeTo_163 (by decide) ?_
    refine r_iadd C dX8_comeTo_164 (by omega) ?_
    refine r_iald C dX8_comeTo_165 hp2.aS (by omega) (by omega) ?_
    refine r_iadd C dX8_comeTo_166 (by omega) ?_
    refine r_istore C dX8_comeTo_167 (by decide) ?_
    refine r_aload_n C dX8_comeTo_169 rfl ?_
    refine r_get C dX8_comeTo_170 flX8_31 hp2.o rfl ?_
    refine r_iload C dX8_comeTo_173 rfl ?_
    refine r_iald C dX8_comeTo_175 hp2.apS (by omega) (by omega) ?_
    refine r_if_ne (tgt := 183) C dX8_comeTo_176 (by decide) (fun hc176 => ?_) (fun hc176 => ?_)
    · rw [if_neg hc176] at kk
      refine r_iconst C dX8_comeTo_183 (by decide) ?_
      refine r_istore C dX8_comeTo_184 (by decide) ?_
      refine r_aload_n C dX8_comeTo_186 rfl ?_
      refine r_get C dX8_comeTo_187 flX8_31 hp2.o rfl ?_
      refine r_iload C dX8_comeTo_190 rfl ?_
      refine r_iconst C dX8_comeTo_192 (by decide) ?_
      refine w_pS C dX8_comeTo_193 hp2 (by omega) (by omega) (fun h3 hp3 k3 => ?_)
      exact kk h3 hp3 (k3.mono (fun t q => by omega))
    · rw [if_pos hc176] at kk
      refine r_iconst C dX8_comeTo_179 (by decide) ?_
      refine r_goto (tgt := 184) C dX8_comeTo_180 (by decide) ?_
      refine r_istore C dX8_comeTo_184 (by decide) ?_
      refine r_aload_n C dX8_comeTo_186 rfl ?_
      refine r_get C dX8_comeTo_187 flX8_31 hp2.o rfl ?_
      refine r_iload C dX8_comeTo_190 rfl ?_
      refine r_iconst C dX8_comeTo_192 (by decide) ?_
      refine w_pS C dX8_comeTo_193 hp2 (by omega) (by omega) (fun h3 hp3 k3 => ?_)
      exact kk h3 hp3 (k3.mono (fun t q => by omega))
  -- a word is given something: up to where it is opened
  have give : ∀ (o : Nat), o ≤ 20 → (∀ o', o = o' + 1 → ∀ (d : Nat), d ≤ 6 → ∀ (t' p now val k g u : Int) (h' : Pic) (pA' pS' pH' : Int → Int) (o6 o7 o8 o9 o10 o11 o12 : Option Va), 0 ≤ t' → t' ≤ 60 → GT M T S t' → 0 ≤ p → 0 ≤ pe (M t') (sx T t') d p → 0 ≤ now → now ≤ 999 → 0 ≤ k → k + d ≤ 6 * (21 - (o' : Int)) → 0 ≤ g → g ≤ 300 → MP h' m A vs pg k u g (20 - (o' : Int)) th la lv sl T S M tL dU rs pA' pS' pH' bV be dO hB sA nO mI mK → Kp (fun t => 60 ≤ t) h h' → ((ev (gvN WN WT o') (M t') (sx T t') d p now (g, u)).1 < 0 → (ev (gvN WN WT o') (M t') (sx T t') d p now (g, u)).1 = R.1 ∧ (ev (gvN WN WT o') (M t') (sx T t') d p now (g, u)).2.2 = R.2.2) → (0 ≤ (ev (gvN WN WT o') (M t') (sx T t') d p now (g, u)).1 → ∀ (h2 : Pic) (pA2 pS2 pH2 : Int → Int) (o6 o7 o8 o9 o10 o11 o12 : Option Va), MP h2 m A vs pg k ((ev (gvN WN WT o') (M t') (sx T t') d p now (g, u)).2.2) ((ev (gvN WN WT o') (M t') (sx T t') d p now (g, u)).2.1) (20 - (o' : Int)) th la lv sl T S M tL dU rs pA2 pS2 pH2 bV be dO hB sA nO mI mK → Kp (fun t => 60 ≤ t) h h2 → (∀ i, 0 ≤ i → i < k → pA2 i = pA' i ∧ pS2 i = pS' i ∧ pH2 i = pH' i) → Go X PQ 0 0 h2 31 [some (vR m), some (vI t), some (vI x), some (vI now), some (vI (-6)), some (vI (ev (gvN WN WT o') (M t') (sx T t') d p now (g, u)).1), o6, o7, o8, o9, o10, o11, o12] []) → Go X PQ 0 0 h' 31 [some (vR m), some (vI t), some (vI x), some (vI now), some (vI (40 * t' + p)), some (vI val), o6, o7, o8, o9, o10, o11, o12] []) → ∀ (t' p now val k g u : Int) (h' : Pic) (pA' pS' pH' : Int → Int) (o6 o7 o8 o9 o10 o11 o12 : Option Va), 0 ≤ t' → t' ≤ 60 → 0 ≤ p → p + 1 < 40 → 0 ≤ S (40 * t' + p + 1) → S (40 * t' + p + 1) ≤ 40 → isW (sx T t' p) → 0 ≤ now → now ≤ 999 → 0 ≤ val → val ≤ 999 → 0 ≤ k → k + 1 ≤ 6 * (21 - (o : Int)) → 0 ≤ g → g ≤ 300 → MP h' m A vs pg (k + 1) u g (20 - (o : Int)) th la lv sl T S M tL dU rs pA' pS' pH' bV be dO hB sA nO mI mK → pA' k = 40 * t' + p → pS' k = 0 → Kp (fun t => 60 ≤ t) h h' → ((gvN WN WT o (sx T t' p - 97) val (g, u)).1 < 0 → (gvN WN WT o (sx T t' p - 97) val (g, u)).1 = R.1 ∧ (gvN WN WT o (sx T t' p - 97) val (g, u)).2.2 = R.2.2) → (0 ≤ (gvN WN WT o (sx T t' p - 97) val (g, u)).1 → ∀ (h2 : Pic) (pA2 pS2 pH2 : Int → Int) (o6 o7 o8 o9 o10 o11 o12 : Option Va), MP h2 m A vs pg k ((gvN WN WT o (sx T t' p - 97) val (g, u)).2.2) ((gvN WN WT o (sx T t' p - 97) val (g, u)).2.1) (20 - (o : Int)) th la lv sl T S M tL dU rs pA2 pS2 pH2 bV be dO hB sA nO mI mK → Kp (fun t => 60 ≤ t) h h2 → (∀ i, 0 ≤ i → i < k → pA2 i = pA' i ∧ pS2 i = pS' i ∧ pH2 i = pH' i) → Go X PQ 0 0 h2 31 [some (vR m), some (vI t), some (vI x), some (vI now), some (vI (-6)), some (vI (gvN WN WT o (sx T t' p - 97) val (g, u)).1), o6, o7, o8, o9, o10, o11, o12] []) → Go X PQ 0 0 h' 31 [some (vR m), some (vI t), some (vI x), some (vI now), some (vI (-6)), some (vI val), o6, o7, o8, o9, o10, o11, o12] [] := by
    intro o ho hev t' p now val k g u h' pA' pS' pH' o6 o7 o8 o9 o10 o11 o12 b1 b2 b3 b4 b5 b6 b7 b8 b9 b10 b11 b12 b13 b14 b15 hp' hpA hpS k' hF hS
    have b7' : 97 ≤ sx T t' p ∧ sx T t' p < 105 := b7
    obtain ⟨v0, v5, hvw⟩ := hw (sx T t' p - 97) (by omega) (by omega)
    have hwn := hWN' (sx T t' p - 97)
    have hwt := hWT' (sx T t' p - 97)
    refine disp h' t' p k val now u g _ pA' pS' pH' o6 o7 o8 o9 o10 o11 o12 hp' b12 (by omega) hpA b1 b2 b3 b4 b5 b6 (fun h3 hp3 k3 => ?_)
    rw [if_pos hpS]
    refine r_iload C dX8_comeTo_194 rfl ?_
    refine r_bipush C dX8_comeTo_196 (by decide) ?_
    refine r_bipush C dX8_comeTo_198 (by decide) ?_
    refine r_cSi C dX8_comeTo_200 mlX8_66 kX8_in (n_in (v := sx T t' p) (lo := 97) (hi := 104)) rfl rfl (Nat.le_of_ble_eq_true rfl) (fit hX (by decide)) ?_
    refine r_if_eq (tgt := 366) C dX8_comeTo_203 (by decide) (fun hc203 => ?_) (fun hc203 => ?_)
    · exact absurd (zb_0.mp hc203) (by omega)
    refine r_iload C dX8_comeTo_206 rfl ?_
    refine r_if_eq (tgt := 335) C dX8_comeTo_208 (by decide) (fun hc208 => ?_) (fun hc208 => ?_)
    · exact absurd hc208 (by decide)
    refine r_iload C dX8_comeTo_211 rfl ?_
    refine r_bipush C dX8_comeTo_213 (by decide) ?_
    refine r_isub C dX8_comeTo_215 (by omega) ?_
    refine r_istore C dX8_comeTo_216 (by decide) ?_
    refine r_bipush C dX8_comeTo_218 (by decide) ?_
    refine r_aload_n C dX8_comeTo_220 rfl ?_
    refine r_get C dX8_comeTo_221 flX8_37 hp3.o rfl ?_
    refine r_iload C dX8_comeTo_224 rfl ?_
    refine r_iald C dX8_comeTo_226 hp3.abV (by omega) (by omega) ?_
    generalize hbv : bV (sx T t' p - 97) = bv at v0 v5 hvw hwn hwt ⊢
    refine r_imul C dX8_comeTo_227 (by omega) ?_
    refine r_iload C dX8_comeTo_228 rfl ?_
    refine r_iadd C dX8_comeTo_230 (by omega) ?_
    refine r_istore C dX8_comeTo_231 (by decide) ?_
    refine r_aload_n C dX8_comeTo_233 rfl ?_
    refine r_get C dX8_comeTo_234 flX8_16 hp3.o rfl ?_
    refine r_iload C dX8_comeTo_237 rfl ?_
    refine r_iald C dX8_comeTo_239 hp3.aM (by omega) (by omega) ?_
    refine r_if_ne (tgt := 259) C dX8_comeTo_240 (by decide) (fun hc240 => ?_) (fun hc240 => ?_)
    rotate_left
    · -- gone
      have hr : gvN WN WT o (sx T t' p - 97) val (g, u) = (-10, (g, bOr u (bShl 1 (sx T t' p - 97)))) := by
        cases o with
        | zero => show (if WN _ = 0 then _ else _) = _; rw [if_pos (hwn.trans hc240)]
        | succ o => show (if WN _ = 0 then _ else _) = _; rw [if_pos (hwn.trans hc240)]
      rw [hr] at hF
      obtain ⟨f1, f2⟩ := hF (show (-10 : Int) < 0 by decide)
      refine r_aload_n C dX8_comeTo_243 rfl ?_
      refine r_dup C dX8_comeTo_244 ?_
      refine r_get C dX8_comeTo_245 flX8_106 hp3.o rfl ?_
      refine r_iconst C dX8_comeTo_248 (by decide) ?_
      refine r_iload C dX8_comeTo_249 rfl ?_
      refine r_ishl C dX8_comeTo_251 ?_
      refine r_ior C dX8_comeTo_252 ?_
      refine w_us C dX8_comeTo_253 hp3 (fun h4 hp4 k4 => ?_)
      refine r_bipush C dX8_comeTo_256 (by decide) ?_
      rw [hPQ]
      rw [show bOr u (bShl 1 (sx T t' p - 97)) = R.2.2 from f2] at hp4
      exact r_iret C dX8_comeTo_258 (by decide) (by decide) ⟨_, rfl, f1, _, _, _, _, _, _, hp4, k'.tr (k3.tr (k4.mono (fun t q => by omega)))⟩
    have hne : ¬ WN (sx T t' p - 97) = 0 := fun q => hc240 (hwn.symm.trans q)
    have endless : 300 ≤ g ∨ o = 0 → Go X PQ 0 0 h3 278 [some (vR m), some (vI t), some (vI x), some (vI now), some (vI (-6)), some (vI val), some (vI k), some (vI (40 * t' + p)), some (vI (sx T t' p)), some (vI (40 * t' + p + 1 + S (40 * t' + p + 1))), some (vI 1), some (vI (sx T t' p - 97)), some (vI (8 * bv + (sx T t' p - 97)))] [] := by
      intro hc
      have hr : gvN WN WT o (sx T t' p - 97) val (g, u) = (-11, (g, u)) := by
        cases o with
        | zero => show (if WN _ = 0 then _ else _) = _; rw [if_neg hne]
        | succ o => show (if WN _ = 0 then _ else if 300 ≤ g then _ else _) = _; rw [if_neg hne, if_pos (by omega)]
      rw [hr] at hF
      obtain ⟨f1, f2⟩ := hF (show (-11 : Int) < 0 by decide)
      refine r_bipush C dX8_comeTo_278 (by decide) ?_
      rw [hPQ]
      have f2' : u = R.2.2 := f2
      rw [f2'] at hp3
      exact r_iret C dX8_comeTo_280 (by decide) (by decide) ⟨_, rfl, f1, _, _, _, _, _, _, hp3, k'.tr k3⟩
    refine r_aload_n C dX8_comeTo_259 rfl ?_
    refine r_get C dX8_comeTo_260 flX8_109 hp3.o rfl ?_
    refine r_sipush C dX8_comeTo_263 (by decide) ?_
    refine r_icmp_eq (tgt := 278) C dX8_comeTo_266 (by decide) (fun hc266 => ?_) (fun hc266 => ?_)
    · exact endless (Or.inl (by omega))
    refine r_aload_n C dX8_comeTo_269 rfl ?_
    refine r_get C dX8_comeTo_270 flX8_112 hp3.o rfl ?_
    refine r_bipush C dX8_comeTo_273 (by decide) ?_
    refine r_icmp_ne (tgt := 281) C dX8_comeTo_275 (by decide) (fun hc275 => ?_) (fun hc275 => ?_)
    rotate_left
    · exact endless (Or.inr (by omega))
    obtain ⟨o', rfl⟩ : ∃ o', o = o' + 1 := ⟨o - 1, by omega⟩
    have hGT := hvw.resolve_left hc240
    have hr : gvN WN WT (o' + 1) (sx T t' p - 97) val (g, u) = ev (gvN WN WT o') (M (8 * bv + (sx T t' p - 97))) (sx T (8 * bv + (sx T t' p - 97))) 6 0 val (g + 1, bOr u (bShl 1 (sx T t' p - 97))) := by
      show (if WN _ = 0 then _ else if 300 ≤ g then _ else _) = _
      rw [if_neg hne, if_neg (by omega), hwn, hwt]
    rw [hr] at hF hS
    refine r_aload_n C dX8_comeTo_281 rfl ?_
    refine r_dup C dX8_comeTo_282 ?_
    refine r_get C dX8_comeTo_283 flX8_106 hp3.o rfl ?_
    refine r_iconst C dX8_comeTo_286 (by decide) ?_
    refine r_iload C dX8_comeTo_287 rfl ?_
    refine r_ishl C dX8_comeTo_289 ?_
    refine r_ior C dX8_comeTo_290 ?_
    refine w_us C dX8_comeTo_291 hp3 (fun h4 hp4 k4 => ?_)
    refine r_aload_n C dX8_comeTo_294 rfl ?_
    refine r_dup C dX8_comeTo_295 ?_
    refine r_get C dX8_comeTo_296 flX8_109 hp4.o rfl ?_
    refine r_iconst C dX8_comeTo_299 (by decide) ?_
    refine r_iadd C dX8_comeTo_300 (by omega) ?_
    refine w_gi C dX8_comeTo_301 hp4 (fun h5 hp5 k5 => ?_)
    refine r_aload_n C dX8_comeTo_304 rfl ?_
    refine r_dup C dX8_comeTo_305 ?_
    refine r_get C dX8_comeTo_306 flX8_112 hp5.o rfl ?_
    refine r_iconst C dX8_comeTo_309 (by decide) ?_
    refine r_iadd C dX8_comeTo_310 (by omega) ?_
    refine w_op C dX8_comeTo_311 hp5 (fun h6 hp6 k6 => ?_)
    refine r_aload_n C dX8_comeTo_314 rfl ?_
    refine r_get C dX8_comeTo_315 flX8_34 hp6.o rfl ?_
    refine r_iload C dX8_comeTo_318 rfl ?_
    refine r_iload_n C dX8_comeTo_320 rfl ?_
    refine w_pH C dX8_comeTo_321 hp6 (by omega) (by omega) (fun h7 hp7 k7 => ?_)
    have K7 : Kp (fun t => 60 ≤ t) h h7 := k'.tr (k3.tr ((k4.mono (fun t q => by omega)).tr ((k5.mono (fun t q => by omega)).tr ((k6.mono (fun t q => by omega)).tr (k7.mono (fun t q => by omega))))))
    refine r_iload C dX8_comeTo_322 rfl ?_
    refine r_istore_n C dX8_comeTo_324 (by decide) ?_
    refine r_bipush C dX8_comeTo_325 (by decide) ?_
    refine r_iload C dX8_comeTo_327 rfl ?_
    refine r_imul C dX8_comeTo_329 (by omega) ?_
    refine r_istore C dX8_comeTo_330 (by decide) ?_
    refine r_goto (tgt := 463) C dX8_comeTo_332 (by decide) ?_
    refine r_goto (tgt := 31) C dX8_comeTo_463 (by decide) ?_
    rw [show 20 - ((o' + 1 : Nat) : Int) + 1 = 20 - (o' : Int) by omega] at hp7
    have hz := hev o' rfl 6 (by omega) (8 * bv + (sx T t' p - 97)) 0 val val (k + 1) (g + 1) (bOr u (bShl 1 (sx T t' p - 97))) h7 _ _ _ (some (vI k)) (some (vI (40 * t' + p))) (some (vI (sx T t' p))) (some (vI (40 * t' + p + 1 + S (40 * t' + p + 1)))) (some (vI 1)) (some (vI (sx T t' p - 97))) (some (vI (8 * bv + (sx T t' p - 97)))) (by omega) (by omega) hGT (Int.le_refl 0) (by rw [hGT.2.2.1]; have := hGT.1; omega) b10 b11 (by omega) (by omega) (by omega) (by omega) hp7 K7 hF (fun hnn h8 pA8 pS8 pH8 o6 o7 o8 o9 o10 o11 o12 hp8 K8 hfr => ?_)
    · rw [Int.add_zero] at hz
      exact hz
    · obtain ⟨fr1, fr2, fr3⟩ := hfr k b12 (by omega)
      rw [fu_s] at fr2 fr3
      refine disp h8 t' p k _ val _ _ _ pA8 pS8 pH8 o6 o7 o8 o9 o10 o11 o12 hp8 b12 (by omega) (fr1.trans hpA) b1 b2 b3 b4 b5 b6 (fun h9 hp9 k9 => ?_)
      rw [if_neg (by omega)]
      refine r_iload C dX8_comeTo_194 rfl ?_
      refine r_bipush C dX8_comeTo_196 (by decide) ?_
      refine r_bipush C dX8_comeTo_198 (by decide) ?_
      refine r_cSi C dX8_comeTo_200 mlX8_66 kX8_in (n_in (v := sx T t' p) (lo := 97) (hi := 104)) rfl rfl (Nat.le_of_ble_eq_true rfl) (fit hX (by decide)) ?_
      refine r_if_eq (tgt := 366) C dX8_comeTo_203 (by decide) (fun hc203b => ?_) (fun hc203b => ?_)
      · exact absurd (zb_0.mp hc203b) (by omega)
      refine r_iload C dX8_comeTo_206 rfl ?_
      refine r_if_eq (tgt := 335) C dX8_comeTo_208 (by decide) (fun hc208b => ?_) (fun hc208b => ?_)
      rotate_left
      · exact absurd rfl hc208b
      refine r_aload_n C dX8_comeTo_335 rfl ?_
      refine r_dup C dX8_comeTo_336 ?_
      refine r_get C dX8_comeTo_337 flX8_112 hp9.o rfl ?_
      refine r_iconst C dX8_comeTo_340 (by decide) ?_
      refine r_isub C dX8_comeTo_341 (by omega) ?_
      refine w_op C dX8_comeTo_342 hp9 (fun h10 hp10 k10 => ?_)
      refine r_aload_n C dX8_comeTo_345 rfl ?_
      refine r_get C dX8_comeTo_346 flX8_34 hp10.o rfl ?_
      refine r_iload C dX8_comeTo_349 rfl ?_
      refine r_iald C dX8_comeTo_351 hp10.apH (by omega) (by omega) ?_
      rw [fr3]
      refine r_istore_n C dX8_comeTo_352 (by decide) ?_
      refine r_aload_n C dX8_comeTo_353 rfl ?_
      refine r_dup C dX8_comeTo_354 ?_
      refine r_get C dX8_comeTo_355 flX8_103 hp10.o rfl ?_
      refine r_iconst C dX8_comeTo_358 (by decide) ?_
      refine r_isub C dX8_comeTo_359 (by omega) ?_
      refine w_pd C dX8_comeTo_360 hp10 (fun h11 hp11 k11 => ?_)
      refine r_goto (tgt := 463) C dX8_comeTo_363 (by decide) ?_
      refine r_goto (tgt := 31) C dX8_comeTo_463 (by decide) ?_
      rw [show 20 - (o' : Int) - 1 = 20 - ((o' + 1 : Nat) : Int) by omega, show k + 1 - 1 = k by omega] at hp11
      exact hS hnn h11 pA8 _ pH8 _ _ _ _ _ _ _ hp11 (K8.tr (k9.tr ((k10.mono (fun t q => by omega)).tr (k11.mono (fun t q => by omega))))) (fun i i0 i1 => by
        obtain ⟨w1, w2, w3⟩ := hfr i i0 (by omega)
        rw [fu_n (show i ≠ k by omega)] at w2 w3
        exact ⟨w1, by rw [fu_n (show i ≠ k by omega)]; exact w2, w3⟩)
  -- a leaf
  have leaf : ∀ (h' : Pic) (t' p now val k g u op2 : Int) (pA' pS' pH' : Int → Int) (o6 o7 o8 o9 o10 o11 o12 : Option Va), MP h' m A vs pg k u g op2 th la lv sl T S M tL dU rs pA' pS' pH' bV be dO hB sA nO mI mK → 0 ≤ t' → t' ≤ 60 → 0 ≤ p → p < 40 → nd (sx T t' p) = 0 → (∀ (o6 : Option Va), Go X PQ 0 0 h' 31 [some (vR m), some (vI t), some (vI x), some (vI now), some (vI (-6)), some (vI (if sx T t' p = 120 then now else sx T t' p - 48)), o6, o7, o8, o9, o10, o11, o12] []) → Go X PQ 0 0 h' 31 [some (vR m), some (vI t), some (vI x), some (vI now), some (vI (40 * t' + p)), some (vI val), o6, o7, o8, o9, o10, o11, o12] [] := by
    intro h' t' p now val k g u op2 pA' pS' pH' o6 o7 o8 o9 o10 o11 o12 hp' q1 q2 q3 q4 q5 kk
    have hTr : T (40 * t' + p) = sx T t' p := rfl
    have hrr := nd0 q5
    refine r_iload C dX8_comeTo_31 rfl ?_
    refine r_if_ge (tgt := 43) C dX8_comeTo_33 (by decide) (fun hc33 => ?_) (fun hc33 => ?_)
    rotate_left
    · exact absurd hc33 (by omega)
    refine r_iload C dX8_comeTo_43 rfl ?_
    refine r_if_lt (tgt := 127) C dX8_comeTo_45 (by decide) (fun hc45 => ?_) (fun hc45 => ?_)
    · exact absurd hc45 (by omega)
    refine r_aload_n C dX8_comeTo_48 rfl ?_
    refine r_get C dX8_comeTo_49 flX8_7 hp'.o rfl ?_
    refine r_iload C dX8_comeTo_52 rfl ?_
    refine r_iald C dX8_comeTo_54 hp'.aT (by omega) (by omega) ?_
    rw [hTr]
    refine r_istore C dX8_comeTo_55 (by decide) ?_
    refine r_iload C dX8_comeTo_57 rfl ?_
    refine r_cSi C dX8_comeTo_59 mlX8_77 kX8_partsOf (n_partsOf (s := sx T t' p)) rfl rfl (Nat.le_of_ble_eq_true rfl) (fit hX (by decide)) ?_
    refine r_if_le (tgt := 102) C dX8_comeTo_62 (by decide) (fun hc62 => ?_) (fun hc62 => ?_)
    rotate_left
    · exact absurd hc62 (by omega)
    have hz := kk (some (vI (sx T t' p)))
    refine r_iload C dX8_comeTo_102 rfl ?_
    refine r_bipush C dX8_comeTo_104 (by decide) ?_
    refine r_icmp_ne (tgt := 113) C dX8_comeTo_106 (by decide) (fun hc106 => ?_) (fun hc106 => ?_)
    · rw [if_neg hc106] at hz
      refine r_iload C dX8_comeTo_113 rfl ?_
      refine r_bipush C dX8_comeTo_115 (by decide) ?_
      refine r_isub C dX8_comeTo_117 (by omega) ?_
      refine r_istore C dX8_comeTo_118 (by decide) ?_
      refine r_bipush C dX8_comeTo_120 (by decide) ?_
      refine r_istore C dX8_comeTo_122 (by decide) ?_
      refine r_goto (tgt := 31) C dX8_comeTo_124 (by decide) ?_
      exact hz
    · rw [if_pos hc106] at hz
      refine r_iload_n C dX8_comeTo_109 rfl ?_
      refine r_goto (tgt := 118) C dX8_comeTo_110 (by decide) ?_
      refine r_istore C dX8_comeTo_118 (by decide) ?_
      refine r_bipush C dX8_comeTo_120 (by decide) ?_
      refine r_istore C dX8_comeTo_122 (by decide) ?_
      refine r_goto (tgt := 31) C dX8_comeTo_124 (by decide) ?_
      exact hz
  -- a sign with parts goes onto the pile
  have node : ∀ (h' : Pic) (t' p now val k g u op2 : Int) (pA' pS' pH' : Int → Int) (o6 o7 o8 o9 o10 o11 o12 : Option Va), MP h' m A vs pg k u g op2 th la lv sl T S M tL dU rs pA' pS' pH' bV be dO hB sA nO mI mK → 0 ≤ t' → t' ≤ 60 → 0 ≤ p → p < 40 → 0 < nd (sx T t' p) → 0 ≤ k → k < 200 → (∀ (h2 : Pic) (o6 : Option Va), MP h2 m A vs pg (k + 1) u g op2 th la lv sl T S M tL dU rs (fu pA' k (40 * t' + p)) (fu pS' k 0) pH' bV be dO hB sA nO mI mK → Kp (fun t => 60 ≤ t) h' h2 → Go X PQ 0 0 h2 31 [some (vR m), some (vI t), some (vI x), some (vI now), some (vI (40 * t' + (p + 1))), some (vI val), o6, o7, o8, o9, o10, o11, o12] []) → Go X PQ 0 0 h' 31 [some (vR m), some (vI t), some (vI x), some (vI now), some (vI (40 * t' + p)), some (vI val), o6, o7, o8, o9, o10, o11, o12] [] := by
    intro h' t' p now val k g u op2 pA' pS' pH' o6 o7 o8 o9 o10 o11 o12 hp' q1 q2 q3 q4 q5 q6 q7 kk
    have hTr : T (40 * t' + p) = sx T t' p := rfl
    refine r_iload C dX8_comeTo_31 rfl ?_
    refine r_if_ge (tgt := 43) C dX8_comeTo_33 (by decide) (fun hc33 => ?_) (fun hc33 => ?_)
    rotate_left
    · exact absurd hc33 (by omega)
    refine r_iload C dX8_comeTo_43 rfl ?_
    refine r_if_lt (tgt := 127) C dX8_comeTo_45 (by decide) (fun hc45 => ?_) (fun hc45 => ?_)
    · exact absurd hc45 (by omega)
    refine r_aload_n C dX8_comeTo_48 rfl ?_
    refine r_get C dX8_comeTo_49 flX8_7 hp'.o rfl ?_
    refine r_iload C dX8_comeTo_52 rfl ?_
    refine r_iald C dX8_comeTo_54 hp'.aT (by omega) (by omega) ?_
    rw [hTr]
    refine r_istore C dX8_comeTo_55 (by decide) ?_
    refine r_iload C dX8_comeTo_57 rfl ?_
    refine r_cSi C dX8_comeTo_59 mlX8_77 kX8_partsOf (n_partsOf (s := sx T t' p)) rfl rfl (Nat.le_of_ble_eq_true rfl) (fit hX (by decide)) ?_
    refine r_if_le (tgt := 102) C dX8_comeTo_62 (by decide) (fun hc62 => ?_) (fun hc62 => ?_)
    · exact absurd hc62 (by omega)
    refine r_aload_n C dX8_comeTo_65 rfl ?_
    refine r_get C dX8_comeTo_66 flX8_28 hp'.o rfl ?_
    refine r_aload_n C dX8_comeTo_69 rfl ?_
    refine r_get C dX8_comeTo_70 flX8_103 hp'.o rfl ?_
    refine r_iload C dX8_comeTo_73 rfl ?_
    refine w_pA C dX8_comeTo_75 hp' (by omega) (by omega) (fun h2 hp2 k2 => ?_)
    refine r_aload_n C dX8_comeTo_76 rfl ?_
    refine r_get C dX8_comeTo_77 flX8_31 hp2.o rfl ?_
    refine r_aload_n C dX8_comeTo_80 rfl ?_
    refine r_get C dX8_comeTo_81 flX8_103 hp2.o rfl ?_
    refine r_iconst C dX8_comeTo_84 (by decide) ?_
    refine w_pS C dX8_comeTo_85 hp2 (by omega) (by omega) (fun h3 hp3 k3 => ?_)
    refine r_aload_n C dX8_comeTo_86 rfl ?_
    refine r_dup C dX8_comeTo_87 ?_
    refine r_get C dX8_comeTo_88 flX8_103 hp3.o rfl ?_
    refine r_iconst C dX8_comeTo_91 (by decide) ?_
    refine r_iadd C dX8_comeTo_92 (by omega) ?_
    refine w_pd C dX8_comeTo_93 hp3 (fun h4 hp4 k4 => ?_)
    refine r_iinc C dX8_comeTo_96 rfl (by decide) (by omega) ?_
    refine r_goto (tgt := 124) C dX8_comeTo_99 (by decide) ?_
    refine r_goto (tgt := 31) C dX8_comeTo_124 (by decide) ?_
    have hz := kk h4 (some (vI (sx T t' p))) hp4 ((k2.mono (fun t q => by omega)).tr ((k3.mono (fun t q => by omega)).tr (k4.mono (fun t q => by omega))))
    rw [show 40 * t' + (p + 1) = 40 * t' + p + 1 by omega] at hz
    exact hz
  have evd : ∀ (o : Nat), o ≤ 20 → (∀ (t' p now val k g u : Int) (h' : Pic) (pA' pS' pH' : Int → Int) (o6 o7 o8 o9 o10 o11 o12 : Option Va), 0 ≤ t' → t' ≤ 60 → 0 ≤ p → p + 1 < 40 → 0 ≤ S (40 * t' + p + 1) → S (40 * t' + p + 1) ≤ 40 → isW (sx T t' p) → 0 ≤ now → now ≤ 999 → 0 ≤ val → val ≤ 999 → 0 ≤ k → k + 1 ≤ 6 * (21 - (o : Int)) → 0 ≤ g → g ≤ 300 → MP h' m A vs pg (k + 1) u g (20 - (o : Int)) th la lv sl T S M tL dU rs pA' pS' pH' bV be dO hB sA nO mI mK → pA' k = 40 * t' + p → pS' k = 0 → Kp (fun t => 60 ≤ t) h h' → ((gvN WN WT o (sx T t' p - 97) val (g, u)).1 < 0 → (gvN WN WT o (sx T t' p - 97) val (g, u)).1 = R.1 ∧ (gvN WN WT o (sx T t' p - 97) val (g, u)).2.2 = R.2.2) → (0 ≤ (gvN WN WT o (sx T t' p - 97) val (g, u)).1 → ∀ (h2 : Pic) (pA2 pS2 pH2 : Int → Int) (o6 o7 o8 o9 o10 o11 o12 : Option Va), MP h2 m A vs pg k ((gvN WN WT o (sx T t' p - 97) val (g, u)).2.2) ((gvN WN WT o (sx T t' p - 97) val (g, u)).2.1) (20 - (o : Int)) th la lv sl T S M tL dU rs pA2 pS2 pH2 bV be dO hB sA nO mI mK → Kp (fun t => 60 ≤ t) h h2 → (∀ i, 0 ≤ i → i < k → pA2 i = pA' i ∧ pS2 i = pS' i ∧ pH2 i = pH' i) → Go X PQ 0 0 h2 31 [some (vR m), some (vI t), some (vI x), some (vI now), some (vI (-6)), some (vI (gvN WN WT o (sx T t' p - 97) val (g, u)).1), o6, o7, o8, o9, o10, o11, o12] []) → Go X PQ 0 0 h' 31 [some (vR m), some (vI t), some (vI x), some (vI now), some (vI (-6)), some (vI val), o6, o7, o8, o9, o10, o11, o12] []) → ∀ (d : Nat), d ≤ 6 → ∀ (t' p now val k g u : Int) (h' : Pic) (pA' pS' pH' : Int → Int) (o6 o7 o8 o9 o10 o11 o12 : Option Va), 0 ≤ t' → t' ≤ 60 → GT M T S t' → 0 ≤ p → 0 ≤ pe (M t') (sx T t') d p → 0 ≤ now → now ≤ 999 → 0 ≤ k → k + d ≤ 6 * (21 - (o : Int)) → 0 ≤ g → g ≤ 300 → MP h' m A vs pg k u g (20 - (o : Int)) th la lv sl T S M tL dU rs pA' pS' pH' bV be dO hB sA nO mI mK → Kp (fun t => 60 ≤ t) h h' → ((ev (gvN WN WT o) (M t') (sx T t') d p now (g, u)).1 < 0 → (ev (gvN WN WT o) (M t') (sx T t') d p now (g, u)).1 = R.1 ∧ (ev (gvN WN WT o) (M t') (sx T t') d p now (g, u)).2.2 = R.2.2) → (0 ≤ (ev (gvN WN WT o) (M t') (sx T t') d p now (g, u)).1 → ∀ (h2 : Pic) (pA2 pS2 pH2 : Int → Int) (o6 o7 o8 o9 o10 o11 o12 : Option Va), MP h2 m A vs pg k ((ev (gvN WN WT o) (M t') (sx T t') d p now (g, u)).2.2) ((ev (gvN WN WT o) (M t') (sx T t') d p now (g, u)).2.1) (20 - (o : Int)) th la lv sl T S M tL dU rs pA2 pS2 pH2 bV be dO hB sA nO mI mK → Kp (fun t => 60 ≤ t) h h2 → (∀ i, 0 ≤ i → i < k → pA2 i = pA' i ∧ pS2 i = pS' i ∧ pH2 i = pH' i) → Go X PQ 0 0 h2 31 [some (vR m), some (vI t), some (vI x), some (vI now), some (vI (-6)), some (vI (ev (gvN WN WT o) (M t') (sx T t') d p now (g, u)).1), o6, o7, o8, o9, o10, o11, o12] []) → Go X PQ 0 0 h' 31 [some (vR m), some (vI t), some (vI x), some (vI now), some (vI (40 * t' + p)), some (vI val), o6, o7, o8, o9, o10, o11, o12] [] := by
    intro o ho hgiv d
    induction d with
    | zero =>
      intro hd6 t' p now val k g u h' pA' pS' pH' o6 o7 o8 o9 o10 o11 o12 b1 b2 hgt' b3 b4 b5 b6 b7 b8 b9 b10 hp' k' hF hS
      obtain ⟨hn0, hn40, hpe6, hsz⟩ := id hgt'
      obtain ⟨hpn, hnd, -⟩ := pe_0 b3 rfl b4
      have hrr := nd0 hnd
      refine leaf h' t' p now val k g u _ pA' pS' pH' o6 o7 o8 o9 o10 o11 o12 hp' b1 b2 b3 (by omega) hnd (fun o6 => ?_)
      have he : ev (gvN WN WT o) (M t') (sx T t') 0 p now (g, u) = (if sx T t' p = 120 then now else sx T t' p - 48, (g, u)) := by
        show (if sx T t' p = 120 then (now, (g, u)) else (sx T t' p - 48, (g, u))) = _
        split <;> rfl
      rw [he] at hF hS
      exact hS (by show 0 ≤ (if sx T t' p = 120 then now else sx T t' p - 48); split <;> omega) h' pA' pS' pH' o6 o7 o8 o9 o10 o11 o12 hp' k' (fun i _ _ => ⟨rfl, rfl, rfl⟩)
    | succ d ih =>
      intro hd6 t' p now val k g u h' pA' pS' pH' o6 o7 o8 o9 o10 o11 o12 b1 b2 hgt' b3 b4 b5 b6 b7 b8 b9 b10 hp' k' hF hS
      obtain ⟨hn0, hn40, hpe6, hsz⟩ := id hgt'
      obtain ⟨hpn, hz, hpit⟩ := pe_s b3 rfl b4
      have hnd := nd_rng (sx T t' p)
      by_cases h2 : sx T t' p = 120
      · rw [ev_x h2] at hF hS
        refine leaf h' t' p now val k g u _ pA' pS' pH' o6 o7 o8 o9 o10 o11 o12 hp' b1 b2 b3 (by omega) (by rw [h2]; decide) (fun o6 => ?_)
        rw [if_pos h2]
        exact hS b5 h' pA' pS' pH' o6 o7 o8 o9 o10 o11 o12 hp' k' (fun i _ _ => ⟨rfl, rfl, rfl⟩)
      by_cases h3 : isD (sx T t' p)
      · rw [ev_d h2 h3] at hF hS
        refine leaf h' t' p now val k g u _ pA' pS' pH' o6 o7 o8 o9 o10 o11 o12 hp' b1 b2 b3 (by omega) (by unfold nd; rw [if_pos (by omega)]) (fun o6 => ?_)
        rw [if_neg h2]
        exact hS (by show 0 ≤ sx T t' p - 48; omega) h' pA' pS' pH' o6 o7 o8 o9 o10 o11 o12 hp' k' (fun i _ _ => ⟨rfl, rfl, rfl⟩)
      have hnz : nd (sx T t' p) ≠ 0 := fun q => by have := nd0 q; omega
      obtain ⟨kk, hkk⟩ : ∃ kk, (nd (sx T t' p)).toNat = kk + 1 := ⟨(nd (sx T t' p)).toNat - 1, by omega⟩
      rw [hkk] at hpit
      obtain ⟨q1, q2⟩ := pit_1 (by omega) hpit b4
      have hb1 := pe_rng (M t') (sx T t') d (p + 1) (by omega) (by omega)
      have hlt1 := pe_lt (by omega) q1
      have hs1 := hsz d (p + 1) (by omega) q1
      have hS1 : S (40 * t' + p + 1) = pe (M t') (sx T t') d (p + 1) - (p + 1) := by rw [← hs1]; unfold sx; rw [Int.add_assoc]
      have hok1 := ev_ok (gvN_ok hokW o) (n := M t') (f := sx T t') d (p + 1) now _ (g, u) (by omega) rfl q1 b5 b6 b9 b10
      refine node h' t' p now val k g u _ pA' pS' pH' o6 o7 o8 o9 o10 o11 o12 hp' b1 b2 b3 (by omega) (by omega) b7 (by omega) (fun h2' o6 hp2 k2 => ?_)
      refine ih (by omega) t' (p + 1) now val (k + 1) g u h2' _ _ _ o6 o7 o8 o9 o10 o11 o12 b1 b2 hgt' (by omega) q1 b5 b6 (by omega) (by omega) b9 b10 hp2 (k'.tr k2) (fun hneg => by rw [ev_neg h2 h3 hneg] at hF; exact hF hneg) (fun hnn h3' pA3 pS3 pH3 o6 o7 o8 o9 o10 o11 o12 hp3 k3 hfr => ?_)
      have hA3 : pA3 k = 40 * t' + p := by rw [(hfr k b7 (by omega)).1, fu_s]
      have hS3 : pS3 k = 0 := by rw [(hfr k b7 (by omega)).2.1, fu_s]
      have hfr3 : ∀ i, 0 ≤ i → i < k → pA3 i = pA' i ∧ pS3 i = pS' i ∧ pH3 i = pH' i := fun i i0 i1 => by
        obtain ⟨w1, w2, w3⟩ := hfr i i0 (by omega)
        rw [fu_n (show i ≠ k by omega)] at w1 w2
        exact ⟨w1, w2, w3⟩
      have hnn' : ¬ (ev (gvN WN WT o) (M t') (sx T t') d (p + 1) now (g, u)).1 < 0 := by omega
      obtain ⟨hk1, hk2, hk3⟩ := hok1
      dsimp only at hk2
      by_cases h5 : isW (sx T t' p)
      · rw [ev_w h2 h3 hnn' h5] at hF hS
        exact hgiv t' p now _ k _ _ h3' pA3 pS3 pH3 o6 o7 o8 o9 o10 o11 o12 b1 b2 b3 (by omega) (by omega) (by omega) h5 b5 b6 hnn (by omega) b7 (by omega) (by omega) hk3 hp3 hA3 hS3 k3 hF (fun hnn4 h4 pA4 pS4 pH4 o6 o7 o8 o9 o10 o11 o12 hp4 k4 hfr4 => hS hnn4 h4 pA4 pS4 pH4 o6 o7 o8 o9 o10 o11 o12 hp4 k4 (fun i i0 i1 => by
          obtain ⟨w1, w2, w3⟩ := hfr4 i i0 i1
          obtain ⟨y1, y2, y3⟩ := hfr3 i i0 i1
          exact ⟨w1.trans y1, w2.trans y2, w3.trans y3⟩))
      have hnd1 : nd (sx T t' p) ≠ 1 := fun q => h5 (nd1 q)
      obtain ⟨kk2, hkk2⟩ : ∃ kk2, kk = kk2 + 1 := ⟨kk - 1, by omega⟩
      rw [hkk2] at q2
      obtain ⟨q3, q4⟩ := pit_1 q1 q2 b4
      have hb2 := pe_rng (M t') (sx T t') d (pe (M t') (sx T t') d (p + 1)) q1 hb1.2.1
      have hlt2 := pe_lt q1 q3
      have hs2 := hsz d _ q1 q3
      have hsec : 40 * t' + p + 1 + S (40 * t' + p + 1) = 40 * t' + pe (M t') (sx T t') d (p + 1) := by omega
      have hok2 := ev_ok (gvN_ok hokW o) (n := M t') (f := sx T t') d (pe (M t') (sx T t') d (p + 1)) now _ (ev (gvN WN WT o) (M t') (sx T t') d (p + 1) now (g, u)).2 q1 rfl q3 b5 b6 (by omega) hk3
      by_cases h6 : sx T t' p = 63
      · have hn3 : nd (sx T t' p) = 3 := by rw [h6]; decide
        have hk21 : kk2 = 1 := by omega
        rw [hk21] at q4
        obtain ⟨q5, q6⟩ := pit_1 q3 q4 b4
        -- the part that is taken
        have qt : ∀ (p' : Int) (h4 : Pic) (o6 o7 o8 o9 o10 o11 o12 : Option Va), 0 ≤ p' → 0 ≤ pe (M t') (sx T t') d p' → ev (gvN WN WT o) (M t') (sx T t') (d + 1) p now (g, u) = ev (gvN WN WT o) (M t') (sx T t') d p' now (ev (gvN WN WT o) (M t') (sx T t') d (p + 1) now (g, u)).2 → MP h4 m A vs pg (k + 1) ((ev (gvN WN WT o) (M t') (sx T t') d (p + 1) now (g, u)).2.2) ((ev (gvN WN WT o) (M t') (sx T t') d (p + 1) now (g, u)).2.1) (20 - (o : Int)) th la lv sl T S M tL dU rs pA3 (fu pS3 k 1) pH3 bV be dO hB sA nO mI mK → Kp (fun t => 60 ≤ t) h h4 → Go X PQ 0 0 h4 31 [some (vR m), some (vI t), some (vI x), some (vI now), some (vI (40 * t' + p')), some (vI (ev (gvN WN WT o) (M t') (sx T t') d (p + 1) now (g, u)).1), o6, o7, o8, o9, o10, o11, o12] [] := by
          intro p' h4 o6 o7 o8 o9 o10 o11 o12 z1 z2 z3 hp4 k4
          rw [z3] at hF hS
          refine ih (by omega) t' p' now _ (k + 1) _ _ h4 _ _ _ o6 o7 o8 o9 o10 o11 o12 b1 b2 hgt' z1 z2 b5 b6 (by omega) (by omega) (by omega) hk3 hp4 k4 hF (fun hnn5 h5' pA5 pS5 pH5 o6 o7 o8 o9 o10 o11 o12 hp5 k5 hfr5 => ?_)
          have hA5 : pA5 k = 40 * t' + p := by rw [(hfr5 k b7 (by omega)).1]; exact hA3
          have hS5 : pS5 k = 1 := by rw [(hfr5 k b7 (by omega)).2.1, fu_s]
          refine disp h5' t' p k _ now _ _ _ pA5 pS5 pH5 o6 o7 o8 o9 o10 o11 o12 hp5 b7 (by omega) hA5 b1 b2 b3 (by omega) (by omega) (by omega) (fun h6' hp6 k6 => ?_)
          rw [if_neg (by omega), h6]
          refine r_iload C dX8_comeTo_194 rfl ?_
          refine r_bipush C dX8_comeTo_196 (by decide) ?_
          refine r_bipush C dX8_comeTo_198 (by decide) ?_
          refine r_cSi C dX8_comeTo_200 mlX8_66 kX8_in (n_in (v := 63) (lo := 97) (hi := 104)) rfl rfl (Nat.le_of_ble_eq_true rfl) (fit hX (by decide)) ?_
          refine r_if_eq (tgt := 366) C dX8_comeTo_203 (by decide) (fun hc203 => ?_) (fun hc203 => ?_)
          rotate_left
          · exact absurd (zb_n0.mp hc203) (by omega)
          refine r_iload C dX8_comeTo_366 rfl ?_
          refine r_bipush C dX8_comeTo_368 (by decide) ?_
          refine r_icmp_ne (tgt := 416) C dX8_comeTo_370 (by decide) (fun hc370 => ?_) (fun hc370 => ?_)
          · exact absurd rfl hc370
          refine r_iload C dX8_comeTo_373 rfl ?_
          refine r_if_eq (tgt := 403) C dX8_comeTo_375 (by decide) (fun hc375 => ?_) (fun hc375 => ?_)
          rotate_left
          · exact absurd rfl hc375
          refine r_aload_n C dX8_comeTo_403 rfl ?_
          refine r_dup C dX8_comeTo_404 ?_
          refine r_get C dX8_comeTo_405 flX8_103 hp6.o rfl ?_
          refine r_iconst C dX8_comeTo_408 (by decide) ?_
          refine r_isub C dX8_comeTo_409 (by omega) ?_
          refine w_pd C dX8_comeTo_410 hp6 (fun h7 hp7 k7 => ?_)
          refine r_goto (tgt := 463) C dX8_comeTo_413 (by decide) ?_
          refine r_goto (tgt := 31) C dX8_comeTo_463 (by decide) ?_
          rw [show k + 1 - 1 = k by omega] at hp7
          exact hS hnn5 h7 _ _ _ _ _ _ _ _ _ _ hp7 (k5.tr (k6.tr (k7.mono (fun t q => by omega)))) (fun i i0 i1 => by
            obtain ⟨w1, w2, w3⟩ := hfr5 i i0 (by omega)
            obtain ⟨y1, y2, y3⟩ := hfr3 i i0 i1
            rw [fu_n (show i ≠ k by omega)] at w2
            exact ⟨w1.trans y1, by rw [fu_n (show i ≠ k by omega)]; exact w2.trans y2, w3.trans y3⟩)
        refine disp h3' t' p k _ now _ _ _ pA3 pS3 pH3 o6 o7 o8 o9 o10 o11 o12 hp3 b7 (by omega) hA3 b1 b2 b3 (by omega) (by omega) (by omega) (fun h4 hp4 k4 => ?_)
        rw [if_pos hS3, hsec, h6]
        refine r_iload C dX8_comeTo_194 rfl ?_
        refine r_bipush C dX8_comeTo_196 (by decide) ?_
        refine r_bipush C dX8_comeTo_198 (by decide) ?_
        refine r_cSi C dX8_comeTo_200 mlX8_66 kX8_in (n_in (v := 63) (lo := 97) (hi := 104)) rfl rfl (Nat.le_of_ble_eq_true rfl) (fit hX (by decide)) ?_
        refine r_if_eq (tgt := 366) C dX8_comeTo_203 (by decide) (fun hc203 => ?_) (fun hc203 => ?_)
        rotate_left
        · exact absurd (zb_n0.mp hc203) (by omega)
        refine r_iload C dX8_comeTo_366 rfl ?_
        refine r_bipush C dX8_comeTo_368 (by decide) ?_
        refine r_icmp_ne (tgt := 416) C dX8_comeTo_370 (by decide) (fun hc370 => ?_) (fun hc370 => ?_)
        · exact absurd rfl hc370
        refine r_iload C dX8_comeTo_373 rfl ?_
        refine r_if_eq (tgt := 403) C dX8_comeTo_375 (by decide) (fun hc375 => ?_) (fun hc375 => ?_)
        · exact absurd hc375 (by decide)
        refine r_iload C dX8_comeTo_378 rfl ?_
        refine r_if_ne (tgt := 388) C dX8_comeTo_380 (by decide) (fun hc380 => ?_) (fun hc380 => ?_)
        · have hs2' : S (40 * t' + pe (M t') (sx T t') d (p + 1)) = pe (M t') (sx T t') d (pe (M t') (sx T t') d (p + 1)) - pe (M t') (sx T t') d (p + 1) := hs2
          refine r_iload C dX8_comeTo_388 rfl ?_
          refine r_aload_n C dX8_comeTo_390 rfl ?_
          refine r_get C dX8_comeTo_391 flX8_13 hp4.o rfl ?_
          refine r_iload C dX8_comeTo_394 rfl ?_
          refine r_iald C dX8_comeTo_396 hp4.aS (by omega) (by omega) ?_
          rw [hs2']
          refine r_iadd C dX8_comeTo_397 (by omega) ?_
          refine r_istore C dX8_comeTo_398 (by decide) ?_
          refine r_goto (tgt := 463) C dX8_comeTo_400 (by decide) ?_
          refine r_goto (tgt := 31) C dX8_comeTo_463 (by decide) ?_
          rw [show 40 * t' + pe (M t') (sx T t') d (p + 1) + (pe (M t') (sx T t') d (pe (M t') (sx T t') d (p + 1)) - pe (M t') (sx T t') d (p + 1)) = 40 * t' + pe (M t') (sx T t') d (pe (M t') (sx T t') d (p + 1)) by omega]
          exact qt _ h4 _ _ _ _ _ _ _ q3 q5 (ev_q1 hnn' h6 hc380) hp4 (k3.tr k4)
        · refine r_iload C dX8_comeTo_383 rfl ?_
          refine r_goto (tgt := 398) C dX8_comeTo_385 (by decide) ?_
          refine r_istore C dX8_comeTo_398 (by decide) ?_
          refine r_goto (tgt := 463) C dX8_comeTo_400 (by decide) ?_
          refine r_goto (tgt := 31) C dX8_comeTo_463 (by decide) ?_
          exact qt _ h4 _ _ _ _ _ _ _ q1 q3 (ev_q0 hnn' h6 hc380) hp4 (k3.tr k4)
      · have hn2 : nd (sx T t' p) ≠ 3 := fun q => h6 (nd3 q)
        refine disp h3' t' p k _ now _ _ _ pA3 pS3 pH3 o6 o7 o8 o9 o10 o11 o12 hp3 b7 (by omega) hA3 b1 b2 b3 (by omega) (by omega) (by omega) (fun h4 hp4 k4 => ?_)
        rw [if_pos hS3, hsec]
        refine r_iload C dX8_comeTo_194 rfl ?_
        refine r_bipush C dX8_comeTo_196 (by decide) ?_
        refine r_bipush C dX8_comeTo_198 (by decide) ?_
        refine r_cSi C dX8_comeTo_200 mlX8_66 kX8_in (n_in (v := sx T t' p) (lo := 97) (hi := 104)) rfl rfl (Nat.le_of_ble_eq_true rfl) (fit hX (by decide)) ?_
        refine r_if_eq (tgt := 366) C dX8_comeTo_203 (by decide) (fun hc203 => ?_) (fun hc203 => ?_)
        rotate_left
        · exact absurd (zb_n0.mp hc203) (by omega)
        refine r_iload C dX8_comeTo_366 rfl ?_
        refine r_bipush C dX8_comeTo_368 (by decide) ?_
        refine r_icmp_ne (tgt := 416) C dX8_comeTo_370 (by decide) (fun hc370 => ?_) (fun hc370 => ?_)
        rotate_left
        · exact absurd hc370 h6
        refine r_iload C dX8_comeTo_416 rfl ?_
        refine r_if_eq (tgt := 437) C dX8_comeTo_418 (by decide) (fun hc418 => ?_) (fun hc418 => ?_)
        · exact absurd hc418 (by decide)
        refine r_aload_n C dX8_comeTo_421 rfl ?_
        refine r_get C dX8_comeTo_422 flX8_34 hp4.o rfl ?_
        refine r_iload C dX8_comeTo_425 rfl ?_
        refine r_iload C dX8_comeTo_427 rfl ?_
        refine w_pH C dX8_comeTo_429 hp4 (by omega) (by omega) (fun h5' hp5 k5 => ?_)
        refine r_iload C dX8_comeTo_430 rfl ?_
        refine r_istore C dX8_comeTo_432 (by decide) ?_
        refine r_goto (tgt := 463) C dX8_comeTo_434 (by decide) ?_
        refine r_goto (tgt := 31) C dX8_comeTo_463 (by decide) ?_
        refine ih (by omega) t' _ now _ (k + 1) _ _ h5' _ _ _ _ _ _ _ _ _ _ b1 b2 hgt' q1 q3 b5 b6 (by omega) (by omega) (by omega) hk3 hp5 (k3.tr (k4.tr (k5.mono (fun t q => by omega)))) (fun hneg => by rw [ev_jn h2 h3 hnn' h5 h6 hneg] at hF; exact hF hneg) (fun hnn6 h6' pA6 pS6 pH6 o6 o7 o8 o9 o10 o11 o12 hp6 k6 hfr6 => ?_)
        have hA6 : pA6 k = 40 * t' + p := by rw [(hfr6 k b7 (by omega)).1]; exact hA3
        have hS6 : pS6 k = 1 := by rw [(hfr6 k b7 (by omega)).2.1, fu_s]
        have hH6 : pH6 k = (ev (gvN WN WT o) (M t') (sx T t') d (p + 1) now (g, u)).1 := by rw [(hfr6 k b7 (by omega)).2.2, fu_s]
        have hnn6' : 0 ≤ (ev (gvN WN WT o) (M t') (sx T t') d (pe (M t') (sx T t') d (p + 1)) now (ev (gvN WN WT o) (M t') (sx T t') d (p + 1) now (g, u)).2).1 := hnn6
        rw [ev_j h2 h3 hnn' h5 h6 (by omega)] at hF hS
        have hj1 := hok2.1
        have hjr := jn_rng (c := sx T t' p) (a := (ev (gvN WN WT o) (M t') (sx T t') d (p + 1) now (g, u)).1) (b := (ev (gvN WN WT o) (M t') (sx T t') d (pe (M t') (sx T t') d (p + 1)) now (ev (gvN WN WT o) (M t') (sx T t') d (p + 1) now (g, u)).2).1) (by omega) (by omega)
        refine disp h6' t' p k _ now _ _ _ pA6 pS6 pH6 o6 o7 o8 o9 o10 o11 o12 hp6 b7 (by omega) hA6 b1 b2 b3 (by omega) (by omega) (by omega) (fun h7 hp7 k7 => ?_)
        rw [if_neg (by omega)]
        refine r_iload C dX8_comeTo_194 rfl ?_
        refine r_bipush C dX8_comeTo_196 (by decide) ?_
        refine r_bipush C dX8_comeTo_198 (by decide) ?_
        refine r_cSi C dX8_comeTo_200 mlX8_66 kX8_in (n_in (v := sx T t' p) (lo := 97) (hi := 104)) rfl rfl (Nat.le_of_ble_eq_true rfl) (fit hX (by decide)) ?_
        refine r_if_eq (tgt := 366) C dX8_comeTo_203 (by decide) (fun hc203b => ?_) (fun hc203b => ?_)
        rotate_left
        · exact absurd (zb_n0.mp hc203b) (by omega)
        refine r_iload C dX8_comeTo_366 rfl ?_
        refine r_bipush C dX8_comeTo_368 (by decide) ?_
        refine r_icmp_ne (tgt := 416) C dX8_comeTo_370 (by decide) (fun hc370b => ?_) (fun hc370b => ?_)
        rotate_left
        · exact absurd hc370b h6
        refine r_iload C dX8_comeTo_416 rfl ?_
        refine r_if_eq (tgt := 437) C dX8_comeTo_418 (by decide) (fun hc418b => ?_) (fun hc418b => ?_)
        rotate_left
        · exact absurd rfl hc418b
        refine r_iload C dX8_comeTo_437 rfl ?_
        refine r_aload_n C dX8_comeTo_439 rfl ?_
        refine r_get C dX8_comeTo_440 flX8_34 hp7.o rfl ?_
        refine r_iload C dX8_comeTo_443 rfl ?_
        refine r_iald C dX8_comeTo_445 hp7.apH (by omega) (by omega) ?_
        rw [hH6]
        refine r_iload C dX8_comeTo_446 rfl ?_
        refine r_cSi C dX8_comeTo_448 mlX8_115 kX8_act (n_act (c := sx T t' p) (a := (ev (gvN WN WT o) (M t') (sx T t') d (p + 1) now (g, u)).1) (b := (ev (gvN WN WT o) (M t') (sx T t') d (pe (M t') (sx T t') d (p + 1)) now (ev (gvN WN WT o) (M t') (sx T t') d (p + 1) now (g, u)).2).1) (by omega) (by omega)) rfl rfl (Nat.le_of_ble_eq_true rfl) (fit hX (by decide)) ?_
        refine r_istore C dX8_comeTo_451 (by decide) ?_
        refine r_aload_n C dX8_comeTo_453 rfl ?_
        refine r_dup C dX8_comeTo_454 ?_
        refine r_get C dX8_comeTo_455 flX8_103 hp7.o rfl ?_
        refine r_iconst C dX8_comeTo_458 (by decide) ?_
        refine r_isub C dX8_comeTo_459 (by omega) ?_
        refine w_pd C dX8_comeTo_460 hp7 (fun h8 hp8 k8 => ?_)
        refine r_goto (tgt := 31) C dX8_comeTo_463 (by decide) ?_
        rw [show k + 1 - 1 = k by omega] at hp8
        exact hS hjr.1 h8 _ _ _ _ _ _ _ _ _ _ hp8 (k6.tr (k7.tr (k8.mono (fun t q => by omega)))) (fun i i0 i1 => by
          obtain ⟨w1, w2, w3⟩ := hfr6 i i0 (by omega)
          obtain ⟨y1, y2, y3⟩ := hfr3 i i0 i1
          rw [fu_n (show i ≠ k by omega)] at w2 w3
          exact ⟨w1.trans y1, by rw [fu_n (show i ≠ k by omega)]; exact w2.trans y2, w3.trans y3⟩)
  have evp : ∀ (o : Nat), o ≤ 20 → ∀ (d : Nat), d ≤ 6 → ∀ (t' p now val k g u : Int) (h' : Pic) (pA' pS' pH' : Int → Int) (o6 o7 o8 o9 o10 o11 o12 : Option Va), 0 ≤ t' → t' ≤ 60 → GT M T S t' → 0 ≤ p → 0 ≤ pe (M t') (sx T t') d p → 0 ≤ now → now ≤ 999 → 0 ≤ k → k + d ≤ 6 * (21 - (o : Int)) → 0 ≤ g → g ≤ 300 → MP h' m A vs pg k u g (20 - (o : Int)) th la lv sl T S M tL dU rs pA' pS' pH' bV be dO hB sA nO mI mK → Kp (fun t => 60 ≤ t) h h' → ((ev (gvN WN WT o) (M t') (sx T t') d p now (g, u)).1 < 0 → (ev (gvN WN WT o) (M t') (sx T t') d p now (g, u)).1 = R.1 ∧ (ev (gvN WN WT o) (M t') (sx T t') d p now (g, u)).2.2 = R.2.2) → (0 ≤ (ev (gvN WN WT o) (M t') (sx T t') d p now (g, u)).1 → ∀ (h2 : Pic) (pA2 pS2 pH2 : Int → Int) (o6 o7 o8 o9 o10 o11 o12 : Option Va), MP h2 m A vs pg k ((ev (gvN WN WT o) (M t') (sx T t') d p now (g, u)).2.2) ((ev (gvN WN WT o) (M t') (sx T t') d p now (g, u)).2.1) (20 - (o : Int)) th la lv sl T S M tL dU rs pA2 pS2 pH2 bV be dO hB sA nO mI mK → Kp (fun t => 60 ≤ t) h h2 → (∀ i, 0 ≤ i → i < k → pA2 i = pA' i ∧ pS2 i = pS' i ∧ pH2 i = pH' i) → Go X PQ 0 0 h2 31 [some (vR m), some (vI t), some (vI x), some (vI now), some (vI (-6)), some (vI (ev (gvN WN WT o) (M t') (sx T t') d p now (g, u)).1), o6, o7, o8, o9, o10, o11, o12] []) → Go X PQ 0 0 h' 31 [some (vR m), some (vI t), some (vI x), some (vI now), some (vI (40 * t' + p)), some (vI val), o6, o7, o8, o9, o10, o11, o12] [] := by
    intro o
    induction o with
    | zero => intro ho; exact evd 0 ho (give 0 ho (fun o' e => absurd e (by omega)))
    | succ o ih => intro ho; exact evd (o + 1) ho (give (o + 1) ho (fun o' e => by cases e; exact ih (by omega)))
  refine r_aload_n C dX8_comeTo_0 rfl ?_
  refine r_iconst C dX8_comeTo_1 (by decide) ?_
  refine w_pd C dX8_comeTo_2 hp (fun h1 hp1 k1 => ?_)
  refine r_aload_n C dX8_comeTo_5 rfl ?_
  refine r_iconst C dX8_comeTo_6 (by decide) ?_
  refine w_us C dX8_comeTo_7 hp1 (fun h2 hp2 k2 => ?_)
  refine r_aload_n C dX8_comeTo_10 rfl ?_
  refine r_iconst C dX8_comeTo_11 (by decide) ?_
  refine w_gi C dX8_comeTo_12 hp2 (fun h3 hp3 k3 => ?_)
  refine r_aload_n C dX8_comeTo_15 rfl ?_
  refine r_iconst C dX8_comeTo_16 (by decide) ?_
  refine w_op C dX8_comeTo_17 hp3 (fun h4 hp4 k4 => ?_)
  have K4 : Kp (fun t => 60 ≤ t) h h4 := ((k1.tr k2).tr (k3.tr k4)).mono (fun t q => by omega)
  refine r_iload_n C dX8_comeTo_20 rfl ?_
  refine r_istore_n C dX8_comeTo_21 (by decide) ?_
  refine r_bipush C dX8_comeTo_22 (by decide) ?_
  refine r_iload_n C dX8_comeTo_24 rfl ?_
  refine r_imul C dX8_comeTo_25 (by omega) ?_
  refine r_istore C dX8_comeTo_26 (by decide) ?_
  refine r_iconst C dX8_comeTo_28 (by decide) ?_
  refine r_istore C dX8_comeTo_29 (by decide) ?_
  have hz := evp 20 (by omega) 6 (by omega) t 0 x 0 0 0 0 h4 pA pS pH none none none none none none none ht0 ht1 hgt (Int.le_refl 0) (by rw [hgt.2.2.1]; have := hgt.1; omega) hx0 hx1 (Int.le_refl 0) (by omega) (Int.le_refl 0) (by omega) hp4 K4 (fun _ => by rw [← hR]; exact ⟨rfl, rfl⟩) (fun hnn h5 pA5 pS5 pH5 o6 o7 o8 o9 o10 o11 o12 hp5 k5 _ => ?_)
  · rw [Int.add_zero] at hz
    exact hz
  · have hRe : ev (gvN WN WT 20) (M t) (sx T t) 6 0 x (0, 0) = R := hR
    rw [hRe] at hp5 ⊢
    refine r_iload C dX8_comeTo_31 rfl ?_
    refine r_if_ge (tgt := 43) C dX8_comeTo_33 (by decide) (fun hc33 => ?_) (fun hc33 => ?_)
    · exact absurd hc33 (by decide)
    refine r_aload_n C dX8_comeTo_36 rfl ?_
    refine r_get C dX8_comeTo_37 flX8_103 hp5.o rfl ?_
    refine r_if_le (tgt := 466) C dX8_comeTo_40 (by decide) (fun hc40 => ?_) (fun hc40 => ?_)
    rotate_left
    · exact absurd hc40 (by decide)
    refine r_iload C dX8_comeTo_466 rfl ?_
    rw [hPQ]
    exact r_iret C dX8_comeTo_468 (by decide) (by decide) ⟨_, rfl, rfl, _, _, _, _, _, _, hp5, k5⟩
end
