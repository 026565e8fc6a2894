/-! the model: how far texts reach -/
theorem pit_snoc (g : Int → Int) : ∀ (i : Nat) (e : Int), pit g (i + 1) e = if pit g i e < 0 then pit g i e else g (pit g i e) := by
  intro i
  induction i with
  | zero => intro e; rfl
  | succ i ih =>
    intro e
    by_cases he : e < 0
    · rw [pit_neg g _ he, pit_neg g _ he, if_pos he]
    · have e1 : pit g (i + 1 + 1) e = pit g (i + 1) (g e) := if_neg he
      have e2 : pit g (i + 1) e = pit g i (g e) := if_neg he
      rw [e1, e2]
      exact ih (g e)
theorem pit_pre {g : Int → Int} {e : Int} : ∀ {k : Nat} {i : Nat}, i ≤ k → 0 ≤ pit g k e → 0 ≤ pit g i e := by
  intro k
  induction k with
  | zero => intro i hi h; rw [show i = 0 by omega]; exact h
  | succ k ih =>
    intro i hi h
    by_cases hik : i = k + 1
    · rw [hik]; exact h
    · refine ih (by omega) ?_
      rw [pit_snoc] at h
      split at h <;> omega
theorem pit_cover {g : Int → Int} {q : Int} : ∀ (k : Nat) (e : Int), 0 ≤ e → 0 ≤ pit g k e → e ≤ q → q < pit g k e → ∃ e1, 0 ≤ e1 ∧ e1 ≤ q ∧ 0 ≤ g e1 ∧ q < g e1 := by
  intro k
  induction k with
  | zero => intro e h0 h1 h2 h3; exact absurd h3 (by show ¬ q < e; omega)
  | succ k ih =>
    intro e h0 h1 h2 h3
    obtain ⟨a1, a2⟩ := pit_1 h0 rfl h1
    by_cases hq : q < g e
    · exact ⟨e, h0, h2, a1, hq⟩
    · exact ih (g e) a1 (by rw [a2]; exact h1) (by omega) (by rw [a2]; exact h3)
theorem pe_cover {n : Int} {f : Int → Int} : ∀ (d : Nat) (p q : Int), 0 ≤ p → 0 ≤ pe n f d p → p ≤ q → q < pe n f d p → ∃ d', 0 ≤ pe n f d' q := by
  intro d
  induction d with
  | zero =>
    intro p q h0 h1 h2 h3
    obtain ⟨-, -, he⟩ := pe_0 h0 rfl h1
    rw [he] at h3
    have : q = p := by omega
    exact ⟨0, by rw [this]; exact h1⟩
  | succ d ih =>
    intro p q h0 h1 h2 h3
    by_cases hq : q = p
    · exact ⟨d + 1, by rw [hq]; exact h1⟩
    · obtain ⟨a1, a2, a3⟩ := pe_s h0 rfl h1
      obtain ⟨e1, b1, b2, b3, b4⟩ := pit_cover (g := pe n f d) (q := q) (nd (f p)).toNat (p + 1) (by omega) (by rw [a3]; exact h1) (by omega) (by rw [a3]; exact h3)
      exact ih e1 q b1 b3 b2 b4
theorem pe_lt {n : Int} {f : Int → Int} {d : Nat} {q : Int} (h0 : 0 ≤ q) (h : 0 ≤ pe n f d q) : q < n := by
  rcases Int.lt_or_le q n with z | z
  · exact z
  · rw [pe_out z] at h; omega
/-- the signs of slot t -/
def sx (T : Int → Int) (t : Int) : Int → Int := fun k => T (40 * t + k)
/-- s says of each place how far its text reaches -/
def SZ (n : Int) (f s : Int → Int) : Prop := ∀ (d : Nat) (q : Int), 0 ≤ q → 0 ≤ pe n f d q → s q = pe n f d q - q
theorem SZ.congr {n : Int} {f f' s s' : Int → Int} (h : SZ n f s) (hf : ∀ k, 0 ≤ k → k < n → nd (f' k) = nd (f k)) (hs : ∀ k, 0 ≤ k → k < n → s' k = s k) : SZ n f' s' := fun d q h0 h1 => by
  rw [pe_nd hf d] at h1 ⊢
  rw [hs q h0 (pe_lt h0 h1)]
  exact h d q h0 h1
section
variable {h : Pic} {m : Nat} {A : Nat → Nat} {vs pg pd us gi op th la lv sl : Int} {T S M tL dU rs pA pS pH bV be dO hB sA nO mI mK : Int → Int}
theorem n_measure {t : Int} (hp : MP h m A vs pg pd us gi op th la lv sl T S M tL dU rs pA pS pH bV be dO hB sA nO mI mK) (ht0 : 0 ≤ t) (ht1 : t ≤ 60) (hn0 : 0 ≤ M t) (hn1 : M t ≤ 40) (hval : M t = 0 ∨ pe (M t) (sx T t) 6 0 = M t) : Meets yX8_measure cX8_measure 5 none 2 0 0 [vR m, vI t] h (pV (fun h' => ∃ S', MP h' m A vs pg pd us gi op th la lv sl T S' M tL dU rs pA pS pH bV be dO hB sA nO mI mK ∧ Kp (fun t => t = 62) h h' ∧ SZ (M t) (sx T t) (sx S' t) ∧ ∀ i, (i < 40 * t ∨ 40 * t + 40 ≤ i) → S' i = S i)) := by
  refine Meets.of (plainFor_of_name (by decide)) (Nat.le_of_ble_eq_true rfl) (fun X C hX hN hA => ?_)
  have loop : ∀ (j : Nat) (r : Int) (h' : Pic) (S' : Int → Int) (o3 o4 : Option Va), -1 ≤ r → r < M t → r < j → MP h' m A vs pg pd us gi op th la lv sl T S' M tL dU rs pA pS pH bV be dO hB sA nO mI mK → Kp (fun t => t = 62) h h' → (∀ (d : Nat) (q : Int), r < q → 0 ≤ q → 0 ≤ pe (M t) (sx T t) d q → sx S' t q = pe (M t) (sx T t) d q - q) → (∀ i, (i < 40 * t ∨ 40 * t + 40 ≤ i) → S' i = S i) →
      Go X (Qm X (pV (fun h' => ∃ S', MP h' m A vs pg pd us gi op th la lv sl T S' M tL dU rs pA pS pH bV be dO hB sA nO mI mK ∧ Kp (fun t => t = 62) h h' ∧ SZ (M t) (sx T t) (sx S' t) ∧ ∀ i, (i < 40 * t ∨ 40 * t + 40 ≤ i) → S' i = S i)) 0 0) 0 0 h' 14 [some (vR m), some (vI t), some (vI (40 * t + r)), o3, o4] [] := by
    intro j
    induction j with
    | zero =>
      intro r h' S' o3 o4 g3 g4 g5 hp' k' hs ho
      refine r_iload_n C dX8_measure_14 rfl ?_
      refine r_bipush C dX8_measure_15 (by decide) ?_
      refine r_iload_n C dX8_measure_17 rfl ?_
      refine r_imul C dX8_measure_18 (by omega) ?_
      refine r_icmp_lt (tgt := 71) C dX8_measure_19 (by decide) (fun hc19 => ?_) (fun hc19 => ?_)
      · exact r_vret C dX8_measure_71 (by decide) (by decide) ⟨rfl, S', hp', k', fun d q h0 h1 => hs d q (by omega) h0 h1, ho⟩
      · exact absurd hc19 (by omega)
    | succ j ih =>
      intro r h' S' o3 o4 g3 g4 g5 hp' k' hs ho
      refine r_iload_n C dX8_measure_14 rfl ?_
      refine r_bipush C dX8_measure_15 (by decide) ?_
      refine r_iload_n C dX8_measure_17 rfl ?_
      refine r_imul C dX8_measure_18 (by omega) ?_
      refine r_icmp_lt (tgt := 71) C dX8_measure_19 (by decide) (fun hc19 => ?_) (fun hc19 => ?_)
      · exact r_vret C dX8_measure_71 (by decide) (by decide) ⟨rfl, S', hp', k', fun d q h0 h1 => hs d q (by omega) h0 h1, ho⟩
      have hr0 : 0 ≤ r := by omega
      obtain ⟨d0, hd0⟩ : ∃ d0, 0 ≤ pe (M t) (sx T t) d0 r := by
        rcases hval with q | q
        · omega
        · exact pe_cover 6 0 r (Int.le_refl 0) (by omega) hr0 (by omega)
      have hTr : T (40 * t + r) = sx T t r := rfl
      have hnr := nd_rng (sx T t r)
      have inner : ∀ (c : Nat) (i : Nat) (acc : Int), (nd (sx T t r)).toNat - i < c → (i : Int) ≤ nd (sx T t r) ∨ (i = 0) → 1 ≤ acc → r + acc ≤ M t → (∀ d : Nat, 0 ≤ pe (M t) (sx T t) (d + 1) r → r + acc = pit (pe (M t) (sx T t) d) i (r + 1)) → (i = 0 → acc = 1) →
          Go X (Qm X (pV (fun h' => ∃ S', MP h' m A vs pg pd us gi op th la lv sl T S' M tL dU rs pA pS pH bV be dO hB sA nO mI mK ∧ Kp (fun t => t = 62) h h' ∧ SZ (M t) (sx T t) (sx S' t) ∧ ∀ i, (i < 40 * t ∨ 40 * t + 40 ≤ i) → S' i = S i)) 0 0) 0 0 h' 27 [some (vR m), some (vI t), some (vI (40 * t + r)), some (vI acc), some (vI i)] [] := by
        intro c
        induction c with
        | zero => intro i acc q; exact absurd q (by omega)
        | succ c ihc =>
          intro i acc q1 q2 q3 q4 q5 q6
          refine r_iload C dX8_measure_27 rfl ?_
          refine r_aload_n C dX8_measure_29 rfl ?_
          refine r_get C dX8_measure_30 flX8_7 hp'.o rfl ?_
          refine r_iload_n C dX8_measure_33 rfl ?_
          refine r_iald C dX8_measure_34 hp'.aT (by omega) (by omega) ?_
          refine r_cSi C dX8_measure_35 mlX8_77 kX8_partsOf (n_partsOf (s := T (40 * t + r))) rfl rfl (Nat.le_of_ble_eq_true rfl) (fit hX (by decide)) ?_
          rw [hTr]
          refine r_icmp_ge (tgt := 58) C dX8_measure_38 (by decide) (fun hc38 => ?_) (fun hc38 => ?_)
          · refine r_aload_n C dX8_measure_58 rfl ?_
            refine r_get C dX8_measure_59 flX8_13 hp'.o rfl ?_
            refine r_iload_n C dX8_measure_62 rfl ?_
            refine r_iload_n C dX8_measure_63 rfl ?_
            refine w_S C dX8_measure_64 hp' (by omega) (by omega) (fun h2 hp2 k2 => ?_)
            refine r_iinc C dX8_measure_65 rfl (by decide) (by omega) ?_
            refine r_goto (tgt := 14) C dX8_measure_68 (by decide) ?_
            have hz := ih (r - 1) h2 (fu S' (40 * t + r) acc) (some (vI acc)) (some (vI i)) (by omega) (by omega) (by omega) hp2 (k'.tr k2) (fun d q z1 z2 z3 => ?_) (fun z hz => by rw [fu_n (by omega)]; exact ho z hz)
            · rw [show 40 * t + r + -1 = 40 * t + (r - 1) by omega]
              exact hz
            · show fu S' (40 * t + r) acc (40 * t + q) = _
              by_cases hq : q = r
              · rw [hq, fu_s]
                rw [hq] at z3
                by_cases hn0' : nd (sx T t r) = 0
                · rw [pe_leaf hr0 g4 hn0', q6 (by omega)]; omega
                · by_cases hneg : nd (sx T t r) < 0
                  · rw [pe_neg hr0 g4 hneg] at z3; omega
                  · cases d with
                    | zero => rw [pe_deep hr0 g4 (by omega)] at z3; omega
                    | succ d =>
                      have := q5 d z3
                      rw [pe_node hr0 g4 (by omega), show (nd (sx T t r)).toNat = i by omega]
                      omega
              · rw [fu_n (by omega)]
                exact hs d q (by omega) z2 z3
          · have hpos : 0 < nd (sx T t r) := by omega
            obtain ⟨d1, hd1⟩ : ∃ d1 : Nat, d0 = d1 + 1 := by
              cases d0 with
              | zero => rw [pe_deep hr0 g4 hpos] at hd0; omega
              | succ d1 => exact ⟨d1, rfl⟩
            have step : ∀ d : Nat, 0 ≤ pe (M t) (sx T t) (d + 1) r → 0 ≤ pe (M t) (sx T t) d (r + acc) ∧ sx S' t (r + acc) = pe (M t) (sx T t) d (r + acc) - (r + acc) ∧ pit (pe (M t) (sx T t) d) (i + 1) (r + 1) = pe (M t) (sx T t) d (r + acc) := by
              intro d hd
              have e1 := q5 d hd
              have e2 := hd
              rw [pe_node hr0 g4 hpos] at e2
              have e3 := pit_pre (g := pe (M t) (sx T t) d) (e := r + 1) (k := (nd (sx T t r)).toNat) (i := i + 1) (by omega) e2
              rw [pit_snoc, ← e1, if_neg (by omega)] at e3
              refine ⟨e3, hs d (r + acc) (by omega) (by omega) e3, ?_⟩
              rw [pit_snoc, ← e1, if_neg (by omega)]
            obtain ⟨s1, s2, s3⟩ := step d1 (by rw [← hd1]; exact hd0)
            have s4 := pe_rng (M t) (sx T t) d1 (r + acc) (by omega) (by omega)
            have s5 := pe_lt (by omega) s1
            have hSx : S' (40 * t + r + acc) = sx S' t (r + acc) := by unfold sx; rw [Int.add_assoc]
            refine r_iload_n C dX8_measure_41 rfl ?_
            refine r_aload_n C dX8_measure_42 rfl ?_
            refine r_get C dX8_measure_43 flX8_13 hp'.o rfl ?_
            refine r_iload_n C dX8_measure_46 rfl ?_
            refine r_iload_n C dX8_measure_47 rfl ?_
            refine r_iadd C dX8_measure_48 (by omega) ?_
            refine r_iald C dX8_measure_49 hp'.aS (by omega) (by omega) ?_
            rw [hSx]
            refine r_iadd C dX8_measure_50 (by omega) ?_
            refine r_istore_n C dX8_measure_51 (by decide) ?_
            refine r_iinc C dX8_measure_52 rfl (by decide) (by omega) ?_
            refine r_goto (tgt := 27) C dX8_measure_55 (by decide) ?_
            exact ihc (i + 1) (acc + sx S' t (r + acc)) (by omega) (Or.inl (by omega)) (by omega) (by omega) (fun d hd => by obtain ⟨w1, w2, w3⟩ := step d hd; rw [w3, w2]; omega) (fun z => by omega)
      refine r_iconst C dX8_measure_22 (by decide) ?_
      refine r_istore_n C dX8_measure_23 (by decide) ?_
      refine r_iconst C dX8_measure_24 (by decide) ?_
      refine r_istore C dX8_measure_25 (by decide) ?_
      exact inner (nd (sx T t r)).toNat.succ 0 1 (by omega) (Or.inr rfl) (by omega) (by omega) (fun d hd => rfl) (fun _ => rfl)
  refine r_bipush C dX8_measure_0 (by decide) ?_
  refine r_iload_n C dX8_measure_2 rfl ?_
  refine r_imul C dX8_measure_3 (by omega) ?_
  refine r_aload_n C dX8_measure_4 rfl ?_
  refine r_get C dX8_measure_5 flX8_16 hp.o rfl ?_
  refine r_iload_n C dX8_measure_8 rfl ?_
  refine r_iald C dX8_measure_9 hp.aM (by omega) (by omega) ?_
  refine r_iadd C dX8_measure_10 (by omega) ?_
  refine r_iconst C dX8_measure_11 (by decide) ?_
  refine r_isub C dX8_measure_12 (by omega) ?_
  refine r_istore_n C dX8_measure_13 (by decide) ?_
  have hz := loop (M t).toNat (M t - 1) h S none none (by omega) (by omega) (by omega) hp Kp.rf (fun d q z1 z2 z3 => by have := pe_lt z2 z3; omega) (fun _ _ => rfl)
  rw [show 40 * t + (M t - 1) = 40 * t + M t - 1 by omega] at hz
  exact hz
theorem n_copyText {a b : Int} (hp : MP h m A vs pg pd us gi op th la lv sl T S M tL dU rs pA pS pH bV be dO hB sA nO mI mK) (ha0 : 0 ≤ a) (ha1 : a ≤ 60) (hb0 : 0 ≤ b) (hb1 : b ≤ 60) (hab : a ≠ b) (hn0 : 0 ≤ M a) (hn1 : M a ≤ 40) (hval : M a = 0 ∨ pe (M a) (sx T a) 6 0 = M a) : Meets yX8_copyText cX8_copyText 4 none 3 0 0 [vR m, vI a, vI b] h (pV (fun h' => ∃ T' S', MP h' m A vs pg pd us gi op th la lv sl T' S' (fu M b (M a)) tL dU rs pA pS pH bV be dO hB sA nO mI mK ∧ Kp (fun t => 60 ≤ t) h h' ∧ (∀ k, 0 ≤ k → k < M a → sx T' b k = sx T a k) ∧ (∀ i, (i < 40 * b ∨ 40 * b + 40 ≤ i) → T' i = T i) ∧ SZ (M a) (sx T' b) (sx S' b) ∧ ∀ i, (i < 40 * b ∨ 40 * b + 40 ≤ i) → S' i = S i)) := by
  refine Meets.of (plainFor_of_name (by decide)) (Nat.le_of_ble_eq_true rfl) (fun X C hX hN hA => ?_)
  have hMa : fu M b (M a) a = M a := fu_n hab
  have hMb : fu M b (M a) b = M a := fu_s
  have loop : ∀ (j : Nat) (k : Int) (h' : Pic) (T' : Int → Int), 0 ≤ k → k ≤ M a → M a - k < j → MP h' m A vs pg pd us gi op th la lv sl T' S (fu M b (M a)) tL dU rs pA pS pH bV be dO hB sA nO mI mK → Kp (fun t => 60 ≤ t) h h' → (∀ i, 0 ≤ i → i < k → sx T' b i = sx T a i) → (∀ i, (i < 40 * b ∨ 40 * b + 40 ≤ i) → T' i = T i) →
      Go X (Qm X (pV (fun h' => ∃ T' S', MP h' m A vs pg pd us gi op th la lv sl T' S' (fu M b (M a)) tL dU rs pA pS pH bV be dO hB sA nO mI mK ∧ Kp (fun t => 60 ≤ t) h h' ∧ (∀ k, 0 ≤ k → k < M a → sx T' b k = sx T a k) ∧ (∀ i, (i < 40 * b ∨ 40 * b + 40 ≤ i) → T' i = T i) ∧ SZ (M a) (sx T' b) (sx S' b) ∧ ∀ i, (i < 40 * b ∨ 40 * b + 40 ≤ i) → S' i = S i)) 0 0) 0 0 h' 14 [some (vR m), some (vI a), some (vI b), some (vI k)] [] := by
    intro j
    induction j with
    | zero => intro k h' T' g3 g4 g5; exact absurd g5 (by omega)
    | succ j ih =>
      intro k h' T' g3 g4 g5 hp' k' hT hO
      refine r_iload_n C dX8_copyText_14 rfl ?_
      refine r_aload_n C dX8_copyText_15 rfl ?_
      refine r_get C dX8_copyText_16 flX8_16 hp'.o rfl ?_
      refine r_iload_n C dX8_copyText_19 rfl ?_
      refine r_iald C dX8_copyText_20 hp'.aM (by omega) (by omega) ?_
      rw [hMa]
      refine r_icmp_ge (tgt := 52) C dX8_copyText_21 (by decide) (fun hc21 => ?_) (fun hc21 => ?_)
      · have hk : k = M a := by omega
        rw [hk] at hT
        refine r_aload_n C dX8_copyText_52 rfl ?_
        refine r_iload_n C dX8_copyText_53 rfl ?_
        refine r_cVv C dX8_copyText_54 mlX8_85 kX8_measure (n_measure (t := b) hp' hb0 hb1 (by rw [hMb]; exact hn0) (by rw [hMb]; exact hn1) (by rw [hMb]; exact hval.elim Or.inl (fun q => Or.inr (by rw [pe_nd (f' := sx T a) (fun i i0 i1 => by rw [hT i i0 i1]) 6]; exact q)))) hp'.o rfl rfl rfl (Nat.le_of_ble_eq_true rfl) (fit hX (by decide)) ?_
        rintro h2 ⟨S2, hp2, k2, hz, ho2⟩
        rw [hMb] at hz
        exact r_vret C dX8_copyText_57 (by decide) (by decide) ⟨rfl, T', S2, hp2, k'.tr (k2.mono (fun t q => by omega)), hT, hO, hz, ho2⟩
      refine r_aload_n C dX8_copyText_24 rfl ?_
      refine r_get C dX8_copyText_25 flX8_7 hp'.o rfl ?_
      refine r_bipush C dX8_copyText_28 (by decide) ?_
      refine r_iload_n C dX8_copyText_30 rfl ?_
      refine r_imul C dX8_copyText_31 (by omega) ?_
      refine r_iload_n C dX8_copyText_32 rfl ?_
      refine r_iadd C dX8_copyText_33 (by omega) ?_
      refine r_aload_n C dX8_copyText_34 rfl ?_
      refine r_get C dX8_copyText_35 flX8_7 hp'.o rfl ?_
      refine r_bipush C dX8_copyText_38 (by decide) ?_
      refine r_iload_n C dX8_copyText_40 rfl ?_
      refine r_imul C dX8_copyText_41 (by omega) ?_
      refine r_iload_n C dX8_copyText_42 rfl ?_
      refine r_iadd C dX8_copyText_43 (by omega) ?_
      refine r_iald C dX8_copyText_44 hp'.aT (by omega) (by omega) ?_
      rw [hO (40 * a + k) (by omega)]
      refine w_T C dX8_copyText_45 hp' (by omega) (by omega) (fun h2 hp2 k2 => ?_)
      refine r_iinc C dX8_copyText_46 rfl (by decide) (by omega) ?_
      refine r_goto (tgt := 14) C dX8_copyText_49 (by decide) ?_
      refine ih (k + 1) h2 _ (by omega) (by omega) (by omega) hp2 (k'.tr (k2.mono (fun t q => by omega))) (fun i i0 i1 => ?_) (fun i hi => by rw [fu_n (by omega)]; exact hO i hi)
      show fu T' (40 * b + k) (T (40 * a + k)) (40 * b + i) = T (40 * a + i)
      by_cases hik : i = k
      · rw [hik, fu_s]
      · rw [fu_n (by omega)]; exact hT i i0 (by omega)
  refine r_aload_n C dX8_copyText_0 rfl ?_
  refine r_get C dX8_copyText_1 flX8_16 hp.o rfl ?_
  refine r_iload_n C dX8_copyText_4 rfl ?_
  refine r_aload_n C dX8_copyText_5 rfl ?_
  refine r_get C dX8_copyText_6 flX8_16 hp.o rfl ?_
  refine r_iload_n C dX8_copyText_9 rfl ?_
  refine r_iald C dX8_copyText_10 hp.aM (by omega) (by omega) ?_
  refine w_M C dX8_copyText_11 hp (by omega) (by omega) (fun h1 hp1 k1 => ?_)
  refine r_iconst C dX8_copyText_12 (by decide) ?_
  refine r_istore_n C dX8_copyText_13 (by decide) ?_
  exact loop ((M a).toNat + 1) 0 h1 T (by omega) (by omega) (by omega) hp1 (k1.mono (fun t q => by omega)) (fun i i0 i1 => by omega) (fun _ _ => rfl)
end
