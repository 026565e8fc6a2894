/-! the model: leaves -/
section
variable {h : Pic} {m : Nat} {A : Nat → Nat} {vs pg pd us gi op th la lv sl : Int} {T S M tL dU rs pA pS pH bV be dO hB sA nO mI mK : Int → Int}
theorem n_in {v lo hi : Int} : Meets yX8_in cX8_in 3 (some .boolean) 0 0 0 [vI v, vI lo, vI hi] h (pI (zb (lo ≤ v ∧ v ≤ hi)) h) := by
  refine Meets.of (plainFor_of_name (by decide)) (Nat.le_of_ble_eq_true rfl) (fun X C hX hN hA => ?_)
  refine r_iload_n C dX8_in_0 rfl ?_
  refine r_iload_n C dX8_in_1 rfl ?_
  refine r_icmp_lt (tgt := 14) C dX8_in_2 (by decide) (fun hc2 => ?_) (fun hc2 => ?_)
  · refine r_iconst C dX8_in_14 (by decide) ?_
    exact r_zret C dX8_in_15 (by omega) (by decide) (by decide) ⟨some_I (zb_f (by omega)).symm, rfl⟩
  refine r_iload_n C dX8_in_5 rfl ?_
  refine r_iload_n C dX8_in_6 rfl ?_
  refine r_icmp_gt (tgt := 14) C dX8_in_7 (by decide) (fun hc7 => ?_) (fun hc7 => ?_)
  · refine r_iconst C dX8_in_14 (by decide) ?_
    exact r_zret C dX8_in_15 (by omega) (by decide) (by decide) ⟨some_I (zb_f (by omega)).symm, rfl⟩
  · refine r_iconst C dX8_in_10 (by decide) ?_
    refine r_goto (tgt := 15) C dX8_in_11 (by decide) ?_
    exact r_zret C dX8_in_15 (by omega) (by decide) (by decide) ⟨some_I (zb_t ⟨by omega, by omega⟩).symm, rfl⟩
theorem n_isWord {w : Int} : Meets yX8_isWord cX8_isWord 1 (some .boolean) 1 0 0 [vI w] h (pI (zb (0 ≤ w ∧ w ≤ 7)) h) := by
  refine Meets.of (plainFor_of_name (by decide)) (Nat.le_of_ble_eq_true rfl) (fun X C hX hN hA => ?_)
  refine r_iload_n C dX8_isWord_0 rfl ?_
  refine r_iconst C dX8_isWord_1 (by decide) ?_
  refine r_bipush C dX8_isWord_2 (by decide) ?_
  refine r_cSi C dX8_isWord_4 mlX8_66 kX8_in (n_in (v := w) (lo := 0) (hi := 7)) rfl rfl (Nat.le_of_ble_eq_true rfl) (fit hX (by decide)) ?_
  exact r_zret C dX8_isWord_7 (zb_01 _) (by decide) (by decide) ⟨rfl, rfl⟩
theorem n_isVersion {v : Int} (hp : MP h m A vs pg pd us gi op th la lv sl T S M tL dU rs pA pS pH bV be dO hB sA nO mI mK) (hv : 0 ≤ vs ∧ vs ≤ 6) : Meets yX8_isVersion cX8_isVersion 2 (some .boolean) 1 0 0 [vR m, vI v] h (pI (zb (0 ≤ v ∧ v ≤ vs - 1)) h) := by
  refine Meets.of (plainFor_of_name (by decide)) (Nat.le_of_ble_eq_true rfl) (fun X C hX hN hA => ?_)
  refine r_iload_n C dX8_isVersion_0 rfl ?_
  refine r_iconst C dX8_isVersion_1 (by decide) ?_
  refine r_aload_n C dX8_isVersion_2 rfl ?_
  refine r_get C dX8_isVersion_3 flX8_62 hp.o rfl ?_
  refine r_iconst C dX8_isVersion_6 (by decide) ?_
  refine r_isub C dX8_isVersion_7 (by omega) ?_
  refine r_cSi C dX8_isVersion_8 mlX8_66 kX8_in (n_in (v := v) (lo := 0) (hi := vs - 1)) rfl rfl (Nat.le_of_ble_eq_true rfl) (fit hX (by decide)) ?_
  exact r_zret C dX8_isVersion_11 (zb_01 _) (by decide) (by decide) ⟨rfl, rfl⟩
theorem n_isPage {p : Int} (hp : MP h m A vs pg pd us gi op th la lv sl T S M tL dU rs pA pS pH bV be dO hB sA nO mI mK) (hv : 0 ≤ pg ∧ pg ≤ 12) : Meets yX8_isPage cX8_isPage 2 (some .boolean) 1 0 0 [vR m, vI p] h (pI (zb (0 ≤ p ∧ p ≤ pg - 1)) h) := by
  refine Meets.of (plainFor_of_name (by decide)) (Nat.le_of_ble_eq_true rfl) (fun X C hX hN hA => ?_)
  refine r_iload_n C dX8_isPage_0 rfl ?_
  refine r_iconst C dX8_isPage_1 (by decide) ?_
  refine r_aload_n C dX8_isPage_2 rfl ?_
  refine r_get C dX8_isPage_3 flX8_70 hp.o rfl ?_
  refine r_iconst C dX8_isPage_6 (by decide) ?_
  refine r_isub C dX8_isPage_7 (by omega) ?_
  refine r_cSi C dX8_isPage_8 mlX8_66 kX8_in (n_in (v := p) (lo := 0) (hi := pg - 1)) rfl rfl (Nat.le_of_ble_eq_true rfl) (fit hX (by decide)) ?_
  exact r_zret C dX8_isPage_11 (zb_01 _) (by decide) (by decide) ⟨rfl, rfl⟩
theorem n_isExample {p : Int} (hp : MP h m A vs pg pd us gi op th la lv sl T S M tL dU rs pA pS pH bV be dO hB sA nO mI mK) (hv : 0 ≤ pg ∧ pg ≤ 12) : Meets yX8_isExample cX8_isExample 2 (some .boolean) 2 0 0 [vR m, vI p] h (pI (zb (0 ≤ p ∧ p < pg ∧ tL p < 0)) h) := by
  refine Meets.of (plainFor_of_name (by decide)) (Nat.le_of_ble_eq_true rfl) (fun X C hX hN hA => ?_)
  refine r_aload_n C dX8_isExample_0 rfl ?_
  refine r_iload_n C dX8_isExample_1 rfl ?_
  refine r_cVi C dX8_isExample_2 mlX8_73 kX8_isPage (n_isPage (p := p) hp hv) hp.o rfl rfl rfl (Nat.le_of_ble_eq_true rfl) (fit hX (by decide)) ?_
  refine r_if_eq (tgt := 21) C dX8_isExample_5 (by decide) (fun hc5 => ?_) (fun hc5 => ?_)
  · have := zb_0.mp hc5
    refine r_iconst C dX8_isExample_21 (by decide) ?_
    exact r_zret C dX8_isExample_22 (by omega) (by decide) (by decide) ⟨some_I (zb_f (by omega)).symm, rfl⟩
  have := zb_n0.mp hc5
  refine r_aload_n C dX8_isExample_8 rfl ?_
  refine r_get C dX8_isExample_9 flX8_19 hp.o rfl ?_
  refine r_iload_n C dX8_isExample_12 rfl ?_
  refine r_iald C dX8_isExample_13 hp.atL (by omega) (by omega) ?_
  refine r_if_ge (tgt := 21) C dX8_isExample_14 (by decide) (fun hc14 => ?_) (fun hc14 => ?_)
  · refine r_iconst C dX8_isExample_21 (by decide) ?_
    exact r_zret C dX8_isExample_22 (by omega) (by decide) (by decide) ⟨some_I (zb_f (by omega)).symm, rfl⟩
  · refine r_iconst C dX8_isExample_17 (by decide) ?_
    refine r_goto (tgt := 22) C dX8_isExample_18 (by decide) ?_
    exact r_zret C dX8_isExample_22 (by omega) (by decide) (by decide) ⟨some_I (zb_t ⟨by omega, by omega, by omega⟩).symm, rfl⟩
theorem n_bits {s : Int} : Meets yX8_bits cX8_bits 3 (some .int) 0 0 0 [vI s] h (pI (cnt s) h) := by
  refine Meets.of (plainFor_of_name (by decide)) (Nat.le_of_ble_eq_true rfl) (fun X C hX hN hA => ?_)
  have loop : ∀ (j : Nat) (i : Nat), i ≤ 12 → 12 - i < j → Go X (Qm X (pI (cnt s) h) 0 0) 0 0 h 4 [some (vI s), some (vI (cntN i s)), some (vI i)] [] := by
    intro j
    induction j with
    | zero => intro i g4 g5; exact absurd g5 (by omega)
    | succ j ih =>
      intro i g4 g5
      refine r_iload_n C dX8_bits_4 rfl ?_
      refine r_bipush C dX8_bits_5 (by decide) ?_
      refine r_icmp_ge (tgt := 24) C dX8_bits_7 (by decide) (fun hc7 => ?_) (fun hc7 => ?_)
      · have hi : i = 12 := by omega
        refine r_iload_n C dX8_bits_24 rfl ?_
        exact r_iret C dX8_bits_25 (by decide) (by decide) ⟨by rw [hi]; rfl, rfl⟩
      have h1 := cntN_rng s i (by omega)
      have h2 := bit_01 (x := s) (j := (i : Int)) (by omega) (by omega)
      refine r_iload_n C dX8_bits_10 rfl ?_
      refine r_iload_n C dX8_bits_11 rfl ?_
      refine r_iload_n C dX8_bits_12 rfl ?_
      refine r_ishr C dX8_bits_13 ?_
      refine r_iconst C dX8_bits_14 (by decide) ?_
      refine r_iand C dX8_bits_15 ?_
      refine r_iadd C dX8_bits_16 (by omega) ?_
      refine r_istore_n C dX8_bits_17 (by decide) ?_
      refine r_iinc C dX8_bits_18 rfl (by decide) (by omega) ?_
      refine r_goto (tgt := 4) C dX8_bits_21 (by decide) ?_
      exact ih (i + 1) (by omega) (by omega)
  refine r_iconst C dX8_bits_0 (by decide) ?_
  refine r_istore_n C dX8_bits_1 (by decide) ?_
  refine r_iconst C dX8_bits_2 (by decide) ?_
  refine r_istore_n C dX8_bits_3 (by decide) ?_
  exact loop 13 0 (by omega) (by omega)
theorem n_partsOf {s : Int} : Meets yX8_partsOf cX8_partsOf 1 (some .int) 1 0 0 [vI s] h (pI (nd s) h) := by
  refine Meets.of (plainFor_of_name (by decide)) (Nat.le_of_ble_eq_true rfl) (fun X C hX hN hA => ?_)
  refine r_iload_n C dX8_partsOf_0 rfl ?_
  refine r_bipush C dX8_partsOf_1 (by decide) ?_
  refine r_bipush C dX8_partsOf_3 (by decide) ?_
  refine r_cSi C dX8_partsOf_5 mlX8_66 kX8_in (n_in (v := s) (lo := 48) (hi := 57)) rfl rfl (Nat.le_of_ble_eq_true rfl) (fit hX (by decide)) ?_
  refine r_if_ne (tgt := 17) C dX8_partsOf_8 (by decide) (fun hc8 => ?_) (fun hc8 => ?_)
  · refine r_iconst C dX8_partsOf_17 (by decide) ?_
    exact r_iret C dX8_partsOf_18 (by decide) (by decide) (⟨some_I (by unfold nd; first | (have hq8 := zb_n0.mp hc8; rw [if_pos (by omega)]) | (rw [if_neg (by omega), if_pos (by omega)])), rfl⟩)
  · have hq8 := zb_0.mp hc8
    refine r_iload_n C dX8_partsOf_11 rfl ?_
    refine r_bipush C dX8_partsOf_12 (by decide) ?_
    refine r_icmp_ne (tgt := 19) C dX8_partsOf_14 (by decide) (fun hc14 => ?_) (fun hc14 => ?_)
    · refine r_iload_n C dX8_partsOf_19 rfl ?_
      refine r_bipush C dX8_partsOf_20 (by decide) ?_
      refine r_bipush C dX8_partsOf_22 (by decide) ?_
      refine r_cSi C dX8_partsOf_24 mlX8_66 kX8_in (n_in (v := s) (lo := 97) (hi := 104)) rfl rfl (Nat.le_of_ble_eq_true rfl) (fit hX (by decide)) ?_
      refine r_if_eq (tgt := 32) C dX8_partsOf_27 (by decide) (fun hc27 => ?_) (fun hc27 => ?_)
      · have hq27 := zb_0.mp hc27
        refine r_iload_n C dX8_partsOf_32 rfl ?_
        refine r_bipush C dX8_partsOf_33 (by decide) ?_
        refine r_icmp_eq (tgt := 56) C dX8_partsOf_35 (by decide) (fun hc35 => ?_) (fun hc35 => ?_)
        · refine r_iconst C dX8_partsOf_56 (by decide) ?_
          refine r_goto (tgt := 72) C dX8_partsOf_57 (by decide) ?_
          exact r_iret C dX8_partsOf_72 (by decide) (by decide) (⟨some_I (by unfold nd; (repeat' split) <;> omega), rfl⟩)
        · refine r_iload_n C dX8_partsOf_38 rfl ?_
          refine r_bipush C dX8_partsOf_39 (by decide) ?_
          refine r_icmp_eq (tgt := 56) C dX8_partsOf_41 (by decide) (fun hc41 => ?_) (fun hc41 => ?_)
          · refine r_iconst C dX8_partsOf_56 (by decide) ?_
            refine r_goto (tgt := 72) C dX8_partsOf_57 (by decide) ?_
            exact r_iret C dX8_partsOf_72 (by decide) (by decide) (⟨some_I (by unfold nd; (repeat' split) <;> omega), rfl⟩)
          · refine r_iload_n C dX8_partsOf_44 rfl ?_
            refine r_bipush C dX8_partsOf_45 (by decide) ?_
            refine r_icmp_eq (tgt := 56) C dX8_partsOf_47 (by decide) (fun hc47 => ?_) (fun hc47 => ?_)
            · refine r_iconst C dX8_partsOf_56 (by decide) ?_
              refine r_goto (tgt := 72) C dX8_partsOf_57 (by decide) ?_
              exact r_iret C dX8_partsOf_72 (by decide) (by decide) (⟨some_I (by unfold nd; (repeat' split) <;> omega), rfl⟩)
            · refine r_iload_n C dX8_partsOf_50 rfl ?_
              refine r_bipush C dX8_partsOf_51 (by decide) ?_
              refine r_icmp_ne (tgt := 60) C dX8_partsOf_53 (by decide) (fun hc53 => ?_) (fun hc53 => ?_)
              · refine r_iload_n C dX8_partsOf_60 rfl ?_
                refine r_bipush C dX8_partsOf_61 (by decide) ?_
                refine r_icmp_ne (tgt := 70) C dX8_partsOf_63 (by decide) (fun hc63 => ?_) (fun hc63 => ?_)
                · refine r_bipush C dX8_partsOf_70 (by decide) ?_
                  exact r_iret C dX8_partsOf_72 (by decide) (by decide) (⟨some_I (by unfold nd; (repeat' split) <;> omega), rfl⟩)
                · refine r_iconst C dX8_partsOf_66 (by decide) ?_
                  refine r_goto (tgt := 72) C dX8_partsOf_67 (by decide) ?_
                  exact r_iret C dX8_partsOf_72 (by decide) (by decide) (⟨some_I (by unfold nd; (repeat' split) <;> omega), rfl⟩)
              · refine r_iconst C dX8_partsOf_56 (by decide) ?_
                refine r_goto (tgt := 72) C dX8_partsOf_57 (by decide) ?_
                exact r_iret C dX8_partsOf_72 (by decide) (by decide) (⟨some_I (by unfold nd; (repeat' split) <;> omega), rfl⟩)
      · have hq27 := zb_n0.mp hc27
        refine r_iconst C dX8_partsOf_30 (by decide) ?_
        exact r_iret C dX8_partsOf_31 (by decide) (by decide) (⟨some_I (by unfold nd; rw [if_neg (by omega), if_neg (by omega), if_neg (by omega), if_neg (by omega), if_pos (by omega)]), rfl⟩)
    · refine r_iconst C dX8_partsOf_17 (by decide) ?_
      exact r_iret C dX8_partsOf_18 (by decide) (by decide) (⟨some_I (by unfold nd; first | (have hq8 := zb_n0.mp hc8; rw [if_pos (by omega)]) | (rw [if_neg (by omega), if_pos (by omega)])), rfl⟩)
theorem jn_1 {c a b : Int} (ha : 0 ≤ a ∧ a ≤ 999) (hb : 0 ≤ b ∧ b ≤ 999) : (a + 1000 - b) % 1000 = (a - b) % 1000 := by omega
theorem n_act {c a b : Int} (ha : 0 ≤ a ∧ a ≤ 999) (hb : 0 ≤ b ∧ b ≤ 999) : Meets yX8_act cX8_act 3 (some .int) 0 0 0 [vI c, vI a, vI b] h (pI (jn c a b) h) := by
  have hm := mul_rg ha hb
  refine Meets.of (plainFor_of_name (by decide)) (Nat.le_of_ble_eq_true rfl) (fun X C hX hN hA => ?_)
  refine r_iload_n C dX8_act_0 rfl ?_
  have hk : ¬ c = 43 → ¬ c = 45 → ¬ c = 42 → Go X (Qm X (pI (jn c a b) h) 0 0) 0 0 h 60 [some (vI c), some (vI a), some (vI b)] [] := by
    intro n1 n2 n3
    have hj : jn c a b = if b < a then b else a := by unfold jn; rw [if_neg n1, if_neg n2, if_neg n3]
    rw [hj]
    refine r_iload_n C dX8_act_60 rfl ?_
    refine r_iload_n C dX8_act_61 rfl ?_
    refine r_icmp_ge (tgt := 69) C dX8_act_62 (by decide) (fun hc62 => ?_) (fun hc62 => ?_)
    · refine r_iload_n C dX8_act_69 rfl ?_
      exact r_iret C dX8_act_70 (by decide) (by decide) ⟨some_I (by split <;> omega), rfl⟩
    · refine r_iload_n C dX8_act_65 rfl ?_
      refine r_goto (tgt := 70) C dX8_act_66 (by decide) ?_
      exact r_iret C dX8_act_70 (by decide) (by decide) ⟨some_I (by split <;> omega), rfl⟩
  rcases (show c = 42 ∨ c = 43 ∨ c = 44 ∨ c = 45 ∨ (c < 42 ∨ 45 < c) by omega) with rfl | rfl | rfl | rfl | hw
  · refine r_tableIn (off := 51) (tgt := 52) C dX8_act_1 (by decide) (by decide) rfl (by decide) ?_
    refine r_iload_n C dX8_act_52 rfl ?_
    refine r_iload_n C dX8_act_53 rfl ?_
    refine r_imul C dX8_act_54 (by omega) ?_
    refine r_sipush C dX8_act_55 (by decide) ?_
    refine r_irem C dX8_act_58 (by omega) ?_
    rw [bRem_nn (by omega) (by omega) (by omega) (by omega)]
    exact r_iret C dX8_act_59 (by decide) (by decide) ⟨rfl, rfl⟩
  · refine r_tableIn (off := 31) (tgt := 32) C dX8_act_1 (by decide) (by decide) rfl (by decide) ?_
    refine r_iload_n C dX8_act_32 rfl ?_
    refine r_iload_n C dX8_act_33 rfl ?_
    refine r_iadd C dX8_act_34 (by omega) ?_
    refine r_sipush C dX8_act_35 (by decide) ?_
    refine r_irem C dX8_act_38 (by omega) ?_
    rw [bRem_nn (by omega) (by omega) (by omega) (by omega)]
    exact r_iret C dX8_act_39 (by decide) (by decide) ⟨rfl, rfl⟩
  · refine r_tableIn (off := 59) (tgt := 60) C dX8_act_1 (by decide) (by decide) rfl (by decide) ?_
    exact hk (by decide) (by decide) (by decide)
  · refine r_tableIn (off := 39) (tgt := 40) C dX8_act_1 (by decide) (by decide) rfl (by decide) ?_
    refine r_iload_n C dX8_act_40 rfl ?_
    refine r_sipush C dX8_act_41 (by decide) ?_
    refine r_iadd C dX8_act_44 (by omega) ?_
    refine r_iload_n C dX8_act_45 rfl ?_
    refine r_isub C dX8_act_46 (by omega) ?_
    refine r_sipush C dX8_act_47 (by decide) ?_
    refine r_irem C dX8_act_50 (by omega) ?_
    rw [bRem_nn (by omega) (by omega) (by omega) (by omega)]
    exact r_iret C dX8_act_51 (by decide) (by decide) ⟨some_I (jn_1 (c := 0) ha hb), rfl⟩
  · refine r_tableOut (tgt := 60) C dX8_act_1 hw (by decide) ?_
    exact hk (by omega) (by omega) (by omega)
/-- what the model makes of a sign by a slip -/
def slM (s : Int) : Int := if 48 ≤ s ∧ s ≤ 57 then (if s = 57 then 48 else s + 1) else if s = 120 then 48 else if s = 43 then 45 else 43
theorem n_slipped {s : Int} (hs : -1000 ≤ s ∧ s ≤ 1000) : Meets yX8_slipped cX8_slipped 1 (some .int) 1 0 0 [vI s] h (pI (slM s) h) := by
  refine Meets.of (plainFor_of_name (by decide)) (Nat.le_of_ble_eq_true rfl) (fun X C hX hN hA => ?_)
  refine r_iload_n C dX8_slipped_0 rfl ?_
  refine r_bipush C dX8_slipped_1 (by decide) ?_
  refine r_bipush C dX8_slipped_3 (by decide) ?_
  refine r_cSi C dX8_slipped_5 mlX8_66 kX8_in (n_in (v := s) (lo := 48) (hi := 57)) rfl rfl (Nat.le_of_ble_eq_true rfl) (fit hX (by decide)) ?_
  refine r_if_eq (tgt := 26) C dX8_slipped_8 (by decide) (fun hc8 => ?_) (fun hc8 => ?_)
  · have hq8 := zb_0.mp hc8
    refine r_iload_n C dX8_slipped_26 rfl ?_
    refine r_bipush C dX8_slipped_27 (by decide) ?_
    refine r_icmp_ne (tgt := 37) C dX8_slipped_29 (by decide) (fun hc29 => ?_) (fun hc29 => ?_)
    · refine r_iload_n C dX8_slipped_37 rfl ?_
      refine r_bipush C dX8_slipped_38 (by decide) ?_
      refine r_icmp_ne (tgt := 48) C dX8_slipped_40 (by decide) (fun hc40 => ?_) (fun hc40 => ?_)
      · refine r_bipush C dX8_slipped_48 (by decide) ?_
        exact r_iret C dX8_slipped_50 (by decide) (by decide) (⟨some_I (by unfold slM; (repeat' split) <;> omega), rfl⟩)
      · refine r_bipush C dX8_slipped_43 (by decide) ?_
        refine r_goto (tgt := 50) C dX8_slipped_45 (by decide) ?_
        exact r_iret C dX8_slipped_50 (by decide) (by decide) (⟨some_I (by unfold slM; (repeat' split) <;> omega), rfl⟩)
    · refine r_bipush C dX8_slipped_32 (by decide) ?_
      refine r_goto (tgt := 50) C dX8_slipped_34 (by decide) ?_
      exact r_iret C dX8_slipped_50 (by decide) (by decide) (⟨some_I (by unfold slM; (repeat' split) <;> omega), rfl⟩)
  · have hq8 := zb_n0.mp hc8
    refine r_iload_n C dX8_slipped_11 rfl ?_
    refine r_bipush C dX8_slipped_12 (by decide) ?_
    refine r_icmp_ne (tgt := 22) C dX8_slipped_14 (by decide) (fun hc14 => ?_) (fun hc14 => ?_)
    · refine r_iload_n C dX8_slipped_22 rfl ?_
      refine r_iconst C dX8_slipped_23 (by decide) ?_
      refine r_iadd C dX8_slipped_24 (by omega) ?_
      exact r_iret C dX8_slipped_25 (by decide) (by decide) (⟨some_I (by unfold slM; (repeat' split) <;> omega), rfl⟩)
    · refine r_bipush C dX8_slipped_17 (by decide) ?_
      refine r_goto (tgt := 25) C dX8_slipped_19 (by decide) ?_
      exact r_iret C dX8_slipped_25 (by decide) (by decide) (⟨some_I (by unfold slM; (repeat' split) <;> omega), rfl⟩)
end
