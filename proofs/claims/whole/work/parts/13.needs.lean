/-! Needs: sets of which one each is needed -/
theorem zb_n0 {p : Prop} : ¬ zb p = 0 ↔ p := by
  rw [zb_0, Classical.not_not]
def NeR (h : Pic) (a b : Nat) (c : Int) (f : Int → Int) : Prop := h a = some (ob 40 1 [vR b, vI c]) ∧ h b = some (ia 41 0 320 f) ∧ 0 ≤ c ∧ c ≤ 320
theorem m_Nclear {h : Pic} {a b : Nat} {c : Int} {f : Int → Int} (hn : NeR h a b c f) : Meets yX1_clear cX1_clear 1 none 0 0 0 [vR a] h (pV (fun h' => NeR h' a b 0 f ∧ Off [a, b] h h')) := by
  obtain ⟨hs, ha, h0, h1⟩ := hn
  have hab := ne_of hs ha (fun q => by cases q)
  refine Meets.of (plainFor_of_name (by decide)) (Nat.le_of_ble_eq_true rfl) (fun X C hX hN hA => ?_)
  refine r_aload_n C dX1_clear_0 rfl ?_
  refine r_iconst C dX1_clear_1 (by decide) ?_
  refine r_put C dX1_clear_2 flX1_15 hs rfl rfl ?_
  exact r_vret C dX1_clear_5 (by decide) (by decide) ⟨rfl, ⟨pu_s, (pu_n hab.symm).trans ha, by omega, by omega⟩, Off.rf.put (by simp)⟩
/-- one of the first c sets lies within the set -/
def hasIn (c : Int) (f : Int → Int) (s : Int) : Prop := ∃ i, 0 ≤ i ∧ i < c ∧ bAnd (f i) (bXor s (-1)) = 0
theorem m_Nadd {h : Pic} {a b : Nat} {c s : Int} {f : Int → Int} (hn : NeR h a b c f) (hc : c < 320) : Meets yX1_add cX1_add 3 none 0 0 0 [vR a, vI s] h (pV (fun h' => ∃ c' f', NeR h' a b c' f' ∧ Off [a, b] h h' ∧ ((s = 0 ∨ hasIn c f s) → c' = c ∧ f' = f) ∧ (¬ s = 0 → ¬ hasIn c f s → c' = c + 1 ∧ f' = fu f c s))) := by
  obtain ⟨hs, ha, h0, h1⟩ := id hn
  have hab := ne_of hs ha (fun q => by cases q)
  have hs2 : pu h b (ia 41 0 320 (fu f c s)) a = some (ob 40 1 [vR b, vI c]) := (pu_n hab).trans hs
  refine Meets.of (plainFor_of_name (by decide)) (Nat.le_of_ble_eq_true rfl) (fun X C hX hN hA => ?_)
  have loop : ¬ s = 0 → ∀ (j : Nat) (i : Int), 0 ≤ i → i ≤ c → c - i < j → (∀ q, 0 ≤ q → q < i → ¬ bAnd (f q) (bXor s (-1)) = 0) → Go X (Qm X (pV (fun h' => ∃ c' f', NeR h' a b c' f' ∧ Off [a, b] h h' ∧ ((s = 0 ∨ hasIn c f s) → c' = c ∧ f' = f) ∧ (¬ s = 0 → ¬ hasIn c f s → c' = c + 1 ∧ f' = fu f c s))) 0 0) 0 0 h 7 [some (vR a), some (vI s), some (vI i)] [] := by
    intro hz j
    induction j with
    | zero => intro i h3 h4 h5; exact absurd h5 (by omega)
    | succ j ih =>
      intro i h3 h4 h5 h6
      refine r_iload_n C dX1_add_7 rfl ?_
      refine r_aload_n C dX1_add_8 rfl ?_
      refine r_get C dX1_add_9 flX1_15 hs rfl ?_
      refine r_icmp_ge (tgt := 35) C dX1_add_12 (by decide) (fun hc12 => ?_) (fun hc12 => ?_)
      · refine r_aload_n C dX1_add_35 rfl ?_
        refine r_get C dX1_add_36 flX1_15 hs rfl ?_
        refine r_aload_n C dX1_add_39 rfl ?_
        refine r_get C dX1_add_40 flX1_9 hs rfl ?_
        refine r_alen C dX1_add_43 ha ?_
        refine r_icmp_ge (tgt := 67) C dX1_add_44 (by decide) (fun hc44 => ?_) (fun hc44 => ?_)
        · exact absurd hc44 (by omega)
        · refine r_aload_n C dX1_add_47 rfl ?_
          refine r_get C dX1_add_48 flX1_9 hs rfl ?_
          refine r_aload_n C dX1_add_51 rfl ?_
          refine r_get C dX1_add_52 flX1_15 hs rfl ?_
          refine r_iload_n C dX1_add_55 rfl ?_
          refine r_iast C dX1_add_56 ha (by omega) (by omega) ?_
          refine r_aload_n C dX1_add_57 rfl ?_
          refine r_dup C dX1_add_58 ?_
          refine r_get C dX1_add_59 flX1_15 hs2 rfl ?_
          refine r_iconst C dX1_add_62 (by decide) ?_
          refine r_iadd C dX1_add_63 (by omega) ?_
          refine r_put C dX1_add_64 flX1_15 hs2 rfl rfl ?_
          refine r_vret C dX1_add_67 (by decide) (by decide) ⟨rfl, c + 1, fu f c s, ⟨pu_s, (pu_n hab.symm).trans pu_s, by omega, by omega⟩, (Off.rf.put (by simp)).put (by simp), fun q => ?_, fun _ _ => ⟨rfl, rfl⟩⟩
          rcases q with q | ⟨i2, q1, q2, q3⟩
          · exact absurd q hz
          · exact absurd q3 (h6 i2 q1 (by omega))
      · refine r_aload_n C dX1_add_15 rfl ?_
        refine r_get C dX1_add_16 flX1_9 hs rfl ?_
        refine r_iload_n C dX1_add_19 rfl ?_
        refine r_iald C dX1_add_20 ha (by omega) (by omega) ?_
        refine r_iload_n C dX1_add_21 rfl ?_
        refine r_iconst C dX1_add_22 (by decide) ?_
        refine r_ixor C dX1_add_23 ?_
        refine r_iand C dX1_add_24 ?_
        refine r_if_ne (tgt := 29) C dX1_add_25 (by decide) (fun hc25 => ?_) (fun hc25 => ?_)
        · refine r_iinc C dX1_add_29 rfl (by decide) (by omega) ?_
          refine r_goto (tgt := 7) C dX1_add_32 (by decide) ?_
          exact ih (i + 1) (by omega) (by omega) (by omega) (fun q q1 q2 => by rcases (show q < i ∨ q = i by omega) with q3 | rfl; exact h6 q q1 q3; exact hc25)
        · exact r_vret C dX1_add_28 (by decide) (by decide) ⟨rfl, c, f, hn, Off.rf, fun _ => ⟨rfl, rfl⟩, fun _ q => absurd ⟨i, by omega, by omega, hc25⟩ q⟩
  refine r_iload_n C dX1_add_0 rfl ?_
  refine r_if_ne (tgt := 5) C dX1_add_1 (by decide) (fun hc1 => ?_) (fun hc1 => ?_)
  · refine r_iconst C dX1_add_5 (by decide) ?_
    refine r_istore_n C dX1_add_6 (by decide) ?_
    exact loop hc1 (c.toNat + 1) 0 (by omega) (by omega) (by omega) (fun q q1 q2 => by omega)
  · exact r_vret C dX1_add_4 (by decide) (by decide) ⟨rfl, c, f, hn, Off.rf, fun _ => ⟨rfl, rfl⟩, fun q => absurd hc1 q⟩
/-- a set meets each of the first c sets -/
def meetsAll (c : Int) (f : Int → Int) (s : Int) : Prop := ∀ i, 0 ≤ i → i < c → ¬ bAnd (f i) s = 0
theorem m_isEnough {h : Pic} {a b : Nat} {c s : Int} {f : Int → Int} (hn : NeR h a b c f) : Meets yX1_isEnough cX1_isEnough 3 (some .boolean) 0 0 0 [vR a, vI s] h (pI (zb (meetsAll c f s)) h) := by
  obtain ⟨hs, ha, h0, h1⟩ := id hn
  refine Meets.of (plainFor_of_name (by decide)) (Nat.le_of_ble_eq_true rfl) (fun X C hX hN hA => ?_)
  have loop : ∀ (j : Nat) (i : Int), 0 ≤ i → i ≤ c → c - i < j → (∀ q, 0 ≤ q → q < i → ¬ bAnd (f q) s = 0) → Go X (Qm X (pI (zb (meetsAll c f s)) h) 0 0) 0 0 h 2 [some (vR a), some (vI s), some (vI i)] [] := by
    intro j
    induction j with
    | zero => intro i h3 h4 h5; exact absurd h5 (by omega)
    | succ j ih =>
      intro i h3 h4 h5 h6
      refine r_iload_n C dX1_isEnough_2 rfl ?_
      refine r_aload_n C dX1_isEnough_3 rfl ?_
      refine r_get C dX1_isEnough_4 flX1_15 hs rfl ?_
      refine r_icmp_ge (tgt := 29) C dX1_isEnough_7 (by decide) (fun hc7 => ?_) (fun hc7 => ?_)
      · refine r_iconst C dX1_isEnough_29 (by decide) ?_
        exact r_zret C dX1_isEnough_30 (by omega) (by decide) (by decide) (⟨some_I (zb_t (fun q q1 q2 => h6 q q1 (by omega))).symm, rfl⟩)
      · refine r_aload_n C dX1_isEnough_10 rfl ?_
        refine r_get C dX1_isEnough_11 flX1_9 hs rfl ?_
        refine r_iload_n C dX1_isEnough_14 rfl ?_
        refine r_iald C dX1_isEnough_15 ha (by omega) (by omega) ?_
        refine r_iload_n C dX1_isEnough_16 rfl ?_
        refine r_iand C dX1_isEnough_17 ?_
        refine r_if_ne (tgt := 23) C dX1_isEnough_18 (by decide) (fun hc18 => ?_) (fun hc18 => ?_)
        · refine r_iinc C dX1_isEnough_23 rfl (by decide) (by omega) ?_
          refine r_goto (tgt := 2) C dX1_isEnough_26 (by decide) ?_
          exact ih (i + 1) (by omega) (by omega) (by omega) (fun q q1 q2 => by rcases (show q < i ∨ q = i by omega) with q3 | rfl; exact h6 q q1 q3; exact hc18)
        · refine r_iconst C dX1_isEnough_21 (by decide) ?_
          exact r_zret C dX1_isEnough_22 (by omega) (by decide) (by decide) (⟨some_I (zb_f (fun q => q i (by omega) (by omega) hc18)).symm, rfl⟩)
  refine r_iconst C dX1_isEnough_0 (by decide) ?_
  refine r_istore_n C dX1_isEnough_1 (by decide) ?_
  exact loop (c.toNat + 1) 0 (by omega) (by omega) (by omega) (fun q q1 q2 => by omega)
/-- the fewest, of several the least: over the sets 0 to j - 1, with all of them as what is left -/
noncomputable def fwN (P : Int → Prop) (pg : Nat) : Nat → Int × Int
  | 0 => (2 ^ pg - 1, pg)
  | j + 1 => by classical exact if cnt j < (fwN P pg j).2 ∧ P j then ((j : Int), cnt j) else fwN P pg j
noncomputable def fw (P : Int → Prop) (pg : Nat) : Int := (fwN P pg (2 ^ pg)).1
theorem fwN_t {P : Int → Prop} {pg j : Nat} (h : cnt j < (fwN P pg j).2 ∧ P j) : fwN P pg (j + 1) = ((j : Int), cnt j) := by
  unfold fwN
  exact if_pos h
theorem fwN_f {P : Int → Prop} {pg j : Nat} (h : ¬ (cnt j < (fwN P pg j).2 ∧ P j)) : fwN P pg (j + 1) = fwN P pg j := by
  conv => lhs; unfold fwN
  exact if_neg h
theorem shl_all : (List.range 13).all (fun j => decide (bShl 1 (j : Int) = 2 ^ j)) = true := by decide +kernel
theorem shl_pow {j : Nat} (h : j ≤ 12) : bShl 1 (j : Int) = 2 ^ j := of_decide_eq_true (List.all_eq_true.mp shl_all j (List.mem_range.mpr (by omega)))
theorem pow_le {j : Nat} (h : j ≤ 12) : (1 : Int) ≤ 2 ^ j ∧ (2 : Int) ^ j ≤ 4096 := by
  have h1 : (2 : Nat) ^ j ≤ 2 ^ 12 := Nat.pow_le_pow_right (by omega) h
  have h2 : 0 < (2 : Nat) ^ j := Nat.pow_pos (by omega)
  have e : (2 : Int) ^ j = ((2 ^ j : Nat) : Int) := by simp
  rw [e]
  omega
theorem m_Nfewest {h : Pic} {a b pg : Nat} {c : Int} {f : Int → Int} (hn : NeR h a b c f) (hpg : pg ≤ 12) : Meets yX1_fewest cX1_fewest 6 (some .int) 1 0 0 [vR a, vI pg] h (pI (fw (meetsAll c f) pg) h) := by
  obtain ⟨hs, ha, h0, h1⟩ := id hn
  have hp := pow_le hpg
  have hp2 : ((2 ^ pg : Nat) : Int) = 2 ^ pg := by simp
  refine Meets.of (plainFor_of_name (by decide)) (Nat.le_of_ble_eq_true rfl) (fun X C hX hN hA => ?_)
  have loop : ∀ (j : Nat) (i : Nat) (o : Option Va), i ≤ 2 ^ pg → 2 ^ pg - i < j → Go X (Qm X (pI (fw (meetsAll c f) pg) h) 0 0) 0 0 h 11 [some (vR a), some (vI pg), some (vI (fwN (meetsAll c f) pg i).1), some (vI (fwN (meetsAll c f) pg i).2), some (vI i), o] [] := by
    intro j
    induction j with
    | zero => intro i o h3 h4; exact absurd h4 (by omega)
    | succ j ih =>
      intro i o h3 h4
      refine r_iload C dX1_fewest_11 rfl ?_
      refine r_iconst C dX1_fewest_13 (by decide) ?_
      refine r_iload_n C dX1_fewest_14 rfl ?_
      refine r_ishl C dX1_fewest_15 ?_
      rw [shl_pow hpg]
      refine r_icmp_ge (tgt := 53) C dX1_fewest_16 (by decide) (fun hc16 => ?_) (fun hc16 => ?_)
      · refine r_iload_n C dX1_fewest_53 rfl ?_
        exact r_iret C dX1_fewest_54 (by decide) (by decide) ⟨some_I (by unfold fw; rw [show i = 2 ^ pg by omega]), rfl⟩
      · refine r_iload C dX1_fewest_19 rfl ?_
        refine r_cSi C dX1_fewest_21 mlX1_19 kJ6_bitCount_0f7a4 (m_bitCount (x := i) (by omega) (by omega)) rfl rfl (Nat.le_of_ble_eq_true rfl) (fit hX (by decide)) ?_
        refine r_istore C dX1_fewest_24 (by decide) ?_
        refine r_iload C dX1_fewest_26 rfl ?_
        refine r_iload_n C dX1_fewest_28 rfl ?_
        refine r_icmp_ge (tgt := 47) C dX1_fewest_29 (by decide) (fun hc29 => ?_) (fun hc29 => ?_)
        · refine r_iinc C dX1_fewest_47 rfl (by decide) (by omega) ?_
          refine r_goto (tgt := 11) C dX1_fewest_50 (by decide) ?_
          have hz := ih (i + 1) (some (vI (cnt i))) (by omega) (by omega)
          first | (rw [fwN_f (fun q => absurd q.1 (by omega))] at hz; exact hz) | (rw [fwN_f (fun q => (zb_0.mp hc38) q.2)] at hz; exact hz) | (rw [fwN_t ⟨by omega, zb_n0.mp hc38⟩] at hz; exact hz)
        · refine r_aload_n C dX1_fewest_32 rfl ?_
          refine r_iload C dX1_fewest_33 rfl ?_
          refine r_cVi C dX1_fewest_35 mlX1_25 kX1_isEnough (m_isEnough (s := i) hn) hs rfl rfl rfl (Nat.le_of_ble_eq_true rfl) (fit hX (by decide)) ?_
          refine r_if_eq (tgt := 47) C dX1_fewest_38 (by decide) (fun hc38 => ?_) (fun hc38 => ?_)
          · refine r_iinc C dX1_fewest_47 rfl (by decide) (by omega) ?_
            refine r_goto (tgt := 11) C dX1_fewest_50 (by decide) ?_
            have hz := ih (i + 1) (some (vI (cnt i))) (by omega) (by omega)
            first | (rw [fwN_f (fun q => absurd q.1 (by omega))] at hz; exact hz) | (rw [fwN_f (fun q => (zb_0.mp hc38) q.2)] at hz; exact hz) | (rw [fwN_t ⟨by omega, zb_n0.mp hc38⟩] at hz; exact hz)
          · refine r_iload C dX1_fewest_41 rfl ?_
            refine r_istore_n C dX1_fewest_43 (by decide) ?_
            refine r_iload C dX1_fewest_44 rfl ?_
            refine r_istore_n C dX1_fewest_46 (by decide) ?_
            refine r_iinc C dX1_fewest_47 rfl (by decide) (by omega) ?_
            refine r_goto (tgt := 11) C dX1_fewest_50 (by decide) ?_
            have hz := ih (i + 1) (some (vI (cnt i))) (by omega) (by omega)
            first | (rw [fwN_f (fun q => absurd q.1 (by omega))] at hz; exact hz) | (rw [fwN_f (fun q => (zb_0.mp hc38) q.2)] at hz; exact hz) | (rw [fwN_t ⟨by omega, zb_n0.mp hc38⟩] at hz; exact hz)
  refine r_iconst C dX1_fewest_0 (by decide) ?_
  refine r_iload_n C dX1_fewest_1 rfl ?_
  refine r_ishl C dX1_fewest_2 ?_
  rw [shl_pow hpg]
  refine r_iconst C dX1_fewest_3 (by decide) ?_
  refine r_isub C dX1_fewest_4 (by omega) ?_
  refine r_istore_n C dX1_fewest_5 (by decide) ?_
  refine r_iload_n C dX1_fewest_6 rfl ?_
  refine r_istore_n C dX1_fewest_7 (by decide) ?_
  refine r_iconst C dX1_fewest_8 (by decide) ?_
  refine r_istore C dX1_fewest_9 (by decide) ?_
  exact loop (2 ^ pg + 1) 0 none (by omega) (by omega)
