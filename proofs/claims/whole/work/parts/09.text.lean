/-! Text: signs in a row -/
theorem ne_of {h : Pic} {a b : Nat} {o o' : Ob} (h1 : h a = some o) (h2 : h b = some o') (e : o = o' → False) : a ≠ b := fun q => e (by rw [q, h2] at h1; exact (Option.some.inj h1).symm)
abbrev Off (l : List Nat) (h h' : Pic) : Prop := ∀ q, q ∉ l → h' q = h q
theorem Off.rf {l : List Nat} {h : Pic} : Off l h h := fun _ _ => rfl
theorem Off.tr {l : List Nat} {h h' h'' : Pic} (x : Off l h h') (y : Off l h' h'') : Off l h h'' := fun q hq => (y q hq).trans (x q hq)
theorem Off.put {l : List Nat} {h h' : Pic} {a : Nat} {o : Ob} (x : Off l h h') (ha : a ∈ l) : Off l h (pu h' a o) := fun q hq => (pu_n (fun e : q = a => hq (by rw [e]; exact ha))).trans (x q hq)
theorem Off.sub {l l' : List Nat} {h h' : Pic} (x : Off l h h') (hs : ∀ q ∈ l, q ∈ l') : Off l' h h' := fun q hq => x q (fun z => hq (hs q z))
/-- a text that is read: n signs, as f has them -/
def TxR (h : Pic) (a : Nat) (n : Int) (f : Int → Int) : Prop := ∃ (b t t' : Nat) (m : Int) (g : Int → Int), h a = some (ob t 6 [vR b, vI n]) ∧ h b = some (ia t' 1 m g) ∧ 0 ≤ n ∧ n ≤ m ∧ n ≤ 40 ∧ ∀ i, 0 ≤ i → i < n → g i = f i ∧ 0 ≤ f i ∧ f i ≤ 126
def sgn (n : Int) (f : Int → Int) (p : Int) : Int := if 0 ≤ p ∧ p < n then f p else 0
theorem m_count {h : Pic} {a : Nat} {n : Int} {f : Int → Int} (ht : TxR h a n f) : Meets yX6_count cX6_count 1 (some .int) 0 0 0 [vR a] h (pI n h) := by
  obtain ⟨b, t, t', m, g, hs, ha, h0, h1, h40, hg⟩ := ht
  refine Meets.of (plainFor_of_name (by decide)) (Nat.le_of_ble_eq_true rfl) (fun X C hX hN hA => ?_)
  refine r_aload_n C dX6_count_0 rfl ?_
  refine r_get C dX6_count_1 flX6_21 hs rfl ?_
  exact r_iret C dX6_count_4 (by decide) (by decide) (⟨rfl, rfl⟩)
theorem m_sign {h : Pic} {a : Nat} {n p : Int} {f : Int → Int} (ht : TxR h a n f) : Meets yX6_sign cX6_sign 2 (some .int) 0 0 0 [vR a, vI p] h (pI (sgn n f p) h) := by
  obtain ⟨b, t, t', m, g, hs, ha, h0, h1, h40, hg⟩ := ht
  refine Meets.of (plainFor_of_name (by decide)) (Nat.le_of_ble_eq_true rfl) (fun X C hX hN hA => ?_)
  refine r_iload_n C dX6_sign_0 rfl ?_
  refine r_if_lt (tgt := 21) C dX6_sign_1 (by decide) (fun hc1 => ?_) (fun hc1 => ?_)
  · refine r_iconst C dX6_sign_21 (by decide) ?_
    exact r_iret C dX6_sign_22 (by decide) (by decide) (⟨some_I (by unfold sgn; first | (rw [if_neg (by omega)]; done) | (rw [if_pos (by omega)]; exact (hg _ (by omega) (by omega)).1)), rfl⟩)
  · refine r_iload_n C dX6_sign_4 rfl ?_
    refine r_aload_n C dX6_sign_5 rfl ?_
    refine r_get C dX6_sign_6 flX6_21 hs rfl ?_
    refine r_icmp_ge (tgt := 21) C dX6_sign_9 (by decide) (fun hc9 => ?_) (fun hc9 => ?_)
    · refine r_iconst C dX6_sign_21 (by decide) ?_
      exact r_iret C dX6_sign_22 (by decide) (by decide) (⟨some_I (by unfold sgn; first | (rw [if_neg (by omega)]; done) | (rw [if_pos (by omega)]; exact (hg _ (by omega) (by omega)).1)), rfl⟩)
    · refine r_aload_n C dX6_sign_12 rfl ?_
      refine r_get C dX6_sign_13 flX6_15 hs rfl ?_
      refine r_iload_n C dX6_sign_16 rfl ?_
      refine r_cald C dX6_sign_17 ha (by omega) (by omega) ?_
      refine r_goto (tgt := 22) C dX6_sign_18 (by decide) ?_
      exact r_iret C dX6_sign_22 (by decide) (by decide) (⟨some_I (by unfold sgn; first | (rw [if_neg (by omega)]; done) | (rw [if_pos (by omega)]; exact (hg _ (by omega) (by omega)).1)), rfl⟩)
theorem m_clear {h : Pic} {a b t : Nat} {n : Int} (hs : h a = some (ob t 6 [vR b, vI n])) : Meets yX6_clear cX6_clear 1 none 0 0 0 [vR a] h (pV (fun h' => h' = pu h a (ob t 6 [vR b, vI 0]))) := by
  refine Meets.of (plainFor_of_name (by decide)) (Nat.le_of_ble_eq_true rfl) (fun X C hX hN hA => ?_)
  refine r_aload_n C dX6_clear_0 rfl ?_
  refine r_iconst C dX6_clear_1 (by decide) ?_
  refine r_put C dX6_clear_2 flX6_21 hs rfl rfl ?_
  exact r_vret C dX6_clear_5 (by decide) (by decide) (⟨rfl, rfl⟩)
theorem m_add {h : Pic} {a b t t' : Nat} {n m c : Int} {g : Int → Int} (hs : h a = some (ob t 6 [vR b, vI n])) (ha : h b = some (ia t' 1 m g)) (h0 : 0 ≤ n) (h1 : n < m) (h2 : m ≤ 40) (hc : 0 ≤ c ∧ c ≤ 65535) : Meets yX6_add cX6_add 2 none 0 0 0 [vR a, vI c] h (pV (fun h' => h' = pu (pu h b (ia t' 1 m (fu g n c))) a (ob t 6 [vR b, vI (n + 1)]))) := by
  have hab := ne_of hs ha (fun q => by cases q)
  have hs2 : pu h b (ia t' 1 m (fu g n c)) a = some (ob t 6 [vR b, vI n]) := (pu_n hab).trans hs
  refine Meets.of (plainFor_of_name (by decide)) (Nat.le_of_ble_eq_true rfl) (fun X C hX hN hA => ?_)
  refine r_aload_n C dX6_add_0 rfl ?_
  refine r_get C dX6_add_1 flX6_21 hs rfl ?_
  refine r_aload_n C dX6_add_4 rfl ?_
  refine r_get C dX6_add_5 flX6_15 hs rfl ?_
  refine r_alen C dX6_add_8 ha ?_
  refine r_icmp_ge (tgt := 33) C dX6_add_9 (by decide) (fun hc9 => ?_) (fun hc9 => ?_)
  · first | exact absurd hc9 (by omega) | exact r_vret C dX6_add_33 (by decide) (by decide) ⟨rfl, rfl⟩
  · refine r_aload_n C dX6_add_12 rfl ?_
    refine r_get C dX6_add_13 flX6_15 hs rfl ?_
    refine r_aload_n C dX6_add_16 rfl ?_
    refine r_get C dX6_add_17 flX6_21 hs rfl ?_
    refine r_iload_n C dX6_add_20 rfl ?_
    refine r_i2c C dX6_add_21 (by omega) ?_
    refine r_cast C dX6_add_22 ha (by omega) (by omega) (by omega) ?_
    refine r_aload_n C dX6_add_23 rfl ?_
    refine r_dup C dX6_add_24 ?_
    refine r_get C dX6_add_25 flX6_21 hs2 rfl ?_
    refine r_iconst C dX6_add_28 (by decide) ?_
    refine r_iadd C dX6_add_29 (by omega) ?_
    refine r_put C dX6_add_30 flX6_21 hs2 rfl rfl ?_
    first | exact absurd hc9 (by omega) | exact r_vret C dX6_add_33 (by decide) (by decide) ⟨rfl, rfl⟩
theorem m_put {h : Pic} {a b t t' : Nat} {n m p c : Int} {g : Int → Int} (hs : h a = some (ob t 6 [vR b, vI n])) (ha : h b = some (ia t' 1 m g)) (h0 : 0 ≤ p) (hp : p < n) (h1 : n ≤ m) (hc : 0 ≤ c ∧ c ≤ 65535) : Meets yX6_put cX6_put 3 none 0 0 0 [vR a, vI p, vI c] h (pV (fun h' => h' = pu h b (ia t' 1 m (fu g p c)))) := by
  refine Meets.of (plainFor_of_name (by decide)) (Nat.le_of_ble_eq_true rfl) (fun X C hX hN hA => ?_)
  refine r_iload_n C dX6_put_0 rfl ?_
  refine r_if_lt (tgt := 20) C dX6_put_1 (by decide) (fun hc1 => ?_) (fun hc1 => ?_)
  · first | exact absurd hc1 (by omega) | exact absurd hc9 (by omega) | exact r_vret C dX6_put_20 (by decide) (by decide) ⟨rfl, rfl⟩
  · refine r_iload_n C dX6_put_4 rfl ?_
    refine r_aload_n C dX6_put_5 rfl ?_
    refine r_get C dX6_put_6 flX6_21 hs rfl ?_
    refine r_icmp_ge (tgt := 20) C dX6_put_9 (by decide) (fun hc9 => ?_) (fun hc9 => ?_)
    · first | exact absurd hc1 (by omega) | exact absurd hc9 (by omega) | exact r_vret C dX6_put_20 (by decide) (by decide) ⟨rfl, rfl⟩
    · refine r_aload_n C dX6_put_12 rfl ?_
      refine r_get C dX6_put_13 flX6_15 hs rfl ?_
      refine r_iload_n C dX6_put_16 rfl ?_
      refine r_iload_n C dX6_put_17 rfl ?_
      refine r_i2c C dX6_put_18 (by omega) ?_
      refine r_cast C dX6_put_19 ha (by omega) (by omega) (by omega) ?_
      first | exact absurd hc1 (by omega) | exact absurd hc9 (by omega) | exact r_vret C dX6_put_20 (by decide) (by decide) ⟨rfl, rfl⟩
theorem m_has {h : Pic} {a : Nat} {n c : Int} {f : Int → Int} (ht : TxR h a n f) : Meets yX6_has cX6_has 3 (some .boolean) 0 0 0 [vR a, vI c] h (pI (zb (∃ i, 0 ≤ i ∧ i < n ∧ f i = c)) h) := by
  obtain ⟨b, t, t', m, g, hs, ha, h0, h1, h40, hg⟩ := ht
  refine Meets.of (plainFor_of_name (by decide)) (Nat.le_of_ble_eq_true rfl) (fun X C hX hN hA => ?_)
  have loop : ∀ (j : Nat) (i : Int), 0 ≤ i → i ≤ n → n - i < j → (∀ q, 0 ≤ q → q < i → ¬ f q = c) → Go X (Qm X (pI (zb (∃ i, 0 ≤ i ∧ i < n ∧ f i = c)) h) 0 0) 0 0 h 2 [some (vR a), some (vI c), some (vI i)] [] := by
    intro j
    induction j with
    | zero => intro i h3 h4 h5; exact absurd h5 (by omega)
    | succ j ih =>
      intro i h3 h4 h5 h6
      refine r_iload_n C dX6_has_2 rfl ?_
      refine r_aload_n C dX6_has_3 rfl ?_
      refine r_get C dX6_has_4 flX6_21 hs rfl ?_
      refine r_icmp_ge (tgt := 28) C dX6_has_7 (by decide) (fun hc7 => ?_) (fun hc7 => ?_)
      · refine r_iconst C dX6_has_28 (by decide) ?_
        exact r_zret C dX6_has_29 (by omega) (by decide) (by decide) (⟨some_I (zb_f (fun ⟨q, q1, q2, q3⟩ => h6 q q1 (by omega) q3)).symm, rfl⟩)
      · refine r_aload_n C dX6_has_10 rfl ?_
        refine r_get C dX6_has_11 flX6_15 hs rfl ?_
        refine r_iload_n C dX6_has_14 rfl ?_
        refine r_cald C dX6_has_15 ha (by omega) (by omega) ?_
        have hgi := (hg i (by omega) (by omega)).1
        refine r_iload_n C dX6_has_16 rfl ?_
        refine r_icmp_ne (tgt := 22) C dX6_has_17 (by decide) (fun hc17 => ?_) (fun hc17 => ?_)
        · refine r_iinc C dX6_has_22 rfl (by decide) (by omega) ?_
          refine r_goto (tgt := 2) C dX6_has_25 (by decide) ?_
          exact ih (i + 1) (by omega) (by omega) (by omega) (fun q q1 q2 => by rcases (show q < i ∨ q = i by omega) with q3 | rfl; exact h6 q q1 q3; omega)
        · refine r_iconst C dX6_has_20 (by decide) ?_
          exact r_zret C dX6_has_21 (by omega) (by decide) (by decide) (⟨some_I (zb_t ⟨i, by omega, by omega, by omega⟩).symm, rfl⟩)
  refine r_iconst C dX6_has_0 (by decide) ?_
  refine r_istore_n C dX6_has_1 (by decide) ?_
  exact loop (n.toNat + 1) 0 (by omega) (by omega) (by omega) (fun q q1 q2 => by omega)
/-- the words in a text, as bits -/
def nmN (f : Int → Int) : Nat → Int
  | 0 => 0
  | j + 1 => if isW (f j) then bOr (nmN f j) (bShl 1 (f j - 97)) else nmN f j
def nmd (n : Int) (f : Int → Int) : Int := nmN f n.toNat
theorem nmN_s (f : Int → Int) {i : Int} (h : 0 ≤ i) : nmN f (i + 1).toNat = if isW (f i) then bOr (nmN f i.toNat) (bShl 1 (f i - 97)) else nmN f i.toNat := by
  have e : (i + 1).toNat = i.toNat + 1 := by omega
  have e2 : ((i.toNat : Nat) : Int) = i := by omega
  rw [e]
  show (if isW (f (i.toNat : Nat)) then _ else _) = _
  rw [e2]
theorem m_named {h : Pic} {a : Nat} {n : Int} {f : Int → Int} (ht : TxR h a n f) : Meets yX6_named cX6_named 3 (some .int) 1 0 0 [vR a] h (pI (nmd n f) h) := by
  obtain ⟨b, t, t', m, g, hs, ha, h0, h1, h40, hg⟩ := ht
  refine Meets.of (plainFor_of_name (by decide)) (Nat.le_of_ble_eq_true rfl) (fun X C hX hN hA => ?_)
  have loop : ∀ (j : Nat) (i : Int), 0 ≤ i → i ≤ n → n - i < j → Go X (Qm X (pI (nmd n f) h) 0 0) 0 0 h 4 [some (vR a), some (vI (nmN f i.toNat)), some (vI i)] [] := by
    intro j
    induction j with
    | zero => intro i h3 h4 h5; exact absurd h5 (by omega)
    | succ j ih =>
      intro i h3 h4 h5
      have hst := nmN_s f h3
      refine r_iload_n C dX6_named_4 rfl ?_
      refine r_aload_n C dX6_named_5 rfl ?_
      refine r_get C dX6_named_6 flX6_21 hs rfl ?_
      refine r_icmp_ge (tgt := 44) C dX6_named_9 (by decide) (fun hc9 => ?_) (fun hc9 => ?_)
      · refine r_iload_n C dX6_named_44 rfl ?_
        exact r_iret C dX6_named_45 (by decide) (by decide) ⟨some_I (by unfold nmd; rw [show i = n by omega]), rfl⟩
      · refine r_aload_n C dX6_named_12 rfl ?_
        refine r_get C dX6_named_13 flX6_15 hs rfl ?_
        refine r_iload_n C dX6_named_16 rfl ?_
        refine r_cald C dX6_named_17 ha (by omega) (by omega) ?_
        have hgi := hg i (by omega) (by omega)
        refine r_cSi C dX6_named_18 mlX6_38 kX4_isWord (m_SW (c := g i)) rfl rfl (Nat.le_of_ble_eq_true rfl) (fit hX (by decide)) ?_
        refine r_if_eq (tgt := 38) C dX6_named_21 (by decide) (fun hc21 => ?_) (fun hc21 => ?_)
        · refine r_iinc C dX6_named_38 rfl (by decide) (by omega) ?_
          refine r_goto (tgt := 4) C dX6_named_41 (by decide) ?_
          have hz := ih (i + 1) (by omega) (by omega) (by omega)
          rw [hst] at hz
          rw [hgi.1] at hc21
          first | (rw [zb_0] at hc21; rw [if_neg hc21] at hz; exact hz) | (rw [zb_0, Classical.not_not] at hc21; rw [if_pos hc21, ← hgi.1] at hz; exact hz)
        · refine r_iload_n C dX6_named_24 rfl ?_
          refine r_iconst C dX6_named_25 (by decide) ?_
          refine r_aload_n C dX6_named_26 rfl ?_
          refine r_get C dX6_named_27 flX6_15 hs rfl ?_
          refine r_iload_n C dX6_named_30 rfl ?_
          refine r_cald C dX6_named_31 ha (by omega) (by omega) ?_
          refine r_bipush C dX6_named_32 (by decide) ?_
          refine r_isub C dX6_named_34 (by omega) ?_
          refine r_ishl C dX6_named_35 ?_
          refine r_ior C dX6_named_36 ?_
          refine r_istore_n C dX6_named_37 (by decide) ?_
          refine r_iinc C dX6_named_38 rfl (by decide) (by omega) ?_
          refine r_goto (tgt := 4) C dX6_named_41 (by decide) ?_
          have hz := ih (i + 1) (by omega) (by omega) (by omega)
          rw [hst] at hz
          rw [hgi.1] at hc21
          first | (rw [zb_0] at hc21; rw [if_neg hc21] at hz; exact hz) | (rw [zb_0, Classical.not_not] at hc21; rw [if_pos hc21, ← hgi.1] at hz; exact hz)
  refine r_iconst C dX6_named_0 (by decide) ?_
  refine r_istore_n C dX6_named_1 (by decide) ?_
  refine r_iconst C dX6_named_2 (by decide) ?_
  refine r_istore_n C dX6_named_3 (by decide) ?_
  exact loop (n.toNat + 1) 0 (by omega) (by omega) (by omega)
