/-! more of numbers by their bits; the fewest words that mend -/
theorem tb_lt {x : Int} {n : Nat} (hx : Rg x) (hn : n ≤ 31) (h : ∀ i, n ≤ i → i < 32 → tb x i = false) : 0 ≤ x ∧ x < ((2 ^ n : Nat) : Int) := by
  have hb : (Int32.ofInt x).toBitVec.toInt = x := o_toInt hx
  have hlt : (Int32.ofInt x).toBitVec.toNat < 2 ^ n := Nat.lt_pow_two_of_testBit _ (fun i hi => by
    by_cases h32 : i < 32
    · exact h i hi h32
    · exact BitVec.getLsbD_of_ge _ _ (by omega))
  have hle : 2 ^ n ≤ 2 ^ 31 := Nat.pow_le_pow_right (by omega) hn
  rw [BitVec.toInt_eq_toNat_of_lt (by omega)] at hb
  omega
theorem and_rng {x : Int} (y : Int) (h0 : 0 ≤ x) (hx : Rg x) : 0 ≤ bAnd x y ∧ bAnd x y ≤ x := by
  have hb : (Int32.ofInt x).toBitVec.toInt = x := o_toInt hx
  have e : bAnd x y = ((Int32.ofInt x).toBitVec &&& (Int32.ofInt y).toBitVec).toInt := by
    unfold bAnd
    rw [← Int32.toBitVec_and]
    rfl
  have hle : ((Int32.ofInt x).toBitVec &&& (Int32.ofInt y).toBitVec).toNat ≤ (Int32.ofInt x).toBitVec.toNat := by
    rw [BitVec.toNat_and]
    exact Nat.and_le_left
  have hlt := (Int32.ofInt x).toBitVec.isLt
  rw [e]
  rw [BitVec.toInt_eq_toNat_cond] at hb ⊢
  split at hb <;> split <;> omega
theorem cntN_mono {x y : Int} (h : ∀ i, i < 32 → tb x i = true → tb y i = true) : ∀ k : Nat, k ≤ 32 → cntN k x ≤ cntN k y := by
  intro k
  induction k with
  | zero => intro _; exact Int.le_refl _
  | succ k ih =>
    intro hk
    have := ih (by omega)
    show cntN k x + bAnd (bShr x k) 1 ≤ cntN k y + bAnd (bShr y k) 1
    rw [tb_bit (by omega), tb_bit (by omega)]
    have hh := h k (by omega)
    cases h1 : tb x k with
    | false => cases h2 : tb y k <;> simp <;> omega
    | true => rw [hh h1]; simp; omega
theorem cnt_mono {x y : Int} (h : ∀ i, i < 32 → tb x i = true → tb y i = true) : cnt x ≤ cnt y := cntN_mono h 12 (by omega)
theorem cntN_lt {x y : Int} {m : Nat} (h : ∀ i, i < 32 → tb x i = true → tb y i = true) (hx : tb x m = false) (hy : tb y m = true) : ∀ k : Nat, k ≤ 32 → m < k → cntN k x < cntN k y := by
  intro k
  induction k with
  | zero => intro _ q; exact absurd q (by omega)
  | succ k ih =>
    intro hk hm
    show cntN k x + bAnd (bShr x k) 1 < cntN k y + bAnd (bShr y k) 1
    rw [tb_bit (by omega), tb_bit (by omega)]
    by_cases hmk : m = k
    · subst hmk
      have := cntN_mono h m (by omega)
      rw [hx, hy]; simp; omega
    · have := ih (by omega) (by omega)
      have hh := h k (by omega)
      cases h1 : tb x k with
      | false => cases h2 : tb y k <;> simp <;> omega
      | true => rw [hh h1]; simp; omega
theorem cnt_lt {x y : Int} {m : Nat} (h : ∀ i, i < 32 → tb x i = true → tb y i = true) (hm : m < 12) (hx : tb x m = false) (hy : tb y m = true) : cnt x < cnt y := cntN_lt h hx hy 12 (by omega) hm
theorem cntN_rng (x : Int) : ∀ k : Nat, k ≤ 32 → 0 ≤ cntN k x ∧ cntN k x ≤ k := by
  intro k
  induction k with
  | zero => intro _; exact ⟨Int.le_refl _, Int.le_refl _⟩
  | succ k ih =>
    intro hk
    have := ih (by omega)
    show 0 ≤ cntN k x + bAnd (bShr x k) 1 ∧ cntN k x + bAnd (bShr x k) 1 ≤ _
    rw [tb_bit (by omega)]
    cases tb x k <;> simp <;> omega
theorem cnt_rng (x : Int) : 0 ≤ cnt x ∧ cnt x ≤ 12 := cntN_rng x 12 (by omega)
theorem cnt_0 : cnt 0 = 0 := by decide +kernel
theorem nmN_rg (f : Int → Int) : ∀ j : Nat, Rg (nmN f j) := by
  intro j
  induction j with
  | zero => show Rg 0; omega
  | succ j ih => unfold nmN; split; exact b_rg _; exact ih
theorem nmN_hi (f : Int → Int) : ∀ (j i : Nat), 8 ≤ i → i < 32 → tb (nmN f j) i = false := by
  intro j
  induction j with
  | zero => intro i _ _; exact tb_0 i
  | succ j ih =>
    intro i h8 hi
    unfold nmN
    split
    · rename_i hw
      have hw' : 97 ≤ f j ∧ f j < 105 := hw
      rw [tb_or, ih i h8 hi]
      obtain ⟨k, hk⟩ := Int.eq_ofNat_of_zero_le (show 0 ≤ f j - 97 by omega)
      rw [hk, tb_shl (by omega) hi]
      simp; omega
    · exact ih i h8 hi
theorem nmd_rng (n : Int) (f : Int → Int) : 0 ≤ nmd n f ∧ nmd n f < 256 := tb_lt (n := 8) (nmN_rg f _) (by omega) (fun i h1 h2 => nmN_hi f _ i h1 h2)
/-- over the sets 1 to j: the first of the fewest that does, and how many; -5 and 9, if none does -/
noncomputable def blN (P : Int → Prop) : Nat → Int × Int
  | 0 => (-5, 9)
  | j + 1 => by classical exact if cnt ((j : Int) + 1) < (blN P j).2 ∧ P ((j : Int) + 1) then ((j : Int) + 1, cnt ((j : Int) + 1)) else blN P j
theorem blN_t {P : Int → Prop} {j : Nat} (h : cnt ((j : Int) + 1) < (blN P j).2 ∧ P ((j : Int) + 1)) : blN P (j + 1) = ((j : Int) + 1, cnt ((j : Int) + 1)) := by
  conv => lhs; unfold blN
  exact if_pos h
theorem blN_f {P : Int → Prop} {j : Nat} (h : ¬ (cnt ((j : Int) + 1) < (blN P j).2 ∧ P ((j : Int) + 1))) : blN P (j + 1) = blN P j := by
  conv => lhs; unfold blN
  exact if_neg h
theorem blN_le {P : Int → Prop} : ∀ (j : Nat) (s : Int), 1 ≤ s → s ≤ j → P s → (blN P j).2 ≤ cnt s := by
  intro j
  induction j with
  | zero => intro s h1 h2; exact absurd h1 (by omega)
  | succ j ih =>
    intro s h1 h2 hp
    by_cases hc : cnt ((j : Int) + 1) < (blN P j).2 ∧ P ((j : Int) + 1)
    · rw [blN_t hc]
      show cnt ((j : Int) + 1) ≤ cnt s
      by_cases hs : s = (j : Int) + 1
      · rw [hs]; exact Int.le_refl _
      · have := ih s h1 (by omega) hp
        omega
    · rw [blN_f hc]
      by_cases hs : s = (j : Int) + 1
      · rw [← hs] at hc
        exact Classical.byContradiction (fun q => hc ⟨by omega, hp⟩)
      · exact ih s h1 (by omega) hp
theorem blN_eq {P S : Int → Prop} (h : ∀ s, 1 ≤ s → s < 256 → P s → ¬ S s → ∃ s', 1 ≤ s' ∧ s' < s ∧ cnt s' ≤ cnt s ∧ P s') : ∀ j : Nat, j ≤ 255 → blN (fun s => S s ∧ P s) j = blN P j := by
  intro j
  induction j with
  | zero => intro _; rfl
  | succ j ih =>
    intro hj
    have ihj := ih (by omega)
    by_cases hc : cnt ((j : Int) + 1) < (blN P j).2 ∧ P ((j : Int) + 1)
    · by_cases hS : S ((j : Int) + 1)
      · rw [blN_t hc]
        exact blN_t (P := fun s => S s ∧ P s) ⟨by rw [ihj]; exact hc.1, hS, hc.2⟩
      · obtain ⟨s', a1, a2, a3, a4⟩ := h ((j : Int) + 1) (by omega) (by omega) hc.2 hS
        have := blN_le j s' a1 (by omega) a4
        omega
    · rw [blN_f hc, blN_f (P := fun s => S s ∧ P s) (fun q => hc ⟨by rw [← ihj]; exact q.1, q.2.2⟩)]
      exact ihj
