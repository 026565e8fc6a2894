/-! numbers by their bits -/
def tb (x : Int) (i : Nat) : Bool := (Int32.ofInt x).toBitVec.getLsbD i
theorem tb_ext {x y : Int} (hx : Rg x) (hy : Rg y) (h : ∀ i, i < 32 → tb x i = tb y i) : x = y := (o_eq hx hy).mp (Int32.toBitVec_inj.mp (BitVec.eq_of_getLsbD_eq (fun i hi => h i hi)))
theorem tb_or (x y : Int) (i : Nat) : tb (bOr x y) i = (tb x i || tb y i) := by
  unfold tb bOr
  rw [Int32.ofInt_toInt, Int32.toBitVec_or, BitVec.getLsbD_or]
theorem tb_and (x y : Int) (i : Nat) : tb (bAnd x y) i = (tb x i && tb y i) := by
  unfold tb bAnd
  rw [Int32.ofInt_toInt, Int32.toBitVec_and, BitVec.getLsbD_and]
theorem tb_xor (x y : Int) (i : Nat) : tb (bXor x y) i = (tb x i ^^ tb y i) := by
  unfold tb bXor
  rw [Int32.ofInt_toInt, Int32.toBitVec_xor, BitVec.getLsbD_xor]
theorem tb_m1 : ∀ i, i < 32 → tb (-1) i = true := by decide +kernel
theorem tb_0 (i : Nat) : tb 0 i = false := BitVec.getLsbD_zero
theorem tb_1a : ∀ i, i < 32 → tb 1 i = decide (i = 0) := by decide +kernel
theorem tb_sh_all : (List.range 32).all (fun j => (List.range 32).all (fun i => tb (bShl 1 (j : Int)) i == decide (i = j))) = true := by decide +kernel
theorem tb_shl {i j : Nat} (hj : j < 32) (hi : i < 32) : tb (bShl 1 (j : Int)) i = decide (i = j) := by
  have := List.all_eq_true.mp (List.all_eq_true.mp tb_sh_all j (List.mem_range.mpr hj)) i (List.mem_range.mpr hi)
  exact eq_of_beq this
theorem s_lm : ∀ n, n < 32 → ((nI n &&& 31).toBitVec.smod 32).toNat = n := by decide +kernel
theorem tb_shr {x : Int} {j i : Nat} (hj : j < 32) (hi : i < 32) : tb (bShr x (j : Int)) i = if j + i < 32 then tb x (j + i) else tb x 31 := by
  unfold tb bShr
  rw [Int32.ofInt_toInt, Int32.ofInt_eq_ofNat]
  show (Int32.ofInt x >>> (nI j &&& 31)).toBitVec.getLsbD i = _
  rw [Int32.toBitVec_shiftRight]
  show ((Int32.ofInt x).toBitVec.sshiftRight ((nI j &&& 31).toBitVec.smod 32).toNat).getLsbD i = _
  rw [s_lm j hj, BitVec.getLsbD_sshiftRight, BitVec.msb_eq_getLsbD_last]
  simp [hi]
/-- one bit, as the code asks for it -/
theorem tb_bit {x : Int} {j : Nat} (hj : j < 32) : bAnd (bShr x (j : Int)) 1 = if tb x j then 1 else 0 := by
  refine tb_ext (b_rg _) (by split <;> omega) (fun i hi => ?_)
  rw [tb_and, tb_shr hj hi, tb_1a i hi]
  by_cases h0 : i = 0
  · subst h0
    rw [if_pos (by omega)]
    cases tb x (j + 0) with
    | true => simp [tb_1a 0 (by omega)]
    | false => simp [tb_0]
  · have e : (decide (i = 0)) = false := by simpa using h0
    rw [e, Bool.and_false]
    split
    · rw [tb_1a i hi, e]
    · rw [tb_0]
theorem bit_1 {x j : Int} (h0 : 0 ≤ j) (h1 : j < 32) : bAnd (bShr x j) 1 = 1 ↔ tb x j.toNat = true := by
  obtain ⟨k, rfl⟩ := Int.eq_ofNat_of_zero_le h0
  rw [tb_bit (by omega)]
  show _ ↔ tb x k = true
  cases tb x k <;> simp
theorem bit_01 {x j : Int} (h0 : 0 ≤ j) (h1 : j < 32) : bAnd (bShr x j) 1 = 0 ∨ bAnd (bShr x j) 1 = 1 := by
  obtain ⟨k, rfl⟩ := Int.eq_ofNat_of_zero_le h0
  rw [tb_bit (by omega)]
  cases tb x k <;> simp
theorem tb_bitsN (P : Int → Prop) : ∀ (n i : Nat), n ≤ 31 → i < 32 → (tb (bitsN P n) i = true ↔ i < n ∧ P i) := by
  intro n
  induction n with
  | zero =>
    intro i _ _
    show tb 0 i = true ↔ _
    rw [tb_0]
    exact ⟨fun q => absurd q (by decide), fun q => absurd q.1 (by omega)⟩
  | succ n ih =>
    intro i hn hi
    have ihi := ih i (by omega) hi
    by_cases hp : P n
    · have e : bitsN P (n + 1) = bOr (bitsN P n) (bShl 1 n) := by
        conv => lhs; unfold bitsN
        exact if_pos hp
      rw [e, tb_or, tb_shl (by omega) hi, Bool.or_eq_true, ihi, decide_eq_true_iff]
      refine ⟨fun q => ?_, fun q => ?_⟩
      · rcases q with q | q
        · exact ⟨by omega, q.2⟩
        · subst q; exact ⟨by omega, hp⟩
      · by_cases hin : i = n
        · exact Or.inr hin
        · exact Or.inl ⟨by omega, q.2⟩
    · have e : bitsN P (n + 1) = bitsN P n := by
        conv => lhs; unfold bitsN
        exact if_neg hp
      rw [e, ihi]
      refine ⟨fun q => ⟨by omega, q.2⟩, fun q => ⟨?_, q.2⟩⟩
      by_cases hin : i = n
      · subst hin; exact absurd q.2 hp
      · omega
theorem tb_bt {P : Int → Prop} {n : Int} {i : Nat} (h1 : n ≤ 31) (hi : i < 32) : tb (bt P n) i = true ↔ (i : Int) < n ∧ P i := by
  unfold bt
  rw [tb_bitsN P n.toNat i (by omega) hi]
  refine ⟨fun q => ⟨by omega, q.2⟩, fun q => ⟨by omega, q.2⟩⟩
theorem bitsN_rg (P : Int → Prop) (n : Nat) : Rg (bitsN P n) := by
  cases n with
  | zero => show Rg 0; omega
  | succ n =>
    by_cases hp : P n
    · have e : bitsN P (n + 1) = bOr (bitsN P n) (bShl 1 n) := by
        conv => lhs; unfold bitsN
        exact if_pos hp
      rw [e]; exact b_rg _
    · have e : bitsN P (n + 1) = bitsN P n := by
        conv => lhs; unfold bitsN
        exact if_neg hp
      rw [e]; exact bitsN_rg P n
theorem bt_rg (P : Int → Prop) (n : Int) : Rg (bt P n) := bitsN_rg P _
theorem bt_congr {P P' : Int → Prop} {n : Int} (h : ∀ i, 0 ≤ i → i < n → (P i ↔ P' i)) : bt P n = bt P' n := by
  have key : ∀ m : Nat, (m : Int) ≤ n → bitsN P m = bitsN P' m := by
    intro m
    induction m with
    | zero => intro _; rfl
    | succ m ih =>
      intro hm
      have hi := h m (by omega) (by omega)
      have ihm := ih (by omega)
      conv => lhs; unfold bitsN
      conv => rhs; unfold bitsN
      by_cases hp : P m
      · rw [if_pos hp, if_pos (hi.mp hp), ihm]
      · rw [if_neg hp, if_neg (fun q => hp (hi.mpr q)), ihm]
  unfold bt
  by_cases hn : 0 ≤ n
  · exact key n.toNat (by omega)
  · rw [show n.toNat = 0 by omega]; rfl
theorem and_0 {x y : Int} : bAnd x y = 0 ↔ ∀ i, i < 32 → ¬ (tb x i = true ∧ tb y i = true) := by
  refine ⟨fun h i hi q => ?_, fun h => tb_ext (b_rg _) (by omega) (fun i hi => ?_)⟩
  · have := tb_and x y i
    rw [h, tb_0, q.1, q.2] at this
    cases this
  · rw [tb_and, tb_0]
    have := h i hi
    cases h1 : tb x i <;> cases h2 : tb y i <;> simp_all
theorem bOr_0 {x : Int} (hx : Rg x) : bOr x 0 = x := tb_ext (b_rg _) hx (fun i _ => by rw [tb_or, tb_0, Bool.or_false])
