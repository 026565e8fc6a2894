/-! leaves: signs, the JDK's own -/
section
variable {X : Ctx} {Q : State → Prop} {k n : Nat} {h : Pic} {pc : Nat} {L : List (Option Va)} {st : List Va} {cc : ByteArray} {nL : Nat} {own : String} {ret : Option FieldType}
def bAdd (x y : Int) : Int := (Int32.ofInt x + Int32.ofInt y).toInt
def bSub (x y : Int) : Int := (Int32.ofInt x - Int32.ofInt y).toInt
theorem r_iaddW {x y : Int} (C : Cx X cc nL own ret) (hd : decode cc pc = .ok (.iadd, 1)) (kk : Go X Q k n h (pc + 1) L (vI (bAdd x y) :: st)) : Go X Q k n h pc L (vI y :: vI x :: st) := fun H locs ls hP hS hL hR =>
  lv_iadd C.1 C.2.1 hd (by
    have q := kk H locs ls hP hS hL (Rc (v := vI (bAdd x y)) (b_rg _) (Rt (Rt hR)))
    simp only [List.map_cons, cv, bAdd, Int32.ofInt_toInt] at q
    exact q)
theorem r_isubW {x y : Int} (C : Cx X cc nL own ret) (hd : decode cc pc = .ok (.isub, 1)) (kk : Go X Q k n h (pc + 1) L (vI (bSub x y) :: st)) : Go X Q k n h pc L (vI y :: vI x :: st) := fun H locs ls hP hS hL hR =>
  lv_isub C.1 C.2.1 hd (by
    have q := kk H locs ls hP hS hL (Rc (v := vI (bSub x y)) (b_rg _) (Rt (Rt hR)))
    simp only [List.map_cons, cv, bSub, Int32.ofInt_toInt] at q
    exact q)
end
theorem bRem_eq {x y : Int} (hx : Rg x) (hy : 0 < y) (hy2 : Rg y) : bRem x y = x.tmod y := by
  unfold bRem
  rw [← Int32.ofInt_tdiv (by show (-2147483648 : Int) ≤ x; omega) (by show x ≤ (2147483647 : Int); omega) (by show (-2147483648 : Int) ≤ y; omega) (by show y ≤ (2147483647 : Int); omega), ← Int32.ofInt_mul, ← Int32.ofInt_sub]
  have e : x - x.tdiv y * y = x.tmod y := by
    have := Int.tdiv_mul_add_tmod x y
    omega
  rw [e]
  have b := tmod_bounds (a := x) hy
  exact o_toInt (by omega)
theorem bDiv_eq {x y : Int} (h0 : 0 ≤ x) (hx : Rg x) (hy : 0 < y) (hy2 : Rg y) : bDiv x y = x / y := by
  unfold bDiv
  rw [← Int32.ofInt_tdiv (by show (-2147483648 : Int) ≤ x; omega) (by show x ≤ (2147483647 : Int); omega) (by show (-2147483648 : Int) ≤ y; omega) (by show y ≤ (2147483647 : Int); omega), Int.tdiv_eq_ediv_of_nonneg h0]
  have b1 : 0 ≤ x / y := Int.ediv_nonneg h0 (by omega)
  have b2 : x / y ≤ x := Int.ediv_le_self _ h0
  exact o_toInt (by omega)
theorem bRem_nn {x y : Int} (h0 : 0 ≤ x) (hx : Rg x) (hy : 0 < y) (hy2 : Rg y) : bRem x y = x % y := by
  rw [bRem_eq hx hy hy2, Int.tmod_eq_emod_of_nonneg h0]
theorem bXor_sign (x y : Int) (hx : Rg x) (hy : Rg y) : bXor x y < 0 ↔ ¬ (x < 0 ↔ y < 0) := by
  have e : ∀ b : BitVec 32, b.toInt < 0 ↔ b.msb = true := fun b => by rw [BitVec.msb_eq_toInt, decide_eq_true_iff]
  have ex := o_toInt hx
  have ey := o_toInt hy
  unfold bXor
  show (Int32.ofInt x ^^^ Int32.ofInt y).toBitVec.toInt < 0 ↔ _
  rw [e, Int32.toBitVec_xor, BitVec.msb_xor]
  have e1 : x < 0 ↔ (Int32.ofInt x).toBitVec.msb = true := by rw [← e]; show _ ↔ (Int32.ofInt x).toInt < 0; rw [ex]
  have e2 : y < 0 ↔ (Int32.ofInt y).toBitVec.msb = true := by rw [← e]; show _ ↔ (Int32.ofInt y).toInt < 0; rw [ey]
  rw [e1, e2]
  cases (Int32.ofInt x).toBitVec.msb <;> cases (Int32.ofInt y).toBitVec.msb <;> simp
/-- a truth as a number -/
noncomputable def zb (p : Prop) : Int := by
  classical exact if p then 1 else 0
theorem zb_t {p : Prop} (q : p) : zb p = 1 := by unfold zb; exact if_pos q
theorem zb_f {p : Prop} (q : ¬ p) : zb p = 0 := by unfold zb; exact if_neg q
theorem zb_01 (p : Prop) : zb p = 0 ∨ zb p = 1 := by
  by_cases q : p
  · exact Or.inr (zb_t q)
  · exact Or.inl (zb_f q)
theorem zb_1 {p : Prop} : zb p = 1 ↔ p := by
  by_cases q : p
  · exact ⟨fun _ => q, fun _ => zb_t q⟩
  · exact ⟨fun e => absurd ((zb_f q).symm.trans e) (by decide), fun e => absurd e q⟩
theorem zb_0 {p : Prop} : zb p = 0 ↔ ¬ p := by
  by_cases q : p
  · exact ⟨fun e => absurd ((zb_t q).symm.trans e) (by decide), fun e => absurd q e⟩
  · exact ⟨fun _ => q, fun _ => zb_f q⟩
theorem some_I {a b : Int} (e : a = b) : some (vI a) = some (vI b) := by rw [e]
abbrev isW (c : Int) : Prop := 97 ≤ c ∧ c < 105
abbrev isD (c : Int) : Prop := 48 ≤ c ∧ c ≤ 57
/-- how many texts a sign has; -6: none can stand there -/
def nd (c : Int) : Int := if 48 ≤ c ∧ c ≤ 57 then 0 else if c = 120 then 0 else if c = 43 ∨ c = 45 ∨ c = 42 ∨ c = 109 then 2 else if c = 63 then 3 else if 97 ≤ c ∧ c < 105 then 1 else -6
/-- what a sign becomes by a slip; -6: it has none -/
def slp (c : Int) : Int := if c = 43 then 45 else if c = 45 ∨ c = 42 ∨ c = 109 then 43 else if c = 120 ∨ c = 57 then 48 else if 48 ≤ c ∧ c ≤ 57 then c + 1 else -6
def jn (c a b : Int) : Int := if c = 43 then (a + b) % 1000 else if c = 45 then (a - b) % 1000 else if c = 42 then (a * b) % 1000 else if b < a then b else a
theorem m_max {h : Pic} {x y : Int} : Meets yJ9_max_7cf53 cJ9_max_7cf53 2 (some .int) 0 0 0 [vI x, vI y] h (pI (if x < y then y else x) h) := by
  refine Meets.of (by decide +kernel) (Nat.le_of_ble_eq_true rfl) (fun X C hX hN hA => ?_)
  refine r_iload_n C dJ9_max_7cf53_0 rfl ?_
  refine r_iload_n C dJ9_max_7cf53_1 rfl ?_
  refine r_icmp_lt (tgt := 9) C dJ9_max_7cf53_2 (by decide) (fun hc2 => ?_) (fun hc2 => ?_)
  · refine r_iload_n C dJ9_max_7cf53_9 rfl ?_
    exact r_iret C dJ9_max_7cf53_10 (by decide) (by decide) (⟨some_I (by split <;> omega), rfl⟩)
  · refine r_iload_n C dJ9_max_7cf53_5 rfl ?_
    refine r_goto (tgt := 10) C dJ9_max_7cf53_6 (by decide) ?_
    exact r_iret C dJ9_max_7cf53_10 (by decide) (by decide) (⟨some_I (by split <;> omega), rfl⟩)
theorem m_min {h : Pic} {x y : Int} : Meets yJ9_min_7cf53 cJ9_min_7cf53 2 (some .int) 0 0 0 [vI x, vI y] h (pI (if y < x then y else x) h) := by
  refine Meets.of (by decide +kernel) (Nat.le_of_ble_eq_true rfl) (fun X C hX hN hA => ?_)
  refine r_iload_n C dJ9_min_7cf53_0 rfl ?_
  refine r_iload_n C dJ9_min_7cf53_1 rfl ?_
  refine r_icmp_gt (tgt := 9) C dJ9_min_7cf53_2 (by decide) (fun hc2 => ?_) (fun hc2 => ?_)
  · refine r_iload_n C dJ9_min_7cf53_9 rfl ?_
    exact r_iret C dJ9_min_7cf53_10 (by decide) (by decide) (⟨some_I (by split <;> omega), rfl⟩)
  · refine r_iload_n C dJ9_min_7cf53_5 rfl ?_
    refine r_goto (tgt := 10) C dJ9_min_7cf53_6 (by decide) ?_
    exact r_iret C dJ9_min_7cf53_10 (by decide) (by decide) (⟨some_I (by split <;> omega), rfl⟩)
theorem m_floorMod {h : Pic} {x : Int} : Meets yJ9_floorMod_7cf53 cJ9_floorMod_7cf53 3 (some .int) 0 0 0 [vI x, vI 1000] h (pI (x % 1000) h) := by
  refine Meets.of (by decide +kernel) (Nat.le_of_ble_eq_true rfl) (fun X C hX hN hA => ?_)
  have hx : Rg x := hA (vI x) (by simp)
  have e1 := bRem_eq (x := x) (y := 1000) hx (by omega) (by omega)
  have e2 := bXor_sign x 1000 hx (by omega)
  have e4 := tmod_bounds (a := x) (M := 1000) (by omega)
  have e5 : 0 ≤ x → x.tmod 1000 = x % 1000 := Int.tmod_eq_emod_of_nonneg
  have e6 : x < 0 → x.tmod 1000 = -((-x) % 1000) := fun q => by rw [show x = -(-x) by omega, Int.neg_tmod, Int.tmod_eq_emod_of_nonneg (by omega), show - -(-x) = -x by omega]
  rw [e1.symm] at e4 e5 e6
  have e7 : x < 0 → bXor x 1000 < 0 := fun q => e2.mpr (by omega)
  have e8 : 0 ≤ x → ¬ bXor x 1000 < 0 := fun q w => e2.mp w (by omega)
  clear e1 e2
  refine r_iload_n C dJ9_floorMod_7cf53_0 rfl ?_
  refine r_iload_n C dJ9_floorMod_7cf53_1 rfl ?_
  refine r_irem C dJ9_floorMod_7cf53_2 (by omega) ?_
  refine r_istore_n C dJ9_floorMod_7cf53_3 (by decide) ?_
  refine r_iload_n C dJ9_floorMod_7cf53_4 rfl ?_
  refine r_iload_n C dJ9_floorMod_7cf53_5 rfl ?_
  refine r_ixor C dJ9_floorMod_7cf53_6 ?_
  refine r_if_ge (tgt := 18) C dJ9_floorMod_7cf53_7 (by decide) (fun hc7 => ?_) (fun hc7 => ?_)
  · refine r_iload_n C dJ9_floorMod_7cf53_18 rfl ?_
    exact r_iret C dJ9_floorMod_7cf53_19 (by decide) (by decide) (⟨some_I (by omega), rfl⟩)
  · refine r_iload_n C dJ9_floorMod_7cf53_10 rfl ?_
    refine r_if_eq (tgt := 18) C dJ9_floorMod_7cf53_11 (by decide) (fun hc11 => ?_) (fun hc11 => ?_)
    · refine r_iload_n C dJ9_floorMod_7cf53_18 rfl ?_
      exact r_iret C dJ9_floorMod_7cf53_19 (by decide) (by decide) (⟨some_I (by omega), rfl⟩)
    · refine r_iload_n C dJ9_floorMod_7cf53_14 rfl ?_
      refine r_iload_n C dJ9_floorMod_7cf53_15 rfl ?_
      refine r_iadd C dJ9_floorMod_7cf53_16 (by omega) ?_
      exact r_iret C dJ9_floorMod_7cf53_17 (by decide) (by decide) (⟨some_I (by omega), rfl⟩)
theorem m_SW {h : Pic} {c : Int} : Meets yX4_isWord cX4_isWord 1 (some .boolean) 0 0 0 [vI c] h (pI (zb (isW c)) h) := by
  refine Meets.of (plainFor_of_name (by decide)) (Nat.le_of_ble_eq_true rfl) (fun X C hX hN hA => ?_)
  refine r_iload_n C dX4_isWord_0 rfl ?_
  refine r_bipush C dX4_isWord_1 (by decide) ?_
  refine r_icmp_lt (tgt := 16) C dX4_isWord_3 (by decide) (fun hc3 => ?_) (fun hc3 => ?_)
  · refine r_iconst C dX4_isWord_16 (by decide) ?_
    exact r_zret C dX4_isWord_17 (by omega) (by decide) (by decide) (⟨some_I (by first | (rw [zb_t (by omega)]; done) | (rw [zb_f (by omega)]; done)), rfl⟩)
  · refine r_iload_n C dX4_isWord_6 rfl ?_
    refine r_bipush C dX4_isWord_7 (by decide) ?_
    refine r_icmp_ge (tgt := 16) C dX4_isWord_9 (by decide) (fun hc9 => ?_) (fun hc9 => ?_)
    · refine r_iconst C dX4_isWord_16 (by decide) ?_
      exact r_zret C dX4_isWord_17 (by omega) (by decide) (by decide) (⟨some_I (by first | (rw [zb_t (by omega)]; done) | (rw [zb_f (by omega)]; done)), rfl⟩)
    · refine r_iconst C dX4_isWord_12 (by decide) ?_
      refine r_goto (tgt := 17) C dX4_isWord_13 (by decide) ?_
      exact r_zret C dX4_isWord_17 (by omega) (by decide) (by decide) (⟨some_I (by first | (rw [zb_t (by omega)]; done) | (rw [zb_f (by omega)]; done)), rfl⟩)
theorem m_SD {h : Pic} {c : Int} : Meets yX4_isDigit cX4_isDigit 1 (some .boolean) 0 0 0 [vI c] h (pI (zb (isD c)) h) := by
  refine Meets.of (plainFor_of_name (by decide)) (Nat.le_of_ble_eq_true rfl) (fun X C hX hN hA => ?_)
  refine r_iload_n C dX4_isDigit_0 rfl ?_
  refine r_bipush C dX4_isDigit_1 (by decide) ?_
  refine r_icmp_lt (tgt := 16) C dX4_isDigit_3 (by decide) (fun hc3 => ?_) (fun hc3 => ?_)
  · refine r_iconst C dX4_isDigit_16 (by decide) ?_
    exact r_zret C dX4_isDigit_17 (by omega) (by decide) (by decide) (⟨some_I (by first | (rw [zb_t (by omega)]; done) | (rw [zb_f (by omega)]; done)), rfl⟩)
  · refine r_iload_n C dX4_isDigit_6 rfl ?_
    refine r_bipush C dX4_isDigit_7 (by decide) ?_
    refine r_icmp_gt (tgt := 16) C dX4_isDigit_9 (by decide) (fun hc9 => ?_) (fun hc9 => ?_)
    · refine r_iconst C dX4_isDigit_16 (by decide) ?_
      exact r_zret C dX4_isDigit_17 (by omega) (by decide) (by decide) (⟨some_I (by first | (rw [zb_t (by omega)]; done) | (rw [zb_f (by omega)]; done)), rfl⟩)
    · refine r_iconst C dX4_isDigit_12 (by decide) ?_
      refine r_goto (tgt := 17) C dX4_isDigit_13 (by decide) ?_
      exact r_zret C dX4_isDigit_17 (by omega) (by decide) (by decide) (⟨some_I (by first | (rw [zb_t (by omega)]; done) | (rw [zb_f (by omega)]; done)), rfl⟩)
theorem m_isWord {h : Pic} {c : Int} : Meets yX7_isWord cX7_isWord 1 (some .boolean) 0 0 0 [vI c] h (pI (zb (0 ≤ c ∧ c < 8)) h) := by
  refine Meets.of (plainFor_of_name (by decide)) (Nat.le_of_ble_eq_true rfl) (fun X C hX hN hA => ?_)
  refine r_iload_n C dX7_isWord_0 rfl ?_
  refine r_if_lt (tgt := 14) C dX7_isWord_1 (by decide) (fun hc1 => ?_) (fun hc1 => ?_)
  · refine r_iconst C dX7_isWord_14 (by decide) ?_
    exact r_zret C dX7_isWord_15 (by omega) (by decide) (by decide) (⟨some_I (by first | (rw [zb_t (by omega)]; done) | (rw [zb_f (by omega)]; done)), rfl⟩)
  · refine r_iload_n C dX7_isWord_4 rfl ?_
    refine r_bipush C dX7_isWord_5 (by decide) ?_
    refine r_icmp_ge (tgt := 14) C dX7_isWord_7 (by decide) (fun hc7 => ?_) (fun hc7 => ?_)
    · refine r_iconst C dX7_isWord_14 (by decide) ?_
      exact r_zret C dX7_isWord_15 (by omega) (by decide) (by decide) (⟨some_I (by first | (rw [zb_t (by omega)]; done) | (rw [zb_f (by omega)]; done)), rfl⟩)
    · refine r_iconst C dX7_isWord_10 (by decide) ?_
      refine r_goto (tgt := 15) C dX7_isWord_11 (by decide) ?_
      exact r_zret C dX7_isWord_15 (by omega) (by decide) (by decide) (⟨some_I (by first | (rw [zb_t (by omega)]; done) | (rw [zb_f (by omega)]; done)), rfl⟩)
theorem m_isNumber {h : Pic} {c : Int} : Meets yX7_isNumber cX7_isNumber 1 (some .boolean) 0 0 0 [vI c] h (pI (zb (0 ≤ c ∧ c < 1000)) h) := by
  refine Meets.of (plainFor_of_name (by decide)) (Nat.le_of_ble_eq_true rfl) (fun X C hX hN hA => ?_)
  refine r_iload_n C dX7_isNumber_0 rfl ?_
  refine r_if_lt (tgt := 15) C dX7_isNumber_1 (by decide) (fun hc1 => ?_) (fun hc1 => ?_)
  · refine r_iconst C dX7_isNumber_15 (by decide) ?_
    exact r_zret C dX7_isNumber_16 (by omega) (by decide) (by decide) (⟨some_I (by first | (rw [zb_t (by omega)]; done) | (rw [zb_f (by omega)]; done)), rfl⟩)
  · refine r_iload_n C dX7_isNumber_4 rfl ?_
    refine r_sipush C dX7_isNumber_5 (by decide) ?_
    refine r_icmp_ge (tgt := 15) C dX7_isNumber_8 (by decide) (fun hc8 => ?_) (fun hc8 => ?_)
    · refine r_iconst C dX7_isNumber_15 (by decide) ?_
      exact r_zret C dX7_isNumber_16 (by omega) (by decide) (by decide) (⟨some_I (by first | (rw [zb_t (by omega)]; done) | (rw [zb_f (by omega)]; done)), rfl⟩)
    · refine r_iconst C dX7_isNumber_11 (by decide) ?_
      refine r_goto (tgt := 16) C dX7_isNumber_12 (by decide) ?_
      exact r_zret C dX7_isNumber_16 (by omega) (by decide) (by decide) (⟨some_I (by first | (rw [zb_t (by omega)]; done) | (rw [zb_f (by omega)]; done)), rfl⟩)
theorem m_isImage {h : Pic} {c : Int} : Meets yX7_isImage cX7_isImage 1 (some .boolean) 0 0 0 [vI c] h (pI (zb (0 ≤ c ∧ c < 2)) h) := by
  refine Meets.of (plainFor_of_name (by decide)) (Nat.le_of_ble_eq_true rfl) (fun X C hX hN hA => ?_)
  refine r_iload_n C dX7_isImage_0 rfl ?_
  refine r_if_lt (tgt := 13) C dX7_isImage_1 (by decide) (fun hc1 => ?_) (fun hc1 => ?_)
  · refine r_iconst C dX7_isImage_13 (by decide) ?_
    exact r_zret C dX7_isImage_14 (by omega) (by decide) (by decide) (⟨some_I (by first | (rw [zb_t (by omega)]; done) | (rw [zb_f (by omega)]; done)), rfl⟩)
  · refine r_iload_n C dX7_isImage_4 rfl ?_
    refine r_iconst C dX7_isImage_5 (by decide) ?_
    refine r_icmp_ge (tgt := 13) C dX7_isImage_6 (by decide) (fun hc6 => ?_) (fun hc6 => ?_)
    · refine r_iconst C dX7_isImage_13 (by decide) ?_
      exact r_zret C dX7_isImage_14 (by omega) (by decide) (by decide) (⟨some_I (by first | (rw [zb_t (by omega)]; done) | (rw [zb_f (by omega)]; done)), rfl⟩)
    · refine r_iconst C dX7_isImage_9 (by decide) ?_
      refine r_goto (tgt := 14) C dX7_isImage_10 (by decide) ?_
      exact r_zret C dX7_isImage_14 (by omega) (by decide) (by decide) (⟨some_I (by first | (rw [zb_t (by omega)]; done) | (rw [zb_f (by omega)]; done)), rfl⟩)
theorem m_needs {h : Pic} {c : Int} : Meets yX4_needs cX4_needs 1 (some .int) 0 0 0 [vI c] h (pI (nd c) h) := by
  refine Meets.of (plainFor_of_name (by decide)) (Nat.le_of_ble_eq_true rfl) (fun X C hX hN hA => ?_)
  have hsw : ¬ (48 ≤ c ∧ c ≤ 57) → Go X (Qm X (pI (nd c) h) 0 0) 0 0 h 14 (List.map some [vI c] ++ List.replicate (1 - [vI c].length) none) [] := by
    intro hnd
    refine r_iload_n C dX4_needs_14 rfl ?_
    rcases (show c = 42 ∨ c = 43 ∨ c = 45 ∨ c = 63 ∨ c = 109 ∨ c = 120 ∨ (¬ c = 42 ∧ ¬ c = 43 ∧ ¬ c = 45 ∧ ¬ c = 63 ∧ ¬ c = 109 ∧ ¬ c = 120) by omega) with rfl | rfl | rfl | rfl | rfl | rfl | hz
    · refine r_lookup (off := 59) (tgt := 74) C dX4_needs_15 (by decide) (by decide) (by decide) ?_
      refine r_iconst C dX4_needs_74 (by decide) ?_
      exact r_iret C dX4_needs_75 (by decide) (by decide) (⟨some_I (by decide), rfl⟩)
    · refine r_lookup (off := 59) (tgt := 74) C dX4_needs_15 (by decide) (by decide) (by decide) ?_
      refine r_iconst C dX4_needs_74 (by decide) ?_
      exact r_iret C dX4_needs_75 (by decide) (by decide) (⟨some_I (by decide), rfl⟩)
    · refine r_lookup (off := 59) (tgt := 74) C dX4_needs_15 (by decide) (by decide) (by decide) ?_
      refine r_iconst C dX4_needs_74 (by decide) ?_
      exact r_iret C dX4_needs_75 (by decide) (by decide) (⟨some_I (by decide), rfl⟩)
    · refine r_lookup (off := 61) (tgt := 76) C dX4_needs_15 (by decide) (by decide) (by decide) ?_
      refine r_iconst C dX4_needs_76 (by decide) ?_
      exact r_iret C dX4_needs_77 (by decide) (by decide) (⟨some_I (by decide), rfl⟩)
    · refine r_lookup (off := 59) (tgt := 74) C dX4_needs_15 (by decide) (by decide) (by decide) ?_
      refine r_iconst C dX4_needs_74 (by decide) ?_
      exact r_iret C dX4_needs_75 (by decide) (by decide) (⟨some_I (by decide), rfl⟩)
    · refine r_lookup (off := 57) (tgt := 72) C dX4_needs_15 (by decide) (by decide) (by decide) ?_
      refine r_iconst C dX4_needs_72 (by decide) ?_
      exact r_iret C dX4_needs_73 (by decide) (by decide) (⟨some_I (by decide), rfl⟩)
    · refine r_lookup (off := 63) (tgt := 78) C dX4_needs_15 (by decide) (by show (if (42 : Int) = c then (59 : Int) else if (43 : Int) = c then (59 : Int) else if (45 : Int) = c then (59 : Int) else if (63 : Int) = c then (61 : Int) else if (109 : Int) = c then (59 : Int) else if (120 : Int) = c then (57 : Int) else 63) = 63; rw [if_neg (by omega), if_neg (by omega), if_neg (by omega), if_neg (by omega), if_neg (by omega), if_neg (by omega)]) (by decide) ?_
      refine r_iload_n C dX4_needs_78 rfl ?_
      refine r_bipush C dX4_needs_79 (by decide) ?_
      refine r_icmp_lt (tgt := 94) C dX4_needs_81 (by decide) (fun hc81 => ?_) (fun hc81 => ?_)
      · refine r_bipush C dX4_needs_94 (by decide) ?_
        exact r_iret C dX4_needs_96 (by decide) (by decide) (⟨some_I (by unfold nd; (repeat' split) <;> omega), rfl⟩)
      · refine r_iload_n C dX4_needs_84 rfl ?_
        refine r_bipush C dX4_needs_85 (by decide) ?_
        refine r_icmp_ge (tgt := 94) C dX4_needs_87 (by decide) (fun hc87 => ?_) (fun hc87 => ?_)
        · refine r_bipush C dX4_needs_94 (by decide) ?_
          exact r_iret C dX4_needs_96 (by decide) (by decide) (⟨some_I (by unfold nd; (repeat' split) <;> omega), rfl⟩)
        · refine r_iconst C dX4_needs_90 (by decide) ?_
          refine r_goto (tgt := 96) C dX4_needs_91 (by decide) ?_
          exact r_iret C dX4_needs_96 (by decide) (by decide) (⟨some_I (by unfold nd; (repeat' split) <;> omega), rfl⟩)
  refine r_iload_n C dX4_needs_0 rfl ?_
  refine r_bipush C dX4_needs_1 (by decide) ?_
  refine r_icmp_lt (tgt := 14) C dX4_needs_3 (by decide) (fun hc3 => ?_) (fun hc3 => ?_)
  · exact hsw (by omega)
  · refine r_iload_n C dX4_needs_6 rfl ?_
    refine r_bipush C dX4_needs_7 (by decide) ?_
    refine r_icmp_gt (tgt := 14) C dX4_needs_9 (by decide) (fun hc9 => ?_) (fun hc9 => ?_)
    · exact hsw (by omega)
    · refine r_iconst C dX4_needs_12 (by decide) ?_
      exact r_iret C dX4_needs_13 (by decide) (by decide) (⟨some_I (by unfold nd; rw [if_pos (by omega)]), rfl⟩)
theorem m_slipped {h : Pic} {c : Int} : Meets yX4_slipped cX4_slipped 1 (some .int) 1 0 0 [vI c] h (pI (slp c) h) := by
  refine Meets.of (plainFor_of_name (by decide)) (Nat.le_of_ble_eq_true rfl) (fun X C hX hN hA => ?_)
  have hA1 : Rg c := hA (vI c) (by simp)
  have hsw : Go X (Qm X (pI (slp c) h) 0 0) 0 0 h 0 (List.map some [vI c] ++ List.replicate (1 - [vI c].length) none) [] := by
    refine r_iload_n C dX4_slipped_0 rfl ?_
    rcases (show c = 42 ∨ c = 43 ∨ c = 45 ∨ c = 57 ∨ c = 109 ∨ c = 120 ∨ (¬ c = 42 ∧ ¬ c = 43 ∧ ¬ c = 45 ∧ ¬ c = 57 ∧ ¬ c = 109 ∧ ¬ c = 120) by omega) with rfl | rfl | rfl | rfl | rfl | rfl | hz
    · refine r_lookup (off := 62) (tgt := 63) C dX4_slipped_1 (by decide) (by decide) (by decide) ?_
      refine r_bipush C dX4_slipped_63 (by decide) ?_
      exact r_iret C dX4_slipped_65 (by decide) (by decide) (⟨some_I (by decide), rfl⟩)
    · refine r_lookup (off := 59) (tgt := 60) C dX4_slipped_1 (by decide) (by decide) (by decide) ?_
      refine r_bipush C dX4_slipped_60 (by decide) ?_
      exact r_iret C dX4_slipped_62 (by decide) (by decide) (⟨some_I (by decide), rfl⟩)
    · refine r_lookup (off := 62) (tgt := 63) C dX4_slipped_1 (by decide) (by decide) (by decide) ?_
      refine r_bipush C dX4_slipped_63 (by decide) ?_
      exact r_iret C dX4_slipped_65 (by decide) (by decide) (⟨some_I (by decide), rfl⟩)
    · refine r_lookup (off := 65) (tgt := 66) C dX4_slipped_1 (by decide) (by decide) (by decide) ?_
      refine r_bipush C dX4_slipped_66 (by decide) ?_
      exact r_iret C dX4_slipped_68 (by decide) (by decide) (⟨some_I (by decide), rfl⟩)
    · refine r_lookup (off := 62) (tgt := 63) C dX4_slipped_1 (by decide) (by decide) (by decide) ?_
      refine r_bipush C dX4_slipped_63 (by decide) ?_
      exact r_iret C dX4_slipped_65 (by decide) (by decide) (⟨some_I (by decide), rfl⟩)
    · refine r_lookup (off := 65) (tgt := 66) C dX4_slipped_1 (by decide) (by decide) (by decide) ?_
      refine r_bipush C dX4_slipped_66 (by decide) ?_
      exact r_iret C dX4_slipped_68 (by decide) (by decide) (⟨some_I (by decide), rfl⟩)
    · refine r_lookup (off := 68) (tgt := 69) C dX4_slipped_1 (by decide) (by show (if (42 : Int) = c then (62 : Int) else if (43 : Int) = c then (59 : Int) else if (45 : Int) = c then (62 : Int) else if (57 : Int) = c then (65 : Int) else if (109 : Int) = c then (62 : Int) else if (120 : Int) = c then (65 : Int) else 68) = 68; rw [if_neg (by omega), if_neg (by omega), if_neg (by omega), if_neg (by omega), if_neg (by omega), if_neg (by omega)]) (by decide) ?_
      refine r_iload_n C dX4_slipped_69 rfl ?_
      refine r_cSi C dX4_slipped_70 mlX4_9 kX4_isDigit (m_SD (c := c)) rfl rfl (Nat.le_of_ble_eq_true rfl) (fit hX (by decide)) ?_
      rcases zb_01 (isD c) with hzz | hzz <;> rw [hzz] <;> (first | rw [zb_0] at hzz | rw [zb_1] at hzz)
      all_goals skip
      · refine r_if_eq (tgt := 82) C dX4_slipped_73 (by decide) (fun _ => ?_) (fun q => absurd rfl q)
        refine r_bipush C dX4_slipped_82 (by decide) ?_
        exact r_iret C dX4_slipped_84 (by decide) (by decide) (⟨some_I (by unfold slp; (repeat' split) <;> omega), rfl⟩)
      · refine r_if_eq (tgt := 82) C dX4_slipped_73 (by decide) (fun q => absurd q (by decide)) (fun _ => ?_)
        refine r_iload_n C dX4_slipped_76 rfl ?_
        refine r_iconst C dX4_slipped_77 (by decide) ?_
        refine r_iadd C dX4_slipped_78 (by omega) ?_
        refine r_goto (tgt := 84) C dX4_slipped_79 (by decide) ?_
        exact r_iret C dX4_slipped_84 (by decide) (by decide) (⟨some_I (by unfold slp; (repeat' split) <;> omega), rfl⟩)
  exact hsw
theorem mul_rg {a b : Int} (ha : 0 ≤ a ∧ a ≤ 999) (hb : 0 ≤ b ∧ b ≤ 999) : 0 ≤ a * b ∧ a * b ≤ 998001 := by
  refine ⟨Int.mul_nonneg ha.1 hb.1, ?_⟩
  have h1 : a * b ≤ 999 * b := Int.mul_le_mul_of_nonneg_right ha.2 hb.1
  omega
theorem m_joined {h : Pic} {c a b : Int} (ha : 0 ≤ a ∧ a ≤ 999) (hb : 0 ≤ b ∧ b ≤ 999) : Meets yX4_joined cX4_joined 3 (some .int) 1 0 0 [vI c, vI a, vI b] h (pI (jn c a b) h) := by
  refine Meets.of (plainFor_of_name (by decide)) (Nat.le_of_ble_eq_true rfl) (fun X C hX hN hA => ?_)
  have hA1 : Rg c := hA (vI c) (by simp)
  have hm := mul_rg ha hb
  refine r_iload_n C dX4_joined_0 rfl ?_
  rcases (show c = 43 ∨ c = 45 ∨ c = 42 ∨ (¬ c = 43 ∧ ¬ c = 45 ∧ ¬ c = 42) by omega) with rfl | rfl | rfl | hz
  · refine r_tableIn (off := 31) (tgt := 32) C dX4_joined_1 (by decide) (by decide) rfl (by decide) ?_
    refine r_iload_n C dX4_joined_32 rfl ?_
    refine r_iload_n C dX4_joined_33 rfl ?_
    refine r_iadd C dX4_joined_34 (by omega) ?_
    refine r_sipush C dX4_joined_35 (by decide) ?_
    refine r_cSi C dX4_joined_38 mlX4_15 kJ9_floorMod_7cf53 (m_floorMod (x := a + b)) rfl rfl (Nat.le_of_ble_eq_true rfl) (fit hX (by decide)) ?_
    exact r_iret C dX4_joined_41 (by decide) (by decide) (⟨some_I (by unfold jn; rw [if_pos rfl]), rfl⟩)
  · refine r_tableIn (off := 41) (tgt := 42) C dX4_joined_1 (by decide) (by decide) rfl (by decide) ?_
    refine r_iload_n C dX4_joined_42 rfl ?_
    refine r_iload_n C dX4_joined_43 rfl ?_
    refine r_isub C dX4_joined_44 (by omega) ?_
    refine r_sipush C dX4_joined_45 (by decide) ?_
    refine r_cSi C dX4_joined_48 mlX4_15 kJ9_floorMod_7cf53 (m_floorMod (x := a - b)) rfl rfl (Nat.le_of_ble_eq_true rfl) (fit hX (by decide)) ?_
    exact r_iret C dX4_joined_51 (by decide) (by decide) (⟨some_I (by unfold jn; rw [if_neg (by decide), if_pos rfl]), rfl⟩)
  · refine r_tableIn (off := 51) (tgt := 52) C dX4_joined_1 (by decide) (by decide) rfl (by decide) ?_
    refine r_iload_n C dX4_joined_52 rfl ?_
    refine r_iload_n C dX4_joined_53 rfl ?_
    refine r_imul C dX4_joined_54 (by omega) ?_
    refine r_sipush C dX4_joined_55 (by decide) ?_
    refine r_cSi C dX4_joined_58 mlX4_15 kJ9_floorMod_7cf53 (m_floorMod (x := a * b)) rfl rfl (Nat.le_of_ble_eq_true rfl) (fit hX (by decide)) ?_
    exact r_iret C dX4_joined_61 (by decide) (by decide) (⟨some_I (by unfold jn; rw [if_neg (by decide), if_neg (by decide), if_pos rfl]), rfl⟩)
  · have hk : Go X (Qm X (pI (jn c a b) h) 0 0) 0 0 h 62 (List.map some [vI c, vI a, vI b] ++ List.replicate (3 - [vI c, vI a, vI b].length) none) [] := by
      refine r_iload_n C dX4_joined_62 rfl ?_
      refine r_iload_n C dX4_joined_63 rfl ?_
      refine r_cSi C dX4_joined_64 mlX4_21 kJ9_min_7cf53 (m_min (x := a) (y := b)) rfl rfl (Nat.le_of_ble_eq_true rfl) (fit hX (by decide)) ?_
      exact r_iret C dX4_joined_67 (by decide) (by decide) (⟨some_I (by unfold jn; rw [if_neg hz.1, if_neg hz.2.1, if_neg hz.2.2]), rfl⟩)
    by_cases h44 : c = 44
    · subst h44
      exact r_tableIn (off := 61) (tgt := 62) C dX4_joined_1 (by decide) (by decide) rfl (by decide) hk
    · exact r_tableOut (tgt := 62) C dX4_joined_1 (by omega) (by decide) hk
/-- how many bits of twelve -/
def cntN : Nat → Int → Int
  | 0, _ => 0
  | j + 1, x => cntN j x + bAnd (bShr x j) 1
def cnt (x : Int) : Int := cntN 12 x
def bc1 (x : Int) : Int := bSub x (bAnd (bUshr x 1) 1431655765)
def bc2 (y : Int) : Int := bAdd (bAnd y 858993459) (bAnd (bUshr y 2) 858993459)
def bc3 (y : Int) : Int := bAnd (bAdd y (bUshr y 4)) 252645135
def bc4 (y : Int) : Int := bAdd y (bUshr y 8)
def bc5 (y : Int) : Int := bAdd y (bUshr y 16)
def bcF (x : Int) : Int := bAnd (bc5 (bc4 (bc3 (bc2 (bc1 x))))) 63
set_option maxRecDepth 100000 in
theorem bcF_all : (List.range 4096).all (fun j => decide (bcF (j : Int) = cnt (j : Int))) = true := by decide +kernel
theorem bcF_cnt {x : Int} (h0 : 0 ≤ x) (h1 : x < 4096) : bcF x = cnt x := by
  obtain ⟨j, rfl⟩ := Int.eq_ofNat_of_zero_le h0
  have := List.all_eq_true.mp bcF_all j (List.mem_range.mpr (by omega))
  exact of_decide_eq_true this
theorem m_bitCount {h : Pic} {x : Int} (h0 : 0 ≤ x) (h1 : x < 4096) : Meets yJ6_bitCount_0f7a4 cJ6_bitCount_0f7a4 1 (some .int) 0 0 0 [vI x] h (pI (cnt x) h) := by
  refine Meets.of (by decide +kernel) (Nat.le_of_ble_eq_true rfl) (fun X C hX hN hA => ?_)
  rw [← bcF_cnt h0 h1]
  refine r_iload_n C dJ6_bitCount_0f7a4_0 rfl ?_
  refine r_iload_n C dJ6_bitCount_0f7a4_1 rfl ?_
  refine r_iconst C dJ6_bitCount_0f7a4_2 (by decide) ?_
  refine r_iushr C dJ6_bitCount_0f7a4_3 ?_
  refine r_ldcw C dJ6_bitCount_0f7a4_4 cnJ6_265 (z := 1431655765) rfl (by decide) ?_
  refine r_iand C dJ6_bitCount_0f7a4_7 ?_
  refine r_isubW C dJ6_bitCount_0f7a4_8 ?_
  refine r_istore_n C dJ6_bitCount_0f7a4_9 (by decide) ?_
  refine r_iload_n C dJ6_bitCount_0f7a4_10 rfl ?_
  refine r_ldcw C dJ6_bitCount_0f7a4_11 cnJ6_266 (z := 858993459) rfl (by decide) ?_
  refine r_iand C dJ6_bitCount_0f7a4_14 ?_
  refine r_iload_n C dJ6_bitCount_0f7a4_15 rfl ?_
  refine r_iconst C dJ6_bitCount_0f7a4_16 (by decide) ?_
  refine r_iushr C dJ6_bitCount_0f7a4_17 ?_
  refine r_ldcw C dJ6_bitCount_0f7a4_18 cnJ6_266 (z := 858993459) rfl (by decide) ?_
  refine r_iand C dJ6_bitCount_0f7a4_21 ?_
  refine r_iaddW C dJ6_bitCount_0f7a4_22 ?_
  refine r_istore_n C dJ6_bitCount_0f7a4_23 (by decide) ?_
  refine r_iload_n C dJ6_bitCount_0f7a4_24 rfl ?_
  refine r_iload_n C dJ6_bitCount_0f7a4_25 rfl ?_
  refine r_iconst C dJ6_bitCount_0f7a4_26 (by decide) ?_
  refine r_iushr C dJ6_bitCount_0f7a4_27 ?_
  refine r_iaddW C dJ6_bitCount_0f7a4_28 ?_
  refine r_ldcw C dJ6_bitCount_0f7a4_29 cnJ6_267 (z := 252645135) rfl (by decide) ?_
  refine r_iand C dJ6_bitCount_0f7a4_32 ?_
  refine r_istore_n C dJ6_bitCount_0f7a4_33 (by decide) ?_
  refine r_iload_n C dJ6_bitCount_0f7a4_34 rfl ?_
  refine r_iload_n C dJ6_bitCount_0f7a4_35 rfl ?_
  refine r_bipush C dJ6_bitCount_0f7a4_36 (by decide) ?_
  refine r_iushr C dJ6_bitCount_0f7a4_38 ?_
  refine r_iaddW C dJ6_bitCount_0f7a4_39 ?_
  refine r_istore_n C dJ6_bitCount_0f7a4_40 (by decide) ?_
  refine r_iload_n C dJ6_bitCount_0f7a4_41 rfl ?_
  refine r_iload_n C dJ6_bitCount_0f7a4_42 rfl ?_
  refine r_bipush C dJ6_bitCount_0f7a4_43 (by decide) ?_
  refine r_iushr C dJ6_bitCount_0f7a4_45 ?_
  refine r_iaddW C dJ6_bitCount_0f7a4_46 ?_
  refine r_istore_n C dJ6_bitCount_0f7a4_47 (by decide) ?_
  refine r_iload_n C dJ6_bitCount_0f7a4_48 rfl ?_
  refine r_bipush C dJ6_bitCount_0f7a4_49 (by decide) ?_
  refine r_iand C dJ6_bitCount_0f7a4_51 ?_
  exact r_iret C dJ6_bitCount_0f7a4_52 (by decide) (by decide) (⟨rfl, rfl⟩)
