/-! the model: what its order rests on -/
theorem full_or {p : Nat} {s : Int} (hp : p ≤ 12) (h0 : 0 ≤ s) (h1 : s < 2 ^ p) : s = 2 ^ p - 1 ∨ ∃ m, m < p ∧ tb s m = false := by
  by_cases e : s = 2 ^ p - 1
  · exact Or.inl e
  · refine Or.inr (Classical.byContradiction (fun q => e ?_))
    have hpl := pow_le hp
    have hp2 : ((2 ^ p : Nat) : Int) = 2 ^ p := by simp
    have h1' : s < ((2 ^ p : Nat) : Int) := by rw [hp2]; exact h1
    refine tb_ext (by omega) (by omega) (fun i hi => ?_)
    rw [tb_full hp hi]
    rcases Nat.lt_or_ge i p with z | z
    · rw [decide_eq_true z]
      cases hb : tb s i with
      | true => rfl
      | false => exact absurd ⟨i, z, hb⟩ q
    · rw [tb_nat h0 h1' (by omega) z, decide_eq_false (by omega)]
theorem tb_sI {j : Int} {i : Nat} (h0 : 0 ≤ j) (h1 : j < 32) (hi : i < 32) : tb (bShl 1 j) i = true ↔ (i : Int) = j := by
  obtain ⟨k, rfl⟩ := Int.eq_ofNat_of_zero_le h0
  rw [tb_shl (by omega) hi, decide_eq_true_iff]
  omega
/-- a page more in a set -/
theorem or_rng {pg : Nat} {s f : Int} (hp : pg ≤ 12) (h0 : 0 ≤ s) (h1 : s < 2 ^ pg) (f0 : 0 ≤ f) (f1 : f < pg) (hf : tb s f.toNat = false) : s < bOr s (bShl 1 f) ∧ bOr s (bShl 1 f) < 2 ^ pg := by
  have hpl := pow_le hp
  have hp2 : ((2 ^ pg : Nat) : Int) = 2 ^ pg := by simp
  have h1' : s < ((2 ^ pg : Nat) : Int) := by rw [hp2]; exact h1
  have hR : Rg (bOr s (bShl 1 f)) := b_rg _
  have hu : 0 ≤ bOr s (bShl 1 f) ∧ bOr s (bShl 1 f) < ((2 ^ pg : Nat) : Int) := tb_lt hR (by omega) (fun i i1 i2 => by
    rw [tb_or, tb_nat h0 h1' (by omega) i1, Bool.false_or]
    cases q : tb (bShl 1 f) i with
    | false => rfl
    | true => have := (tb_sI f0 (by omega) i2).mp q; omega)
  have he : bAnd (bOr s (bShl 1 f)) s = s := tb_ext (b_rg _) (by omega) (fun i _ => by
    rw [tb_and, tb_or]
    cases tb s i <;> simp)
  have hle := and_rng s hu.1 hR
  rw [he] at hle
  refine ⟨?_, by rw [← hp2]; exact hu.2⟩
  rcases (show s < bOr s (bShl 1 f) ∨ bOr s (bShl 1 f) = s by omega) with q | q
  · exact q
  · have z : tb (bOr s (bShl 1 f)) f.toNat = true := by
      rw [tb_or, (tb_sI f0 (by omega) (by omega)).mpr (by omega), Bool.or_true]
    rw [q, hf] at z
    exact absurd z (by decide)
theorem cntN_add {s f : Int} (f0 : 0 ≤ f) (f1 : f < 32) (hf : tb s f.toNat = false) : ∀ k : Nat, k ≤ 32 → cntN k (bOr s (bShl 1 f)) = cntN k s + (if f < k then 1 else 0) := by
  intro k
  induction k with
  | zero => intro _; rw [if_neg (by omega)]; rfl
  | succ k ih =>
    intro hk
    have e := ih (by omega)
    show cntN k (bOr s (bShl 1 f)) + bAnd (bShr (bOr s (bShl 1 f)) k) 1 = cntN k s + bAnd (bShr s k) 1 + _
    rw [e, tb_bit (by omega), tb_bit (by omega), tb_or]
    by_cases hfk : (k : Int) = f
    · have z : tb s k = false := by rw [← hf, ← hfk]; rfl
      rw [z, (tb_sI f0 f1 (by omega)).mpr hfk, if_neg (show ¬ f < (k : Int) by omega), if_pos (show f < ((k + 1 : Nat) : Int) by omega)]
      simp
    · have z : tb (bShl 1 f) k = false := by
        cases q : tb (bShl 1 f) k with
        | false => rfl
        | true => exact absurd ((tb_sI f0 f1 (by omega)).mp q) hfk
      rw [z, Bool.or_false]
      by_cases hlt : f < k
      · rw [if_pos hlt, if_pos (show f < ((k + 1 : Nat) : Int) by omega)]; omega
      · rw [if_neg hlt, if_neg (show ¬ f < ((k + 1 : Nat) : Int) by omega)]; omega
theorem cnt_add {s f : Int} (f0 : 0 ≤ f) (f1 : f < 12) (hf : tb s f.toNat = false) : cnt (bOr s (bShl 1 f)) = cnt s + 1 := by
  have := cntN_add f0 (by omega) hf 12 (by omega)
  rw [if_pos (by omega)] at this
  exact this
theorem sm_upd {g g' : Int → Int} {f : Int} (f0 : 0 ≤ f) (hz : g' f = 0) : ∀ n : Nat, (∀ p : Int, 0 ≤ p → p < n → ¬ p = f → g' p = g p) → smN g' n = smN g n - (if f < n then g f else 0) := by
  intro n
  induction n with
  | zero => intro _; rw [if_neg (by omega)]; rfl
  | succ n ih =>
    intro h
    have e := ih (fun p p0 p1 => h p p0 (by omega))
    show smN g' n + g' n = smN g n + g n - _
    rw [e]
    by_cases hn : (n : Int) = f
    · rw [hn, hz, if_neg (show ¬ f < f by omega), if_pos (show f < ((n + 1 : Nat) : Int) by omega)]; omega
    · rw [h n (by omega) (by omega) hn]
      by_cases hl : f < n
      · rw [if_pos hl, if_pos (show f < ((n + 1 : Nat) : Int) by omega)]; omega
      · rw [if_neg hl, if_neg (show ¬ f < ((n + 1 : Nat) : Int) by omega)]; omega
theorem sm_0s {g : Int → Int} : ∀ n : Nat, (∀ p : Int, 0 ≤ p → p < n → g p = 0) → smN g n = 0 := by
  intro n
  induction n with
  | zero => intro _; rfl
  | succ n ih =>
    intro h
    show smN g n + g n = 0
    rw [ih (fun p p0 p1 => h p p0 (by omega)), h n (by omega) (by omega)]; rfl
theorem smN_congr {g g' : Int → Int} : ∀ n : Nat, (∀ p : Int, 0 ≤ p → p < n → g p = g' p) → smN g n = smN g' n := by
  intro n
  induction n with
  | zero => intro _; rfl
  | succ n ih =>
    intro h
    show smN g n + g n = smN g' n + g' n
    rw [ih (fun p p0 p1 => h p p0 (by omega)), h n (by omega) (by omega)]
/-- the words that the pages of a set tell, of those below i -/
def tBN (tl : Int → Int) (s : Int) : Nat → Int
  | 0 => 0
  | j + 1 => if bAnd (bShr s j) 1 = 1 ∧ 0 ≤ tl j then bOr (tBN tl s j) (bShl 1 (tl j)) else tBN tl s j
def tB (tl : Int → Int) (s i : Int) : Int := tBN tl s i.toNat
theorem tB_s {tl : Int → Int} {s i : Int} (h0 : 0 ≤ i) : tB tl s (i + 1) = if bAnd (bShr s i) 1 = 1 ∧ 0 ≤ tl i then bOr (tB tl s i) (bShl 1 (tl i)) else tB tl s i := by
  unfold tB
  have e : (i + 1).toNat = i.toNat + 1 := by omega
  have e2 : ((i.toNat : Nat) : Int) = i := by omega
  rw [e]
  conv => lhs; unfold tBN
  rw [e2]
theorem tBN_rg (tl : Int → Int) (s : Int) : ∀ j : Nat, Rg (tBN tl s j) := by
  intro j
  induction j with
  | zero => show Rg 0; omega
  | succ j ih => unfold tBN; split; exact b_rg _; exact ih
theorem tdN_rg (tl : Int → Int) : ∀ j : Nat, Rg (tdN tl j) := by
  intro j
  induction j with
  | zero => show Rg 0; omega
  | succ j ih => unfold tdN; split; exact ih; exact b_rg _
abbrev okT (tl : Int → Int) (n : Int) : Prop := ∀ p, 0 ≤ p → p < n → tl p = -6 ∨ (0 ≤ tl p ∧ tl p < 8)
theorem tb_tBN {tl : Int → Int} {s : Int} : ∀ (n : Nat) (i : Nat), n ≤ 12 → okT tl n → i < 32 → (tb (tBN tl s n) i = true ↔ ∃ p : Int, 0 ≤ p ∧ p < n ∧ tb s p.toNat = true ∧ tl p = i) := by
  intro n
  induction n with
  | zero =>
    intro i _ _ _
    show tb 0 i = true ↔ _
    rw [tb_0]
    exact ⟨fun q => absurd q (by decide), fun ⟨p, p0, p1, _⟩ => by omega⟩
  | succ n ih =>
    intro i hn hok hi
    have e := ih i (by omega) (fun p p0 p1 => hok p p0 (by omega)) hi
    have hk := hok n (by omega) (by omega)
    have hb := bit_1 (x := s) (j := (n : Int)) (by omega) (by omega)
    unfold tBN
    by_cases hc : bAnd (bShr s n) 1 = 1 ∧ 0 ≤ tl n
    · rw [if_pos hc, tb_or, Bool.or_eq_true, e, tb_sI hc.2 (by omega) hi]
      refine ⟨fun q => ?_, fun ⟨p, p0, p1, p2, p3⟩ => ?_⟩
      · rcases q with ⟨p, p0, p1, p2, p3⟩ | q
        · exact ⟨p, p0, by omega, p2, p3⟩
        · exact ⟨n, by omega, by omega, hb.mp hc.1, q.symm⟩
      · by_cases hp : p = n
        · rw [hp] at p3; exact Or.inr p3.symm
        · exact Or.inl ⟨p, p0, by omega, p2, p3⟩
    · rw [if_neg hc, e]
      refine ⟨fun ⟨p, p0, p1, p2, p3⟩ => ⟨p, p0, by omega, p2, p3⟩, fun ⟨p, p0, p1, p2, p3⟩ => ⟨p, p0, ?_, p2, p3⟩⟩
      by_cases hp : p = n
      · rw [hp] at p2 p3
        exact absurd ⟨hb.mpr p2, by omega⟩ hc
      · omega
theorem tb_tdN {tl : Int → Int} : ∀ (n : Nat) (i : Nat), n ≤ 12 → okT tl n → i < 32 → (tb (tdN tl n) i = true ↔ ∃ p : Int, 0 ≤ p ∧ p < n ∧ tl p = i) := by
  intro n
  induction n with
  | zero =>
    intro i _ _ _
    show tb 0 i = true ↔ _
    rw [tb_0]
    exact ⟨fun q => absurd q (by decide), fun ⟨p, p0, p1, _⟩ => by omega⟩
  | succ n ih =>
    intro i hn hok hi
    have e := ih i (by omega) (fun p p0 p1 => hok p p0 (by omega)) hi
    have hk := hok n (by omega) (by omega)
    unfold tdN
    by_cases hc : tl n = -6
    · rw [if_pos hc, e]
      refine ⟨fun ⟨p, p0, p1, p3⟩ => ⟨p, p0, by omega, p3⟩, fun ⟨p, p0, p1, p3⟩ => ⟨p, p0, ?_, p3⟩⟩
      by_cases hp : p = n
      · rw [hp] at p3; omega
      · omega
    · rw [if_neg hc, tb_or, Bool.or_eq_true, e, tb_sI (by omega) (by omega) hi]
      refine ⟨fun q => ?_, fun ⟨p, p0, p1, p3⟩ => ?_⟩
      · rcases q with ⟨p, p0, p1, p3⟩ | q
        · exact ⟨p, p0, by omega, p3⟩
        · exact ⟨n, by omega, by omega, q.symm⟩
      · by_cases hp : p = n
        · rw [hp] at p3; exact Or.inr p3.symm
        · exact Or.inl ⟨p, p0, by omega, p3⟩
section
variable {tl : Int → Int} {pg s : Int}
theorem tb_tB {i : Nat} (h0 : 0 ≤ pg) (h1 : pg ≤ 12) (hok : okT tl pg) (hi : i < 32) : tb (tB tl s pg) i = true ↔ ∃ p : Int, 0 ≤ p ∧ p < pg ∧ tb s p.toNat = true ∧ tl p = i := by
  have e : ((pg.toNat : Nat) : Int) = pg := by omega
  have := tb_tBN (tl := tl) (s := s) pg.toNat i (by omega) (by rw [e]; exact hok) hi
  rw [e] at this
  exact this
theorem tb_td {i : Nat} (h0 : 0 ≤ pg) (h1 : pg ≤ 12) (hok : okT tl pg) (hi : i < 32) : tb (td tl pg) i = true ↔ ∃ p : Int, 0 ≤ p ∧ p < pg ∧ tl p = i := by
  have e : ((pg.toNat : Nat) : Int) = pg := by omega
  have := tb_tdN (tl := tl) pg.toNat i (by omega) (by rw [e]; exact hok) hi
  rw [e] at this
  exact this
theorem tb_iff {x y : Int} (hx : Rg x) (hy : Rg y) (h : ∀ i, i < 32 → (tb x i = true ↔ tb y i = true)) : x = y := tb_ext hx hy (fun i hi => by
  have := h i hi
  cases h1 : tb x i <;> cases h2 : tb y i <;> simp_all)
theorem tB_first {p : Int} (h1 : pg ≤ 12) (hok : okT tl pg) (p0 : 0 ≤ p) (p1 : p ≤ pg) : tB tl (2 ^ p.toNat - 1) pg = td tl p := tb_iff (tBN_rg _ _ _) (tdN_rg _ _) (fun i hi => by
  rw [tb_tB (by omega) h1 hok hi, tb_td p0 (by omega) (fun q q0 q1 => hok q q0 (by omega)) hi]
  refine ⟨fun ⟨q, q0, q1, q2, q3⟩ => ⟨q, q0, ?_, q3⟩, fun ⟨q, q0, q1, q3⟩ => ⟨q, q0, by omega, ?_, q3⟩⟩
  · rw [tb_full (by omega) (by omega), decide_eq_true_iff] at q2; omega
  · rw [tb_full (by omega) (by omega)]; exact decide_eq_true (by omega))
theorem tB_sub {i : Nat} (h0 : 0 ≤ pg) (h1 : pg ≤ 12) (hok : okT tl pg) (hi : i < 32) (h : tb (tB tl s pg) i = true) : tb (td tl pg) i = true := by
  obtain ⟨p, p0, p1, -, p3⟩ := (tb_tB h0 h1 hok hi).mp h
  exact (tb_td h0 h1 hok hi).mpr ⟨p, p0, p1, p3⟩
theorem tB_0 (h0 : 0 ≤ pg) (h1 : pg ≤ 12) (hok : okT tl pg) : tB tl 0 pg = 0 := tb_iff (tBN_rg _ _ _) (by omega) (fun i hi => by
  rw [tb_tB h0 h1 hok hi]
  refine ⟨fun ⟨p, p0, p1, p2, p3⟩ => ?_, fun q => ?_⟩
  · rw [tb_0] at p2; exact absurd p2 (by decide)
  · rw [tb_0] at q; exact absurd q (by decide))
/-- a page more tells its word -/
theorem tB_or {f : Int} (h1 : pg ≤ 12) (hok : okT tl pg) (f0 : 0 ≤ f) (f1 : f < pg) : tB tl (bOr s (bShl 1 f)) pg = if tl f = -6 then tB tl s pg else bOr (tB tl s pg) (bShl 1 (tl f)) := by
  have hf := hok f f0 f1
  have hb : ∀ p : Int, 0 ≤ p → p < pg → (tb (bOr s (bShl 1 f)) p.toNat = true ↔ tb s p.toNat = true ∨ p = f) := fun p p0 p1 => by
    rw [tb_or, Bool.or_eq_true, tb_sI f0 (by omega) (by omega)]
    exact ⟨fun q => q.imp id (fun z => by omega), fun q => q.imp id (fun z => by omega)⟩
  by_cases hc : tl f = -6
  · rw [if_pos hc]
    refine tb_iff (tBN_rg _ _ _) (tBN_rg _ _ _) (fun i hi => ?_)
    rw [tb_tB (by omega) h1 hok hi, tb_tB (by omega) h1 hok hi]
    refine ⟨fun ⟨p, p0, p1, p2, p3⟩ => ⟨p, p0, p1, ?_, p3⟩, fun ⟨p, p0, p1, p2, p3⟩ => ⟨p, p0, p1, (hb p p0 p1).mpr (Or.inl p2), p3⟩⟩
    rcases (hb p p0 p1).mp p2 with q | q
    · exact q
    · rw [q] at p3; omega
  · rw [if_neg hc]
    refine tb_iff (tBN_rg _ _ _) (b_rg _) (fun i hi => ?_)
    rw [tb_tB (by omega) h1 hok hi, tb_or, Bool.or_eq_true, tb_tB (by omega) h1 hok hi, tb_sI (by omega) (by omega) hi]
    refine ⟨fun ⟨p, p0, p1, p2, p3⟩ => ?_, fun q => ?_⟩
    · rcases (hb p p0 p1).mp p2 with q | q
      · exact Or.inl ⟨p, p0, p1, q, p3⟩
      · rw [q] at p3; exact Or.inr p3.symm
    · rcases q with ⟨p, p0, p1, p2, p3⟩ | q
      · exact ⟨p, p0, p1, (hb p p0 p1).mpr (Or.inl p2), p3⟩
      · exact ⟨f, f0, f1, (hb f f0 f1).mpr (Or.inr rfl), q.symm⟩
end
section
variable {mn : Int → Int} {tx : Int → Int → Int}
theorem nmP_hi {p : Int} {i : Nat} (h8 : 8 ≤ i) (hi : i < 32) : tb (nmP mn tx p) i = false := nmN_hi _ _ i h8 hi
theorem tb_not {x : Int} {i : Nat} (hi : i < 32) : tb (bXor x (-1)) i = !(tb x i) := by
  rw [tb_xor, tb_m1 i hi, Bool.xor_true]
theorem nmC_le {t ev p : Int} (h : ∀ i, i < 32 → tb t i = true → tb ev i = true) : nmC mn tx ev p ≤ nmC mn tx t p := cnt_mono (fun i hi q => by
  rw [tb_and, tb_not hi] at q ⊢
  have := h i hi
  cases h1 : tb (nmP mn tx p) i <;> cases h2 : tb t i <;> cases h3 : tb ev i <;> simp_all)
theorem nmC_eq {t ev p : Int} (h : ∀ i, i < 32 → tb t i = true → tb ev i = true) : nmC mn tx t p = nmC mn tx ev p ↔ bAnd (nmP mn tx p) (bAnd ev (bXor t (-1))) = 0 := by
  refine ⟨fun q => Classical.byContradiction (fun hn => ?_), fun q => ?_⟩
  · have hx : ∃ i, i < 32 ∧ tb (nmP mn tx p) i = true ∧ tb ev i = true ∧ tb t i = false := Classical.byContradiction (fun hno => hn (and_0.mpr (fun i hi z => hno ⟨i, hi, z.1, by
      have z2 := z.2
      rw [tb_and, tb_not hi] at z2
      cases h2 : tb t i <;> cases h3 : tb ev i <;> simp_all⟩)))
    obtain ⟨i, hi, a1, a2, a3⟩ := hx
    have h8 : i < 8 := by
      rcases Nat.lt_or_ge i 8 with z | z
      · exact z
      · rw [nmP_hi z hi] at a1; exact absurd a1 (by decide)
    have : nmC mn tx ev p < nmC mn tx t p := cnt_lt (m := i) (fun i hi q => by
      rw [tb_and, tb_not hi] at q ⊢
      have := h i hi
      cases h1 : tb (nmP mn tx p) i <;> cases h2 : tb t i <;> cases h3 : tb ev i <;> simp_all) (by omega) (by rw [tb_and, tb_not hi, a1, a2]; rfl) (by rw [tb_and, tb_not hi, a1, a3]; rfl)
    omega
  · unfold nmC
    refine congrArg cnt (tb_ext (b_rg _) (b_rg _) (fun i hi => ?_))
    have a := and_0.mp q i hi
    have := h i hi
    rw [tb_and, tb_not hi] at a
    rw [tb_and, tb_and, tb_not hi, tb_not hi]
    cases h1 : tb (nmP mn tx p) i <;> cases h2 : tb t i <;> cases h3 : tb ev i <;> simp_all
variable {tl : Int → Int} {pg s : Int}
/-- the fewest from a set of placed pages on -/
noncomputable def bs (mn : Int → Int) (tx : Int → Int → Int) (tl : Int → Int) (pg s : Int) : Int := sm (fun p => if tb s p.toNat = true then 0 else nmC mn tx (td tl pg) p) pg
theorem bs_rng (h0 : 0 ≤ pg) (h1 : pg ≤ 12) (s : Int) : 0 ≤ bs mn tx tl pg s ∧ bs mn tx tl pg s ≤ 144 := by
  have := sm_rng (g := fun p => if tb s p.toNat = true then 0 else nmC mn tx (td tl pg) p) (fun i => by
    show 0 ≤ (if tb s i.toNat = true then 0 else nmC mn tx (td tl pg) i) ∧ (if tb s i.toNat = true then 0 else nmC mn tx (td tl pg) i) ≤ 12
    have := nmC_rng mn tx (td tl pg) i
    split <;> omega) h0
  unfold bs
  omega
theorem bs_0 (h0 : 0 ≤ pg) : bs mn tx tl pg 0 = sm (nmC mn tx (td tl pg)) pg := smN_congr _ (fun p p0 p1 => by
  show (if tb 0 p.toNat = true then 0 else nmC mn tx (td tl pg) p) = _
  rw [tb_0, if_neg (by decide)])
theorem bs_full (h0 : 0 ≤ pg) (h1 : pg ≤ 12) : bs mn tx tl pg (2 ^ pg.toNat - 1) = 0 := sm_0s _ (fun p p0 p1 => by
  show (if tb (2 ^ pg.toNat - 1) p.toNat = true then 0 else nmC mn tx (td tl pg) p) = 0
  rw [tb_full (by omega) (by omega), if_pos (decide_eq_true (by omega))])
theorem bs_or {f : Int} (h1 : pg ≤ 12) (f0 : 0 ≤ f) (f1 : f < pg) (hf : tb s f.toNat = false) : bs mn tx tl pg (bOr s (bShl 1 f)) = bs mn tx tl pg s - nmC mn tx (td tl pg) f := by
  have hb : ∀ p : Int, 0 ≤ p → p < pg → (tb (bOr s (bShl 1 f)) p.toNat = true ↔ tb s p.toNat = true ∨ p = f) := fun p p0 p1 => by
    rw [tb_or, Bool.or_eq_true, tb_sI f0 (by omega) (by omega)]
    exact ⟨fun q => q.imp id (fun z => by omega), fun q => q.imp id (fun z => by omega)⟩
  have := sm_upd (g := fun p => if tb s p.toNat = true then 0 else nmC mn tx (td tl pg) p) (g' := fun p => if tb (bOr s (bShl 1 f)) p.toNat = true then 0 else nmC mn tx (td tl pg) p) (f := f) f0 (if_pos ((hb f f0 f1).mpr (Or.inr rfl))) pg.toNat (fun p p0 p1 hp => by
    show (if tb (bOr s (bShl 1 f)) p.toNat = true then 0 else nmC mn tx (td tl pg) p) = (if tb s p.toNat = true then 0 else nmC mn tx (td tl pg) p)
    by_cases q : tb s p.toNat = true
    · rw [if_pos q, if_pos ((hb p p0 (by omega)).mpr (Or.inl q))]
    · rw [if_neg q, if_neg (fun z => ((hb p p0 (by omega)).mp z).elim q hp)])
  rw [if_pos (by omega)] at this
  have e : (if tb s f.toNat = true then 0 else nmC mn tx (td tl pg) f) = nmC mn tx (td tl pg) f := if_neg (by rw [hf]; decide)
  rw [e] at this
  exact this
/-- some page not placed is as early as can be -/
theorem bs_wit {vs : Int} {du : Int → Int} (hI : IB vs pg mn tx tl du) (h0 : 0 ≤ pg) (h1 : pg ≤ 12) (s0 : 0 ≤ s) (s1 : s < 2 ^ pg.toNat) (hs : ¬ s = 2 ^ pg.toNat - 1) : ∃ q : Int, 0 ≤ q ∧ q < pg ∧ tb s q.toNat = false ∧ nmC mn tx (tB tl s pg) q = nmC mn tx (td tl pg) q := by
  have hok : okT tl pg := fun p p0 p1 => by rcases hI.2 p p0 p1 with q | q; exact Or.inl q.1; exact Or.inr ⟨q.1, q.2.1⟩
  by_cases hx : ∃ q : Int, 0 ≤ q ∧ q < pg ∧ tb s q.toNat = false ∧ ¬ tl q = -6
  · obtain ⟨q, q0, q1, q2, q3⟩ := hx
    have hm : mn (48 + q) = 0 := by rcases hI.2 q q0 q1 with z | z; exact absurd z.1 q3; exact z.2.2
    exact ⟨q, q0, q1, q2, by rw [nmC_0 hm, nmC_0 hm]⟩
  · obtain ⟨k, k1, k2⟩ := (full_or (p := pg.toNat) (by omega) s0 s1).resolve_left hs
    refine ⟨k, by omega, by omega, k2, ?_⟩
    have e : tB tl s pg = td tl pg := tb_iff (tBN_rg _ _ _) (tdN_rg _ _) (fun i hi => ⟨fun q => tB_sub h0 h1 hok hi q, fun q => by
      obtain ⟨p, p0, p1, p2⟩ := (tb_td h0 h1 hok hi).mp q
      refine (tb_tB h0 h1 hok hi).mpr ⟨p, p0, p1, ?_, p2⟩
      cases hb : tb s p.toNat with
      | true => rfl
      | false => exact absurd ⟨p, p0, p1, hb, by omega⟩ hx⟩)
    rw [e]
end
