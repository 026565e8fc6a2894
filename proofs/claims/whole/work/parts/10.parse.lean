/-! where a text ends: the pure part -/
def pit (g : Int → Int) : Nat → Int → Int
  | 0, e => e
  | k + 1, e => if e < 0 then e else pit g k (g e)
/-- the place behind the text at p, d levels left; -1 less the place of a fault -/
def pe (n : Int) (f : Int → Int) : Nat → Int → Int
  | 0, p => if nd (sgn n f p) < 0 ∨ 0 < nd (sgn n f p) then -1 - p else p + 1
  | d + 1, p => if nd (sgn n f p) < 0 then -1 - p else pit (pe n f d) (nd (sgn n f p)).toNat (p + 1)
theorem nd_rng (c : Int) : nd c = -6 ∨ nd c = 0 ∨ nd c = 1 ∨ nd c = 2 ∨ nd c = 3 := by
  unfold nd
  (repeat' split) <;> omega
theorem nd_0 : nd 0 = -6 := by decide
theorem sgn_in {n p : Int} {f : Int → Int} (h0 : 0 ≤ p) (h1 : p < n) : sgn n f p = f p := if_pos ⟨h0, h1⟩
theorem sgn_out {n p : Int} {f : Int → Int} (h1 : n ≤ p) : sgn n f p = 0 := if_neg (by omega)
theorem nd_sgn {n p : Int} {f : Int → Int} (h : 0 ≤ nd (sgn n f p)) : p < n := by
  rcases Int.lt_or_le p n with q | q
  · exact q
  · rw [sgn_out q, nd_0] at h
    omega
theorem pit_neg (g : Int → Int) (k : Nat) {e : Int} (h : e < 0) : pit g k e = e := by
  cases k with
  | zero => rfl
  | succ k => exact if_pos h
theorem pit_rng {g : Int → Int} {n : Int} (hg : ∀ p, 0 ≤ p → p ≤ n → (-1 - n ≤ g p ∧ g p ≤ n ∧ (0 ≤ g p → p < g p))) : ∀ (k : Nat) (e : Int), -1 - n ≤ e → e ≤ n → (-1 - n ≤ pit g k e ∧ pit g k e ≤ n ∧ (0 ≤ pit g k e → e ≤ pit g k e)) := by
  intro k
  induction k with
  | zero => intro e h1 h2; exact ⟨h1, h2, fun _ => Int.le_refl _⟩
  | succ k ih =>
    intro e h1 h2
    by_cases he : e < 0
    · rw [pit_neg g _ he]
      exact ⟨h1, h2, fun _ => Int.le_refl _⟩
    · have hs : pit g (k + 1) e = pit g k (g e) := if_neg he
      rw [hs]
      obtain ⟨a1, a2, a3⟩ := hg e (by omega) h2
      obtain ⟨b1, b2, b3⟩ := ih (g e) a1 a2
      refine ⟨b1, b2, fun h => ?_⟩
      by_cases hn : g e < 0
      · rw [pit_neg g _ hn] at h
        omega
      · have := a3 (by omega)
        have := b3 h
        omega
theorem pe_rng (n : Int) (f : Int → Int) : ∀ (d : Nat) (p : Int), 0 ≤ p → p ≤ n → (-1 - n ≤ pe n f d p ∧ pe n f d p ≤ n ∧ (0 ≤ pe n f d p → p < pe n f d p)) := by
  intro d
  induction d with
  | zero =>
    intro p h0 h1
    have e1 : pe n f 0 p = if nd (sgn n f p) < 0 ∨ 0 < nd (sgn n f p) then -1 - p else p + 1 := rfl
    rw [e1]
    by_cases hc : nd (sgn n f p) < 0 ∨ 0 < nd (sgn n f p)
    · rw [if_pos hc]; omega
    · rw [if_neg hc]
      have := nd_sgn (n := n) (f := f) (p := p) (by omega)
      omega
  | succ d ih =>
    intro p h0 h1
    have e1 : pe n f (d + 1) p = if nd (sgn n f p) < 0 then -1 - p else pit (pe n f d) (nd (sgn n f p)).toNat (p + 1) := rfl
    rw [e1]
    by_cases hc : nd (sgn n f p) < 0
    · rw [if_pos hc]; omega
    · rw [if_neg hc]
      have := nd_sgn (n := n) (f := f) (p := p) (by omega)
      obtain ⟨a1, a2, a3⟩ := pit_rng ih (nd (sgn n f p)).toNat (p + 1) (by omega) (by omega)
      exact ⟨a1, a2, fun h => by have := a3 h; omega⟩
/-- THE FAULT: -6, if there is none -/
def flt (n : Int) (f : Int → Int) : Int := if pe n f 6 0 < 0 then -1 - pe n f 6 0 else if pe n f 6 0 < n then pe n f 6 0 else -6
/-- the scan behind a text: by the count of texts that are missing -/
def bhN (n : Int) (f : Int → Int) : Nat → Int → Int → Int
  | 0, _, _ => n
  | j + 1, m, p => if n ≤ p then n else if m + nd (f p) - 1 ≤ 0 then p + 1 else bhN n f j (m + nd (f p) - 1) (p + 1)
theorem bhN_pit {n : Int} {f : Int → Int} {d : Nat} (hd : ∀ (p e m : Int) (j : Nat), 0 ≤ p → pe n f d p = e → 0 ≤ e → 1 ≤ m → n - p < j → bhN n f j m p = if m ≤ 1 then e else bhN n f (j - (e - p).toNat) (m - 1) e) :
    ∀ (k : Nat) (p e m : Int) (j : Nat), 0 ≤ p → p ≤ n → pit (pe n f d) k p = e → 0 ≤ e → (k : Int) ≤ m → 1 ≤ m → n - p < j → bhN n f j m p = if m ≤ k then (if k = 0 then bhN n f j m p else e) else bhN n f (j - (e - p).toNat) (m - k) e := by
  intro k
  induction k with
  | zero =>
    intro p e m j h0 hpn he h1 h2 h3 h4
    have : p = e := he
    subst this
    rw [if_neg (by omega)]
    simp
  | succ k ih =>
    intro p e m j h0 hpn he h1 h2 h3 h4
    have hs : pit (pe n f d) (k + 1) p = pit (pe n f d) k (pe n f d p) := if_neg (by omega)
    rw [hs] at he
    obtain ⟨r1, r2, r3⟩ := pe_rng n f d p h0 hpn
    have hnn : 0 ≤ pe n f d p := by
      rcases Int.lt_or_le (pe n f d p) 0 with q | q
      · rw [pit_neg _ _ q] at he; omega
      · exact q
    have r4 := r3 hnn
    rw [hd p (pe n f d p) m j h0 rfl hnn h3 h4]
    by_cases hm : m ≤ 1
    · have hk : k = 0 := by omega
      subst hk
      rw [if_pos hm, if_pos (by omega), if_neg (by omega)]
      exact he
    · rw [if_neg hm]
      have hb := pit_rng (fun p h0 h1 => pe_rng n f d p h0 h1) k (pe n f d p) r1 r2
      rw [he] at hb
      have hb3 := hb.2.2 h1
      rw [ih (pe n f d p) e (m - 1) (j - (pe n f d p - p).toNat) hnn r2 he h1 (by omega) (by omega) (by omega)]
      by_cases hk : m - 1 ≤ k
      · rw [if_pos hk, if_neg (by omega), if_pos (by omega), if_neg (by omega)]
      · rw [if_neg hk, if_neg (by omega)]
        congr 1
        · omega
        · omega
theorem bhN_pe (n : Int) (f : Int → Int) : ∀ (d : Nat) (p e m : Int) (j : Nat), 0 ≤ p → pe n f d p = e → 0 ≤ e → 1 ≤ m → n - p < j → bhN n f j m p = if m ≤ 1 then e else bhN n f (j - (e - p).toNat) (m - 1) e := by
  intro d
  induction d with
  | zero =>
    intro p e m j h0 he h1 h2 h3
    have he' : (if nd (sgn n f p) < 0 ∨ 0 < nd (sgn n f p) then -1 - p else p + 1) = e := he
    by_cases hc : nd (sgn n f p) < 0 ∨ 0 < nd (sgn n f p)
    · rw [if_pos hc] at he'; omega
    · rw [if_neg hc] at he'
      have hp := nd_sgn (n := n) (f := f) (p := p) (by omega)
      rw [sgn_in h0 hp] at hc
      match j, h3 with
      | 0, h3 => omega
      | j + 1, h3 =>
        show (if n ≤ p then n else if m + nd (f p) - 1 ≤ 0 then p + 1 else bhN n f j (m + nd (f p) - 1) (p + 1)) = _
        rw [if_neg (by omega)]
        by_cases hm : m ≤ 1
        · rw [if_pos (by omega), if_pos hm]; omega
        · rw [if_neg (by omega), if_neg hm]
          congr 1
          · omega
          · omega
  | succ d ih =>
    intro p e m j h0 he h1 h2 h3
    have he' : (if nd (sgn n f p) < 0 then -1 - p else pit (pe n f d) (nd (sgn n f p)).toNat (p + 1)) = e := he
    by_cases hc : nd (sgn n f p) < 0
    · rw [if_pos hc] at he'; omega
    · rw [if_neg hc] at he'
      have hp := nd_sgn (n := n) (f := f) (p := p) (by omega)
      rw [sgn_in h0 hp] at hc he'
      have hr := pit_rng (fun p h0 h1 => pe_rng n f d p h0 h1) (nd (f p)).toNat (p + 1) (by omega) (by omega)
      rw [he'] at hr
      have hr3 := hr.2.2 h1
      match j, h3 with
      | 0, h3 => omega
      | j + 1, h3 =>
        show (if n ≤ p then n else if m + nd (f p) - 1 ≤ 0 then p + 1 else bhN n f j (m + nd (f p) - 1) (p + 1)) = _
        rw [if_neg (by omega)]
        by_cases hz : nd (f p) = 0
        · rw [hz] at he'
          have he2 : p + 1 = e := he'
          by_cases hm : m ≤ 1
          · rw [if_pos (by omega), if_pos hm]; omega
          · rw [if_neg (by omega), if_neg hm]
            congr 1
            · omega
            · omega
        · rw [if_neg (by omega)]
          rw [bhN_pit ih (nd (f p)).toNat (p + 1) e (m + nd (f p) - 1) j (by omega) (by omega) he' h1 (by omega) (by omega) (by omega)]
          by_cases hm : m ≤ 1
          · rw [if_pos (by omega), if_neg (by omega), if_pos hm]
          · rw [if_neg (by omega), if_neg hm]
            congr 1
            · omega
            · omega
/-- of a text without a fault: the place behind it -/
theorem bhN_end {n : Int} {f : Int → Int} {d : Nat} {p e : Int} {j : Nat} (h0 : 0 ≤ p) (he : pe n f d p = e) (h1 : 0 ≤ e) (hj : n - p < j) : bhN n f j 1 p = e := by
  rw [bhN_pe n f d p e 1 j h0 he h1 (by omega) hj, if_pos (by omega)]
