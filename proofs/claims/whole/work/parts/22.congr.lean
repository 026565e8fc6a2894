/-! what a text comes to depends on its signs alone, and on the words that it uses -/
theorem sgn_congr {n : Int} {f f' : Int → Int} (hf : ∀ k, 0 ≤ k → k < n → f k = f' k) (p : Int) : sgn n f p = sgn n f' p := by
  unfold sgn
  by_cases h : 0 ≤ p ∧ p < n
  · rw [if_pos h, if_pos h, hf p h.1 h.2]
  · rw [if_neg h, if_neg h]
theorem pe_congr {n : Int} {f f' : Int → Int} (hf : ∀ k, 0 ≤ k → k < n → f k = f' k) : ∀ (d : Nat), pe n f d = pe n f' d := by
  intro d
  induction d with
  | zero =>
    funext p
    show (if nd (sgn n f p) < 0 ∨ 0 < nd (sgn n f p) then -1 - p else p + 1) = (if nd (sgn n f' p) < 0 ∨ 0 < nd (sgn n f' p) then -1 - p else p + 1)
    rw [sgn_congr hf]
  | succ d ih =>
    funext p
    show (if nd (sgn n f p) < 0 then -1 - p else pit (pe n f d) (nd (sgn n f p)).toNat (p + 1)) = (if nd (sgn n f' p) < 0 then -1 - p else pit (pe n f' d) (nd (sgn n f' p)).toNat (p + 1))
    rw [sgn_congr hf, ih]
theorem ev_congr {gv gv' : Int → Int → (Int × Int) → Sv} (hg : ∀ w v s, 0 ≤ w → w < 8 → gv w v s = gv' w v s) {n : Int} {f f' : Int → Int} (hf : ∀ k, 0 ≤ k → k < n → f k = f' k) : ∀ (d : Nat) (p x e : Int) (s : Int × Int), 0 ≤ p → pe n f d p = e → 0 ≤ e → ev gv n f d p x s = ev gv' n f' d p x s := by
  intro d
  induction d with
  | zero =>
    intro p x e s h0 he h1
    obtain ⟨hp, -, -⟩ := pe_0 h0 he h1
    show (if f p = 120 then (x, s) else (f p - 48, s)) = (if f' p = 120 then (x, s) else (f' p - 48, s))
    rw [hf p h0 hp]
  | succ d ih =>
    intro p x e s h0 he h1
    obtain ⟨hp, hz, hpit⟩ := pe_s h0 he h1
    have hfp := hf p h0 hp
    have hpd := pe_congr hf d
    by_cases h2 : f p = 120
    · rw [ev_x h2, ev_x (hfp ▸ h2)]
    by_cases h3 : isD (f p)
    · rw [ev_d h2 h3, ev_d (hfp ▸ h2) (hfp ▸ h3), hfp]
    have hnd := nd_rng (f p)
    have hnz : nd (f p) ≠ 0 := fun q => by have := nd0 q; omega
    obtain ⟨k, hk⟩ : ∃ k, (nd (f p)).toNat = k + 1 := ⟨(nd (f p)).toNat - 1, by omega⟩
    rw [hk] at hpit
    obtain ⟨q1, q2⟩ := pit_1 (by omega) hpit h1
    have r1 := ih (p + 1) x _ s (by omega) rfl q1
    by_cases h4 : (ev gv n f d (p + 1) x s).1 < 0
    · rw [ev_neg h2 h3 h4, ev_neg (hfp ▸ h2) (hfp ▸ h3) (r1 ▸ h4), r1]
    by_cases h5 : isW (f p)
    · rw [ev_w h2 h3 h4 h5, ev_w (hfp ▸ h2) (hfp ▸ h3) (r1 ▸ h4) (hfp ▸ h5), r1, hfp]
      exact hg _ _ _ (by omega) (by omega)
    have hnd1 : nd (f p) ≠ 1 := fun q => h5 (nd1 q)
    obtain ⟨k2, hk2⟩ : ∃ k2, k = k2 + 1 := ⟨k - 1, by omega⟩
    rw [hk2] at q2
    obtain ⟨q3, q4⟩ := pit_1 q1 q2 h1
    have r2 := fun s' => ih (pe n f d (p + 1)) x _ s' q1 rfl q3
    by_cases h6 : f p = 63
    · have hn3 : nd (f p) = 3 := by rw [h6]; decide
      have hk3 : k2 = 1 := by omega
      rw [hk3] at q4
      obtain ⟨q5, -⟩ := pit_1 q3 q4 h1
      have r3 := fun s' => ih (pe n f d (pe n f d (p + 1))) x _ s' q3 rfl q5
      by_cases h7 : (ev gv n f d (p + 1) x s).1 = 0
      · rw [ev_q0 h4 h6 h7, ev_q0 (r1 ▸ h4) (hfp ▸ h6) (r1 ▸ h7), r2, r1, hpd]
      · rw [ev_q1 h4 h6 h7, ev_q1 (r1 ▸ h4) (hfp ▸ h6) (r1 ▸ h7), r3, r1, hpd]
    have e2 : ev gv n f d (pe n f d (p + 1)) x (ev gv n f d (p + 1) x s).2 = ev gv' n f' d (pe n f' d (p + 1)) x (ev gv' n f' d (p + 1) x s).2 := by rw [r2, r1, hpd]
    by_cases h7 : (ev gv n f d (pe n f d (p + 1)) x (ev gv n f d (p + 1) x s).2).1 < 0
    · rw [ev_jn h2 h3 h4 h5 h6 h7, ev_jn (hfp ▸ h2) (hfp ▸ h3) (r1 ▸ h4) (hfp ▸ h5) (hfp ▸ h6) (e2 ▸ h7), e2]
    · rw [ev_j h2 h3 h4 h5 h6 h7, ev_j (hfp ▸ h2) (hfp ▸ h3) (r1 ▸ h4) (hfp ▸ h5) (hfp ▸ h6) (e2 ▸ h7), e2, r1, hfp]
/-- the words are the same -/
def sameW (wn wn' : Int → Int) (wt wt' : Int → Int → Int) : Prop := ∀ w, 0 ≤ w → w < 8 → wn w = wn' w ∧ ∀ k, 0 ≤ k → k < wn w → wt w k = wt' w k
theorem gvN_congr {wn wn' : Int → Int} {wt wt' : Int → Int → Int} (hw : okW wn wt) (hs : sameW wn wn' wt wt') : ∀ (o : Nat) (w v : Int) (s : Int × Int), 0 ≤ w → w < 8 → gvN wn wt o w v s = gvN wn' wt' o w v s := by
  intro o
  induction o with
  | zero =>
    intro w v s h0 h1
    show (if wn w = 0 then _ else _) = (if wn' w = 0 then _ else _)
    rw [(hs w h0 h1).1]
  | succ o ih =>
    intro w v s h0 h1
    obtain ⟨e1, e2⟩ := hs w h0 h1
    by_cases hz : wn w = 0
    · rw [gv_gone hz, gv_gone (e1 ▸ hz)]
    by_cases h3 : 300 ≤ s.1
    · rw [gv_end hz h3, gv_end (e1 ▸ hz) h3]
    · rw [gv_in hz h3, gv_in (e1 ▸ hz) h3]
      rcases hw w h0 h1 with h4 | ⟨h4, h5⟩
      · exact absurd h4 hz
      · rw [ev_congr ih e2 6 0 v _ _ (Int.le_refl 0) h5 (by omega), e1]
theorem evT_congr {wn wn' : Int → Int} {wt wt' : Int → Int → Int} {n x : Int} {f f' : Int → Int} (hw : okW wn wt) (hs : sameW wn wn' wt wt') (hf : ∀ k, 0 ≤ k → k < n → f k = f' k) (hv : pe n f 6 0 = n) (hn : 0 ≤ n) : evT wn wt n f x = evT wn' wt' n f' x := ev_congr (gvN_congr hw hs 20) hf 6 0 x _ _ (Int.le_refl 0) hv hn
-- used words
theorem tb_up {u w : Int} {i : Nat} (h : tb u i = true) : tb (bOr u (bShl 1 w)) i = true := by rw [tb_or, h]; rfl
theorem tb_own {u w : Int} (h0 : 0 ≤ w) (h8 : w < 8) : tb (bOr u (bShl 1 w)) w.toNat = true := by
  obtain ⟨k, rfl⟩ := Int.eq_ofNat_of_zero_le h0
  rw [tb_or]
  show (_ || tb (bShl 1 (k : Int)) k) = true
  rw [tb_shl (by omega) (by omega)]
  simp
/-- what was used stays used -/
def mono (gv : Int → Int → (Int × Int) → Sv) : Prop := ∀ w v s i, 0 ≤ w → w < 8 → tb s.2 i = true → tb (gv w v s).2.2 i = true
theorem ev_mono {gv : Int → Int → (Int × Int) → Sv} (hg : mono gv) {n : Int} {f : Int → Int} : ∀ (d : Nat) (p x : Int) (s : Int × Int) (i : Nat), tb s.2 i = true → tb (ev gv n f d p x s).2.2 i = true := by
  intro d
  induction d with
  | zero =>
    intro p x s i h
    show tb (if f p = 120 then (x, s) else (f p - 48, s)).2.2 i = true
    split <;> exact h
  | succ d ih =>
    intro p x s i h
    have r1 := ih (p + 1) x s i h
    unfold ev
    split
    · exact h
    split
    · exact h
    split
    · exact r1
    split
    · rename_i h5
      exact hg _ _ _ _ (by omega) (by omega) r1
    split
    · split
      · exact ih _ x _ i r1
      · exact ih _ x _ i r1
    split
    · exact ih _ x _ i r1
    · exact ih _ x _ i r1
theorem gvN_mono {wn : Int → Int} {wt : Int → Int → Int} : ∀ (o : Nat), mono (gvN wn wt o) := by
  intro o
  induction o with
  | zero =>
    intro w v s i h0 h1 h
    show tb (if wn w = 0 then ((-10 : Int), (s.1, bOr s.2 (bShl 1 w))) else (-11, s)).2.2 i = true
    split
    · exact tb_up h
    · exact h
  | succ o ih =>
    intro w v s i h0 h1 h
    by_cases hz : wn w = 0
    · rw [gv_gone hz]; exact tb_up h
    by_cases h3 : 300 ≤ s.1
    · rw [gv_end hz h3]; exact h
    · rw [gv_in hz h3]; exact ev_mono ih 6 0 v _ i (tb_up h)
/-- with a word that isn't used as another one, a number comes out the same -/
def unus (w0 : Int) (gv gv' : Int → Int → (Int × Int) → Sv) : Prop := ∀ w v s, 0 ≤ w → w < 8 → 0 ≤ (gv w v s).1 → tb (gv w v s).2.2 w0.toNat = false → gv' w v s = gv w v s
theorem ev_unus {w0 : Int} {gv gv' : Int → Int → (Int × Int) → Sv} (hg : unus w0 gv gv') (hm : mono gv) {n : Int} {f : Int → Int} : ∀ (d : Nat) (p x : Int) (s : Int × Int), 0 ≤ (ev gv n f d p x s).1 → tb (ev gv n f d p x s).2.2 w0.toNat = false → ev gv' n f d p x s = ev gv n f d p x s := by
  intro d
  induction d with
  | zero => intro p x s _ _; rfl
  | succ d ih =>
    intro p x s h0 h1
    by_cases h2 : f p = 120
    · rw [ev_x h2, ev_x h2]
    by_cases h3 : isD (f p)
    · rw [ev_d h2 h3, ev_d h2 h3]
    by_cases h4 : (ev gv n f d (p + 1) x s).1 < 0
    · rw [ev_neg h2 h3 h4] at h0; omega
    by_cases h5 : isW (f p)
    · rw [ev_w h2 h3 h4 h5] at h0 h1
      have hu : tb (ev gv n f d (p + 1) x s).2.2 w0.toNat = false := by
        cases hb : tb (ev gv n f d (p + 1) x s).2.2 w0.toNat with
        | false => rfl
        | true =>
          have := hm (f p - 97) (ev gv n f d (p + 1) x s).1 _ _ (by omega) (by omega) hb
          rw [h1] at this; cases this
      have r1 := ih (p + 1) x s (by omega) hu
      rw [ev_w h2 h3 h4 h5, ev_w h2 h3 (by rw [r1]; exact h4) h5, r1]
      exact hg _ _ _ (by omega) (by omega) h0 h1
    by_cases h6 : f p = 63
    · by_cases h7 : (ev gv n f d (p + 1) x s).1 = 0
      · rw [ev_q0 h4 h6 h7] at h0 h1
        have hu : tb (ev gv n f d (p + 1) x s).2.2 w0.toNat = false := by
          cases hb : tb (ev gv n f d (p + 1) x s).2.2 w0.toNat with
          | false => rfl
          | true =>
            have := ev_mono hm (n := n) (f := f) d (pe n f d (p + 1)) x _ _ hb
            rw [h1] at this; cases this
        have r1 := ih (p + 1) x s (by omega) hu
        rw [ev_q0 h4 h6 h7, ev_q0 (by rw [r1]; exact h4) h6 (by rw [r1]; exact h7), r1]
        exact ih _ x _ h0 h1
      · rw [ev_q1 h4 h6 h7] at h0 h1
        have hu : tb (ev gv n f d (p + 1) x s).2.2 w0.toNat = false := by
          cases hb : tb (ev gv n f d (p + 1) x s).2.2 w0.toNat with
          | false => rfl
          | true =>
            have := ev_mono hm (n := n) (f := f) d (pe n f d (pe n f d (p + 1))) x _ _ hb
            rw [h1] at this; cases this
        have r1 := ih (p + 1) x s (by omega) hu
        rw [ev_q1 h4 h6 h7, ev_q1 (by rw [r1]; exact h4) h6 (by rw [r1]; exact h7), r1]
        exact ih _ x _ h0 h1
    by_cases h7 : (ev gv n f d (pe n f d (p + 1)) x (ev gv n f d (p + 1) x s).2).1 < 0
    · rw [ev_jn h2 h3 h4 h5 h6 h7] at h0; omega
    · rw [ev_j h2 h3 h4 h5 h6 h7] at h1
      have hu : tb (ev gv n f d (p + 1) x s).2.2 w0.toNat = false := by
        cases hb : tb (ev gv n f d (p + 1) x s).2.2 w0.toNat with
        | false => rfl
        | true =>
          have := ev_mono hm (n := n) (f := f) d (pe n f d (p + 1)) x _ _ hb
          rw [h1] at this; cases this
      have r1 := ih (p + 1) x s (by omega) hu
      have r2 := ih (pe n f d (p + 1)) x (ev gv n f d (p + 1) x s).2 (by omega) h1
      rw [ev_j h2 h3 h4 h5 h6 h7, ev_j h2 h3 (by rw [r1]; exact h4) h5 h6 (by rw [r1, r2]; exact h7), r1, r2]
theorem gvN_unus {w0 : Int} (hw0 : 0 ≤ w0) (hw8 : w0 < 8) {wn wn' : Int → Int} {wt wt' : Int → Int → Int} (hs : ∀ w, 0 ≤ w → w < 8 → w ≠ w0 → wn' w = wn w ∧ wt' w = wt w) : ∀ (o : Nat), unus w0 (gvN wn wt o) (gvN wn' wt' o) := by
  intro o
  induction o with
  | zero =>
    intro w v s h0 h1 hv _
    have : (gvN wn wt 0 w v s).1 < 0 := by
      show (if wn w = 0 then ((-10 : Int), (s.1, bOr s.2 (bShl 1 w))) else (-11, s)).1 < 0
      split
      · show (-10 : Int) < 0; decide
      · show (-11 : Int) < 0; decide
    omega
  | succ o ih =>
    intro w v s h0 h1 hv hu
    by_cases hz : wn w = 0
    · rw [gv_gone hz] at hv; exact absurd (show (0 : Int) ≤ -10 from hv) (by decide)
    by_cases h3 : 300 ≤ s.1
    · rw [gv_end hz h3] at hv; exact absurd (show (0 : Int) ≤ -11 from hv) (by decide)
    rw [gv_in hz h3] at hv hu
    by_cases hww : w = w0
    · subst hww
      have := ev_mono (gvN_mono (wn := wn) (wt := wt) o) (n := wn w) (f := wt w) 6 0 v (s.1 + 1, bOr s.2 (bShl 1 w)) _ (tb_own hw0 hw8)
      rw [hu] at this
      cases this
    · obtain ⟨e1, e2⟩ := hs w h0 h1 hww
      rw [gv_in hz h3, gv_in (by rw [e1]; exact hz) h3, e1, e2]
      exact ev_unus ih (gvN_mono o) 6 0 v _ hv hu
theorem evT_unus {w0 : Int} (hw0 : 0 ≤ w0) (hw8 : w0 < 8) {wn wn' : Int → Int} {wt wt' : Int → Int → Int} {n x : Int} {f : Int → Int} (hs : ∀ w, 0 ≤ w → w < 8 → w ≠ w0 → wn' w = wn w ∧ wt' w = wt w) (hv : 0 ≤ (evT wn wt n f x).1) (hu : tb (evT wn wt n f x).2.2 w0.toNat = false) : evT wn' wt' n f x = evT wn wt n f x := ev_unus (gvN_unus hw0 hw8 hs 20) (gvN_mono 20) 6 0 x (0, 0) hv hu
