/-! stores with a name for the heap behind them; what a text comes to -/
section
variable {X : Ctx} {Q : State → Prop} {k n : Nat} {h : Pic} {pc : Nat} {L : List (Option Va)} {st : List Va} {cc : ByteArray} {nL : Nat} {own : String} {ret : Option FieldType}
theorem off1 {h : Pic} {a : Nat} {o : Ob} : Off [a] h (pu h a o) := Off.rf.put (by simp)
theorem r_putA {i ci kf a t : Nat} {tf : FieldType} {fs fs2 : List Va} {v : Va} (C : Cx X cc nL own ret) (hd : decode cc pc = .ok (.putfield i, 3)) (hf : FL own i ci kf false tf) (ha : h a = some (t, .inl (ci, fs))) (hn : narrow tf (cv v) = cv v) (hfit : fits tf (cv v) = true) (hfs : fs.set kf v = fs2) (kk : ∀ h', h' a = some (t, .inl (ci, fs2)) → Off [a] h h' → Go X Q k n h' (pc + 3) L st) : Go X Q k n h pc L (v :: vR a :: st) := by
  subst hfs
  exact r_put C hd hf ha hn hfit (kk _ pu_s off1)
theorem r_putFA {i ci kf a t : Nat} {tf : FieldType} {fs fs2 : List Va} {v : Va} (C : Cx X cc nL own ret) (hin2 : X.2.2.1.1.name = "<init>") (hd : decode cc pc = .ok (.putfield i, 3)) (hf : FL own i ci kf true tf) (how : classes[ci]?.map (fun r => r.1) = some own) (ha : h a = some (t, .inl (ci, fs))) (hn : narrow tf (cv v) = cv v) (hfit : fits tf (cv v) = true) (hfs : fs.set kf v = fs2) (kk : ∀ h', h' a = some (t, .inl (ci, fs2)) → Off [a] h h' → Go X Q k n h' (pc + 3) L st) : Go X Q k n h pc L (v :: vR a :: st) := by
  subst hfs
  exact r_putF C hin2 hd hf how ha hn hfit (kk _ pu_s off1)
theorem r_iastA {a t : Nat} {m i v : Int} {f : Int → Int} (C : Cx X cc nL own ret) (hd : decode cc pc = .ok (.iastore, 1)) (ha : h a = some (ia t 0 m f)) (h0 : 0 ≤ i) (h1 : i < m) (kk : ∀ h', h' a = some (ia t 0 m (fu f i v)) → Off [a] h h' → Go X Q k n h' (pc + 1) L st) : Go X Q k n h pc L (vI v :: vI i :: vR a :: st) := r_iast C hd ha h0 h1 (kk _ pu_s off1)
theorem r_castA {a t : Nat} {m i v : Int} {f : Int → Int} (C : Cx X cc nL own ret) (hd : decode cc pc = .ok (.castore, 1)) (ha : h a = some (ia t 1 m f)) (h0 : 0 ≤ i) (h1 : i < m) (h2 : 0 ≤ v ∧ v ≤ 65535) (kk : ∀ h', h' a = some (ia t 1 m (fu f i v)) → Off [a] h h' → Go X Q k n h' (pc + 1) L st) : Go X Q k n h pc L (vI v :: vI i :: vR a :: st) := r_cast C hd ha h0 h1 h2 (kk _ pu_s off1)
theorem r_zastA {a t : Nat} {m i v : Int} {f : Int → Int} (C : Cx X cc nL own ret) (hd : decode cc pc = .ok (.bastore, 1)) (ha : h a = some (ia t 2 m f)) (h0 : 0 ≤ i) (h1 : i < m) (h2 : v = 0 ∨ v = 1) (kk : ∀ h', h' a = some (ia t 2 m (fu f i v)) → Off [a] h h' → Go X Q k n h' (pc + 1) L st) : Go X Q k n h pc L (vI v :: vI i :: vR a :: st) := r_zast C hd ha h0 h1 h2 (kk _ pu_s off1)
theorem r_aastA {a t b tb kr : Nat} {m i : Int} {f : Int → Option Nat} {vs : List Va} (C : Cx X cc nL own ret) (hd : decode cc pc = .ok (.aastore, 1)) (ha : h a = some (ra t kr m f)) (hb : h b = some (tb, .inl ((tyR kr).1, vs))) (h0 : 0 ≤ i) (h1 : i < m) (kk : ∀ h', h' a = some (ra t kr m (fu f i (some b))) → Off [a] h h' → Go X Q k n h' (pc + 1) L st) : Go X Q k n h pc L (vR b :: vI i :: vR a :: st) := r_aast C hd ha hb h0 h1 (kk _ pu_s off1)
end
theorem Off.at {l : List Nat} {h h' : Pic} {q : Nat} {o : Option Ob} (x : Off l h h') (hq : q ∉ l) (e : h q = o) : h' q = o := (x q hq).trans e
theorem Off.a1 {h h' : Pic} {a q : Nat} {o o' : Ob} (x : Off [a] h h') (ha : h a = some o') (e : h q = some o) (hne : o = o' → False) : h' q = some o := (x q (by simp; exact ne_of e ha hne)).trans e
theorem TxR.a1 {h h' : Pic} {a q t c : Nat} {fs : List Va} {n : Int} {f : Int → Int} (ht : TxR h q n f) (x : Off [a] h h') (ha : h a = some (t, .inl (c, fs))) (hc : c ≠ 6) : TxR h' q n f := by
  obtain ⟨b, t1, t2, m, g, hs, hb, r⟩ := ht
  exact ⟨b, t1, t2, m, g, x.a1 ha hs (fun q => by cases q; exact hc rfl), x.a1 ha hb (fun q => by cases q), r⟩
-- what a text comes to
abbrev Sv : Type := Int × (Int × Int)
def ev (gv : Int → Int → (Int × Int) → Sv) (n : Int) (f : Int → Int) : Nat → Int → Int → (Int × Int) → Sv
  | 0, p, x, s => if f p = 120 then (x, s) else (f p - 48, s)
  | d + 1, p, x, s =>
    if f p = 120 then (x, s) else if isD (f p) then (f p - 48, s) else
    if (ev gv n f d (p + 1) x s).1 < 0 then ev gv n f d (p + 1) x s else
    if isW (f p) then gv (f p - 97) (ev gv n f d (p + 1) x s).1 (ev gv n f d (p + 1) x s).2 else
    if f p = 63 then
      (if (ev gv n f d (p + 1) x s).1 = 0 then ev gv n f d (pe n f d (p + 1)) x (ev gv n f d (p + 1) x s).2 else ev gv n f d (pe n f d (pe n f d (p + 1))) x (ev gv n f d (p + 1) x s).2)
    else if (ev gv n f d (pe n f d (p + 1)) x (ev gv n f d (p + 1) x s).2).1 < 0 then ev gv n f d (pe n f d (p + 1)) x (ev gv n f d (p + 1) x s).2
    else (jn (f p) (ev gv n f d (p + 1) x s).1 (ev gv n f d (pe n f d (p + 1)) x (ev gv n f d (p + 1) x s).2).1, (ev gv n f d (pe n f d (p + 1)) x (ev gv n f d (p + 1) x s).2).2)
/-- a word is given something, with o still to be open -/
def gvN (wn : Int → Int) (wt : Int → Int → Int) : Nat → Int → Int → (Int × Int) → Sv
  | 0, w, _, s => if wn w = 0 then (-10, (s.1, bOr s.2 (bShl 1 w))) else (-11, s)
  | o + 1, w, v, s => if wn w = 0 then (-10, (s.1, bOr s.2 (bShl 1 w))) else if 300 ≤ s.1 then (-11, s) else ev (gvN wn wt o) (wn w) (wt w) 6 0 v (s.1 + 1, bOr s.2 (bShl 1 w))
/-- what the whole text comes to, and what it used -/
def evT (wn : Int → Int) (wt : Int → Int → Int) (n : Int) (f : Int → Int) (x : Int) : Sv := ev (gvN wn wt 20) n f 6 0 x (0, 0)
def okS (r : Sv) (s : Int × Int) : Prop := (r.1 = -10 ∨ r.1 = -11 ∨ (0 ≤ r.1 ∧ r.1 ≤ 999)) ∧ s.1 ≤ r.2.1 ∧ r.2.1 ≤ 300
def okG (gv : Int → Int → (Int × Int) → Sv) : Prop := ∀ w v s, 0 ≤ w → w < 8 → 0 ≤ v → v ≤ 999 → 0 ≤ s.1 → s.1 ≤ 300 → okS (gv w v s) s
theorem jn_rng {c a b : Int} (ha : 0 ≤ a ∧ a ≤ 999) (hb : 0 ≤ b ∧ b ≤ 999) : 0 ≤ jn c a b ∧ jn c a b ≤ 999 := by
  unfold jn
  have hm := mul_rg ha hb
  (repeat' split) <;> omega
theorem nd0 {c : Int} (h : nd c = 0) : c = 120 ∨ isD c := by
  unfold nd at h
  (repeat' split at h) <;> omega
theorem nd1 {c : Int} (h : nd c = 1) : isW c := by
  unfold nd at h
  (repeat' split at h) <;> omega
theorem nd2 {c : Int} (h : nd c = 2) : c = 43 ∨ c = 45 ∨ c = 42 ∨ c = 109 := by
  unfold nd at h
  (repeat' split at h) <;> omega
theorem nd3 {c : Int} (h : nd c = 3) : c = 63 := by
  unfold nd at h
  (repeat' split at h) <;> omega
/-- the parts of a text without a fault -/
theorem pe_0 {n : Int} {f : Int → Int} {p e : Int} (h0 : 0 ≤ p) (he : pe n f 0 p = e) (h1 : 0 ≤ e) : p < n ∧ nd (f p) = 0 ∧ e = p + 1 := by
  have he' : (if nd (sgn n f p) < 0 ∨ 0 < nd (sgn n f p) then -1 - p else p + 1) = e := he
  by_cases hc : nd (sgn n f p) < 0 ∨ 0 < nd (sgn n f p)
  · rw [if_pos hc] at he'; omega
  · rw [if_neg hc] at he'
    have hp := nd_sgn (n := n) (f := f) (p := p) (by omega)
    rw [sgn_in h0 hp] at hc
    omega
theorem pe_s {n : Int} {f : Int → Int} {d : Nat} {p e : Int} (h0 : 0 ≤ p) (he : pe n f (d + 1) p = e) (h1 : 0 ≤ e) : p < n ∧ 0 ≤ nd (f p) ∧ pit (pe n f d) (nd (f p)).toNat (p + 1) = e := by
  have he' : (if nd (sgn n f p) < 0 then -1 - p else pit (pe n f d) (nd (sgn n f p)).toNat (p + 1)) = e := he
  by_cases hc : nd (sgn n f p) < 0
  · rw [if_pos hc] at he'; omega
  · rw [if_neg hc] at he'
    have hp := nd_sgn (n := n) (f := f) (p := p) (by omega)
    rw [sgn_in h0 hp] at hc he'
    exact ⟨hp, by omega, he'⟩
theorem pit_1 {g : Int → Int} {k : Nat} {e r : Int} (h0 : 0 ≤ e) (h : pit g (k + 1) e = r) (hr : 0 ≤ r) : 0 ≤ g e ∧ pit g k (g e) = r := by
  have hs : pit g (k + 1) e = pit g k (g e) := if_neg (by omega)
  rw [hs] at h
  rcases Int.lt_or_le (g e) 0 with q | q
  · rw [pit_neg _ _ q] at h; omega
  · exact ⟨q, h⟩
/-- what comes of a text without a fault is a number, GONE or ENDLESS -/
theorem ev_ok {gv : Int → Int → (Int × Int) → Sv} (hg : okG gv) {n : Int} {f : Int → Int} : ∀ (d : Nat) (p x e : Int) (s : Int × Int), 0 ≤ p → pe n f d p = e → 0 ≤ e → 0 ≤ x → x ≤ 999 → 0 ≤ s.1 → s.1 ≤ 300 → okS (ev gv n f d p x s) s := by
  intro d
  induction d with
  | zero =>
    intro p x e s h0 he h1 hx hx2 hs hs2
    obtain ⟨hp, hz, -⟩ := pe_0 h0 he h1
    have hc := nd0 hz
    show okS (if f p = 120 then (x, s) else (f p - 48, s)) s
    by_cases h2 : f p = 120
    · rw [if_pos h2]; exact ⟨by show x = -10 ∨ x = -11 ∨ _; omega, Int.le_refl _, hs2⟩
    · rw [if_neg h2]; exact ⟨by show f p - 48 = -10 ∨ f p - 48 = -11 ∨ (0 ≤ f p - 48 ∧ f p - 48 ≤ 999); omega, Int.le_refl _, hs2⟩
  | succ d ih =>
    intro p x e s h0 he h1 hx hx2 hs hs2
    obtain ⟨hp, hz, hpit⟩ := pe_s h0 he h1
    unfold ev
    by_cases h2 : f p = 120
    · rw [if_pos h2]; exact ⟨by show x = -10 ∨ x = -11 ∨ _; omega, Int.le_refl _, hs2⟩
    rw [if_neg h2]
    by_cases h3 : isD (f p)
    · rw [if_pos h3]; exact ⟨by show f p - 48 = -10 ∨ f p - 48 = -11 ∨ (0 ≤ f p - 48 ∧ f p - 48 ≤ 999); omega, Int.le_refl _, hs2⟩
    rw [if_neg h3]
    have hnd := nd_rng (f p)
    have hnz : nd (f p) ≠ 0 := fun q => by have := nd0 q; omega
    obtain ⟨k, hk⟩ : ∃ k, (nd (f p)).toNat = k + 1 := ⟨(nd (f p)).toNat - 1, by omega⟩
    rw [hk] at hpit
    obtain ⟨q1, q2⟩ := pit_1 (by omega) hpit h1
    have r1 := ih (p + 1) x _ s (by omega) rfl q1 hx hx2 hs hs2
    generalize ev gv n f d (p + 1) x s = a1 at r1 ⊢
    obtain ⟨r11, r12, r13⟩ := r1
    by_cases h4 : a1.1 < 0
    · rw [if_pos h4]; exact ⟨r11, r12, r13⟩
    rw [if_neg h4]
    by_cases h5 : isW (f p)
    · rw [if_pos h5]
      obtain ⟨g1, g2, g3⟩ := hg (f p - 97) a1.1 a1.2 (by omega) (by omega) (by omega) (by omega) (by omega) (by omega)
      exact ⟨g1, by omega, g3⟩
    rw [if_neg h5]
    have hnd1 : nd (f p) ≠ 1 := fun q => h5 (nd1 q)
    obtain ⟨k2, hk2⟩ : ∃ k2, k = k2 + 1 := ⟨k - 1, by omega⟩
    rw [hk2] at q2
    obtain ⟨q3, q4⟩ := pit_1 q1 q2 h1
    have r2 := ih (pe n f d (p + 1)) x _ a1.2 q1 rfl q3 hx hx2 (by omega) r13
    by_cases h6 : f p = 63
    · rw [if_pos h6]
      have hn3 : nd (f p) = 3 := by rw [h6]; decide
      have hk3 : k2 = 1 := by omega
      rw [hk3] at q4
      obtain ⟨q5, -⟩ := pit_1 q3 q4 h1
      have r3 := ih (pe n f d (pe n f d (p + 1))) x _ a1.2 q3 rfl q5 hx hx2 (by omega) r13
      by_cases h7 : a1.1 = 0
      · rw [if_pos h7]; exact ⟨r2.1, by have := r2.2.1; omega, r2.2.2⟩
      · rw [if_neg h7]; exact ⟨r3.1, by have := r3.2.1; omega, r3.2.2⟩
    rw [if_neg h6]
    generalize ev gv n f d (pe n f d (p + 1)) x a1.2 = a2 at r2 ⊢
    obtain ⟨r21, r22, r23⟩ := r2
    by_cases h7 : a2.1 < 0
    · rw [if_pos h7]; exact ⟨r21, by omega, r23⟩
    · rw [if_neg h7]
      have := jn_rng (c := f p) (a := a1.1) (b := a2.1) (by omega) (by omega)
      exact ⟨Or.inr (Or.inr this), by show s.1 ≤ a2.2.1; omega, r23⟩
/-- the words' texts are without a fault, or there are none -/
def okW (wn : Int → Int) (wt : Int → Int → Int) : Prop := ∀ w, 0 ≤ w → w < 8 → wn w = 0 ∨ (0 < wn w ∧ pe (wn w) (wt w) 6 0 = wn w)
theorem gvN_ok {wn : Int → Int} {wt : Int → Int → Int} (hw : okW wn wt) : ∀ (o : Nat), okG (gvN wn wt o) := by
  intro o
  induction o with
  | zero =>
    intro w v s h0 h1 hv hv2 hs hs2
    show okS (if wn w = 0 then (-10, (s.1, bOr s.2 (bShl 1 w))) else (-11, s)) s
    split
    · exact ⟨Or.inl rfl, Int.le_refl _, hs2⟩
    · exact ⟨Or.inr (Or.inl rfl), Int.le_refl _, hs2⟩
  | succ o ih =>
    intro w v s h0 h1 hv hv2 hs hs2
    show okS (if wn w = 0 then (-10, (s.1, bOr s.2 (bShl 1 w))) else if 300 ≤ s.1 then (-11, s) else ev (gvN wn wt o) (wn w) (wt w) 6 0 v (s.1 + 1, bOr s.2 (bShl 1 w))) s
    by_cases h2 : wn w = 0
    · rw [if_pos h2]; exact ⟨Or.inl rfl, Int.le_refl _, hs2⟩
    rw [if_neg h2]
    by_cases h3 : 300 ≤ s.1
    · rw [if_pos h3]; exact ⟨Or.inr (Or.inl rfl), Int.le_refl _, hs2⟩
    rw [if_neg h3]
    rcases hw w h0 h1 with h4 | ⟨h4, h5⟩
    · exact absurd h4 h2
    · have := ev_ok ih 6 0 v _ (s.1 + 1, bOr s.2 (bShl 1 w)) (Int.le_refl 0) h5 (by omega) hv hv2 (by show 0 ≤ s.1 + 1; omega) (by show s.1 + 1 ≤ 300; omega)
      exact ⟨this.1, by have := this.2.1; dsimp only at this; omega, this.2.2⟩
