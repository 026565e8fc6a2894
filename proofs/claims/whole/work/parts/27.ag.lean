/-! what is kept stays right where the texts are the same -/
theorem scN_congr {S S' : Int → Prop} : ∀ (j : Nat), (∀ q, 0 ≤ q → q < (j : Int) → (S q ↔ S' q)) → scN S j = scN S' j ∧ enN S j = enN S' j := by
  intro j
  induction j with
  | zero => intro _; exact ⟨rfl, rfl⟩
  | succ j ih =>
    intro h
    obtain ⟨i1, i2⟩ := ih (fun q q1 q2 => h q q1 (by omega))
    have hj := h j (by omega) (by omega)
    by_cases hp : S j
    · have hp' := hj.mp hp
      constructor
      · conv => lhs; unfold scN
        conv => rhs; unfold scN
        rw [if_pos hp, if_pos hp', i1]
      · conv => lhs; unfold enN
        conv => rhs; unfold enN
        rw [if_pos hp, if_pos hp', i1, i2]
    · have hp' : ¬ S' j := fun q => hp (hj.mpr q)
      constructor
      · conv => lhs; unfold scN
        conv => rhs; unfold scN
        rw [if_neg hp, if_neg hp', i1]
      · conv => lhs; unfold enN
        conv => rhs; unfold enN
        rw [if_neg hp, if_neg hp', i2]
theorem sc_congr {S S' : Int → Prop} {i : Int} (hi : 0 ≤ i) (h : ∀ q, 0 ≤ q → q < i → (S q ↔ S' q)) : sc S i = sc S' i ∧ en S i = en S' i := by
  unfold sc en
  exact scN_congr i.toNat (fun q q1 q2 => h q q1 (by omega))
section
variable {mn mn' : Int → Int} {tx tx' : Int → Int → Int} {tl tl' du du' : Int → Int} {v p : Int}
def AgV (mn mn' : Int → Int) (tx tx' : Int → Int → Int) (v : Int) : Prop := ∀ w, 0 ≤ w → w < 8 → mn' (8 * v + w) = mn (8 * v + w) ∧ tx' (8 * v + w) = tx (8 * v + w)
def AgP (mn mn' : Int → Int) (tx tx' : Int → Int → Int) (p : Int) : Prop := mn' (48 + p) = mn (48 + p) ∧ tx' (48 + p) = tx (48 + p)
theorem evV_ag (hw : okW (fun w => mn (8 * v + w)) (fun w => tx (8 * v + w))) (hp : 0 < mn (48 + p) ∧ pe (mn (48 + p)) (tx (48 + p)) 6 0 = mn (48 + p)) (hV : AgV mn mn' tx tx' v) (hP : AgP mn mn' tx tx' p) : evV mn' tx' v p = evV mn tx v p := by
  unfold evV
  rw [hP.1, hP.2]
  exact (evT_congr hw (fun w w0 w1 => ⟨(hV w w0 w1).1.symm, fun kz _ _ => by show tx (8 * v + w) kz = tx' (8 * v + w) kz; rw [(hV w w0 w1).2]⟩) (fun _ _ _ => rfl) hp.2 (by omega)).symm
theorem isS_ag {q : Int} (hV : AgV mn mn' tx tx' v) (h0 : 0 ≤ q) (h1 : q < 320) : isS mn' tx' v q ↔ isS mn tx v q := by
  unfold isS
  obtain ⟨e1, e2⟩ := hV (q / 40) (by omega) (by omega)
  rw [e1, e2]
theorem evS_ag {q : Int} (hw : okW (fun w => mn (8 * v + w)) (fun w => tx (8 * v + w))) (hS : isS mn tx v q) (hp : 0 < mn (48 + p) ∧ pe (mn (48 + p)) (tx (48 + p)) 6 0 = mn (48 + p)) (hV : AgV mn mn' tx tx' v) (hP : AgP mn mn' tx tx' p) (h0 : 0 ≤ q) (h1 : q < 320) : evS mn' tx' v q p = evS mn tx v q p := by
  unfold evS
  rw [hP.1, hP.2]
  refine (evT_congr (okW_S hw hS) (fun w w0 w1 => ⟨(hV w w0 w1).1.symm, fun kz _ _ => ?_⟩) (fun _ _ _ => rfl) hp.2 (by omega)).symm
  unfold wtS
  obtain ⟨e1, e2⟩ := hV (q / 40) (by omega) (by omega)
  by_cases hq : w = q / 40
  · rw [if_pos hq, if_pos hq, e2]
  · rw [if_neg hq, if_neg hq, (hV w w0 w1).2]
theorem ntc_ag {q : Int} (hw : okW (fun w => mn (8 * v + w)) (fun w => tx (8 * v + w))) (hS : isS mn tx v q) (hp : tl p = -6 → 0 < mn (48 + p) ∧ pe (mn (48 + p)) (tx (48 + p)) 6 0 = mn (48 + p)) (hV : AgV mn mn' tx tx' v) (hP : AgP mn mn' tx tx' p) (ht : tl' p = tl p) (hd : tl p = -6 → du' p = du p) (h0 : 0 ≤ q) (h1 : q < 320) : ntc mn' tx' tl' du' v q p ↔ ntc mn tx tl du v q p := by
  by_cases hex : tl p = -6
  · unfold ntc hold
    rw [ht, hd hex, evV_ag hw (hp hex) hV hP, evS_ag hw hS (hp hex) hV hP h0 h1]
  · exact ⟨fun z => absurd (ht ▸ z.1.1) hex, fun z => absurd z.1.1 hex⟩
end
section
variable {vs pg vs' pg' : Int} {mn mn' : Int → Int} {tx tx' : Int → Int → Int} {tl tl' du du' kn ca us no : Int → Int}
theorem OkO_ag (ho : OkO vs pg mn tx tl kn ca us) (hok : okB vs pg mn tx tl) (hv : vs ≤ vs') (hp : pg ≤ pg') (hA : ∀ v p, 0 ≤ v → v < vs → 0 ≤ p → p < pg → ¬ kn (v * 12 + p) = 0 → AgV mn mn' tx tx' v) (hP : ∀ p, 0 ≤ p → p < pg → AgP mn mn' tx tx' p ∧ tl' p = tl p) : OkO vs' pg' mn' tx' tl' kn ca us := by
  intro v p q1 q2 q3 q4 q5
  obtain ⟨⟨r1, r2, r3⟩, r4, r5⟩ := ho v p q1 q2 q3 q4 q5
  obtain ⟨s1, s2⟩ := hP p q3 r2
  rw [evV_ag (hok.1 v q1 r1) (hok.2 p q3 r2 r3) (hA v p q1 r1 q3 r2 q5) s1]
  exact ⟨⟨by omega, by omega, by rw [s2]; exact r3⟩, r4, r5⟩
theorem OkS_ag (ho : OkS vs pg mn tx tl du kn no) (hok : okB vs pg mn tx tl) (hv : vs ≤ vs') (hpg : 0 ≤ pg) (hp : pg = pg' ∨ (pg' = pg + 1 ∧ ¬ tl' pg = -6)) (hA : ∀ v, 0 ≤ v → v < vs → ¬ kn v = 0 → AgV mn mn' tx tx' v) (hP : ∀ p, 0 ≤ p → p < pg → AgP mn mn' tx tx' p ∧ tl' p = tl p ∧ (tl p = -6 → du' p = du p)) : OkS vs' pg' mn' tx' tl' du' kn no := by
  intro v q1 q2 q3
  obtain ⟨r1, r2⟩ := ho v q1 q2 q3
  have hV := hA v q1 r1 q3
  obtain ⟨s1, s2⟩ := sc_congr (S := isS mn' tx' v) (S' := isS mn tx v) (i := 320) (by omega) (fun q z1 z2 => isS_ag hV z1 z2)
  refine ⟨by omega, fun s s0 s3 => ?_⟩
  rw [s1] at s3
  rw [r2 s s0 s3, s2]
  obtain ⟨t1, t2, t3⟩ := en_ok (isS mn tx v) (i := 320) (s := s) (by omega) s0 s3
  have hcg : bt (ntc mn' tx' tl' du' v (en (isS mn tx v) 320 s)) pg = bt (ntc mn tx tl du v (en (isS mn tx v) 320 s)) pg := bt_congr (fun p p0 p1 => ntc_ag (hok.1 v q1 r1) t1 (hok.2 p p0 p1) hV (hP p p0 p1).1 (hP p p0 p1).2.1 (hP p p0 p1).2.2 t2 t3)
  rcases hp with rfl | ⟨rfl, hn⟩
  · exact hcg.symm
  · rw [bt_f hpg (fun z => hn z.1.1), hcg]
theorem OkS_0 (h : ∀ c, 0 ≤ c → c < 6 → kn c = 0) : OkS vs pg mn tx tl du kn no := fun v q1 q2 q3 => absurd (h v q1 q2) q3
theorem OkO_0 (h : ∀ c, 0 ≤ c → c < 72 → kn c = 0) : OkO vs pg mn tx tl kn ca us := fun v p q1 q2 q3 q4 q5 => absurd (h _ (by omega) (by omega)) q5
end
/-- what holds of a book at all times -/
def IB (vs pg : Int) (mn : Int → Int) (tx : Int → Int → Int) (tl du : Int → Int) : Prop := okB vs pg mn tx tl ∧ ∀ p, 0 ≤ p → p < pg → ((tl p = -6 ∧ 0 ≤ du p ∧ du p ≤ 999) ∨ (0 ≤ tl p ∧ tl p < 8 ∧ mn (48 + p) = 0))
theorem IB.du {vs pg : Int} {mn : Int → Int} {tx : Int → Int → Int} {tl du : Int → Int} (hi : IB vs pg mn tx tl du) : ∀ p, 0 ≤ p → p < pg → tl p = -6 → 0 ≤ du p := fun p p0 p1 e => by
  rcases hi.2 p p0 p1 with q | q <;> omega
