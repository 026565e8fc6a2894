/-! BookShows, third part: pages; what holds -/
section
variable {h h' : Pic} {x : Nat} {pn : Int} {pf : Int → Int} {vs pg : Int} {mn : Int → Int} {tx : Int → Int → Int} {tl du kp : Int → Int} {im : Int → Bs}
variable {pad pb tr bk ims kpa rk ao al ne i0 i1 nb z1 z2 z3 : Nat} {gp kf kn kn' cs kn2 no f : Int → Int} {fi : Int → Option Nat} {c : Int}
theorem RC_so (hra : RA h x pad pb tr bk ims kpa rk ao al ne i0 i1 pn pf gp kf kp fi im) (htr : TrR h tr) (hb : BkR h bk 10 vs pg mn tx tl du) (hl : SlR h al bk ao rk tr z1 z2 z3 cs kn2 no) (hos : OkS vs pg mn tx tl du kn2 no) (hne : NeR h ne nb c f) (k : Kp SO h h') (ho : OS h' ao bk rk vs pg mn tx tl kn') : RC h' x pn pf vs pg mn tx tl du kp im :=
  ⟨pad, pb, tr, bk, ims, kpa, rk, ao, al, ne, i0, i1, nb, z1, z2, z3, gp, kf, kn', cs, kn2, no, f, fi, c, hra.kp k (fun t q => by omega) (fun t q1 q2 => by omega) (fun t q1 q2 => by omega), htr.kp k (by omega) (by omega), hb.kp k (by omega) (by omega) (fun t q1 q2 => by omega), ho, hl.kp k (fun t q1 q2 => by omega), hos, hne.kp k (by omega) (by omega)⟩
end
section
variable {h : Pic} {x : Nat} {pn : Int} {pf : Int → Int} {vs pg : Int} {mn : Int → Int} {tx : Int → Int → Int} {tl du kp : Int → Int} {im : Int → Bs}
def aTells (pg : Int) (mn : Int → Int) (tx : Int → Int → Int) (tl du : Int → Int) (w : Int) : Int × Int × (Int → Int) × (Int → Int → Int) × (Int → Int) × (Int → Int) := if ¬ (0 ≤ w ∧ w < 8) then (-1, pg, mn, tx, tl, du) else if 12 ≤ pg then (-4, pg, mn, tx, tl, du) else (pg, pg + 1, fu mn (48 + pg) 0, fu tx (48 + pg) (fun _ => 0), fu tl pg w, fu du pg 0)
theorem C_tells {w : Int} (hc : RC h x pn pf vs pg mn tx tl du kp im) (hI : IB vs pg mn tx tl du) : Meets yX7_tells cX7_tells 2 (some .int) 200 0 0 [vR x, vI w] h (pX (fun z h' => z = (aTells pg mn tx tl du w).1 ∧ RC h' x pn pf vs (aTells pg mn tx tl du w).2.1 (aTells pg mn tx tl du w).2.2.1 (aTells pg mn tx tl du w).2.2.2.1 (aTells pg mn tx tl du w).2.2.2.2.1 (aTells pg mn tx tl du w).2.2.2.2.2 kp im ∧ Kp SC h h')) := by
  obtain ⟨pad, pb, tr, bk, ims, kpa, rk, ao, al, ne, i0, i1, nb, z1, z2, z3, gp, kf, kn, cs, kn2, no, f, fi, c, hra, htr, hb, ho, hl, hos, hne⟩ := id hc
  obtain ⟨⟨e0, e1, e2, e3, e4⟩, him, hp⟩ := id hra
  obtain ⟨nt, x1, x2, x3, x4, x5, ft, fs, f2, f4, f5, ⟨hbs, -⟩, -, hvs, hpg, -⟩ := id hb
  refine Meets.of (plainFor_of_name (by decide)) (Nat.le_of_ble_eq_true rfl) (fun X C hX hN hA => ?_)
  refine r_iload_n C dX7_tells_0 rfl ?_
  refine r_cSi C dX7_tells_1 mlX7_89 kX7_isWord (m_isWord (c := w)) rfl rfl (Nat.le_of_ble_eq_true rfl) (fit hX (by decide)) ?_
  refine r_if_ne (tgt := 9) C dX7_tells_4 (by decide) (fun hc4 => ?_) (fun hc4 => ?_)
  rotate_left
  · have hv : aTells pg mn tx tl du w = (-1, pg, mn, tx, tl, du) := if_pos (zb_0.mp hc4)
    rw [hv]
    refine r_iconst C dX7_tells_7 (by decide) ?_
    exact r_iret C dX7_tells_8 (by decide) (by decide) ⟨_, rfl, rfl, hc, Kp.rf⟩
  have hww := zb_n0.mp hc4
  refine r_aload_n C dX7_tells_9 rfl ?_
  refine r_get C dX7_tells_10 flX7_26 e0 rfl ?_
  refine r_cVi C dX7_tells_13 mlX7_128 kX0_pages (m_pages hb) hbs rfl rfl rfl (Nat.le_of_ble_eq_true rfl) (fit hX (by decide)) ?_
  refine r_bipush C dX7_tells_16 (by decide) ?_
  refine r_icmp_lt (tgt := 24) C dX7_tells_18 (by decide) (fun hc18 => ?_) (fun hc18 => ?_)
  rotate_left
  · have hv : aTells pg mn tx tl du w = (-4, pg, mn, tx, tl, du) := (if_neg (by omega)).trans (if_pos hc18)
    rw [hv]
    refine r_bipush C dX7_tells_21 (by decide) ?_
    exact r_iret C dX7_tells_23 (by decide) (by decide) ⟨_, rfl, rfl, hc, Kp.rf⟩
  have hv : aTells pg mn tx tl du w = (pg, pg + 1, fu mn (48 + pg) 0, fu tx (48 + pg) (fun _ => 0), fu tl pg w, fu du pg 0) := (if_neg (by omega)).trans (if_neg (by omega))
  rw [hv]
  refine r_aload_n C dX7_tells_24 rfl ?_
  refine r_get C dX7_tells_25 flX7_26 e0 rfl ?_
  refine r_iload_n C dX7_tells_28 rfl ?_
  refine r_cVx C dX7_tells_29 mlX7_131 kX0_addTelling (m_addTelling (w := w) hb (by decide) hc18) hbs rfl rfl rfl (Nat.le_of_ble_eq_true rfl) (fit hX (by decide)) ?_
  rintro z h1 ⟨hz, hb1, k1⟩
  have hAV : ∀ v, 0 ≤ v → v < vs → AgV mn (fu mn (48 + pg) 0) tx (fu tx (48 + pg) (fun _ => 0)) v := fun v v0 v1 w' w0 w1 => ⟨fu_n (by omega), fu_n (by omega)⟩
  have hAP : ∀ p, 0 ≤ p → p < pg → AgP mn (fu mn (48 + pg) 0) tx (fu tx (48 + pg) (fun _ => 0)) p := fun p p0 p1 => ⟨fu_n (by omega), fu_n (by omega)⟩
  exact r_iret C dX7_tells_32 (by decide) (by decide) ⟨_, rfl, hz, ⟨pad, pb, tr, bk, ims, kpa, rk, ao, al, ne, i0, i1, nb, z1, z2, z3, gp, kf, kn, cs, kn2, no, f, fi, c, hra.kp k1 (fun t q => by omega) (fun t q1 q2 => by omega) (fun t q1 q2 => by omega), htr.kp k1 (by omega) (by omega), hb1, (ho.kp k1 (fun t q1 q2 => by omega)).to hI.1 (Int.le_refl _) (show pg ≤ pg + 1 by omega) (fun v p v0 v1 _ _ _ => hAV v v0 v1) (fun p p0 p1 => ⟨hAP p p0 p1, fu_n (by omega)⟩), hl.kp k1 (fun t q1 q2 => by omega), OkS_ag hos hI.1 (Int.le_refl _) hpg.1 (Or.inr ⟨rfl, by show ¬ fu tl pg w pg = -6; rw [fu_s]; omega⟩) (fun v v0 v1 _ => hAV v v0 v1) (fun p p0 p1 => ⟨hAP p p0 p1, fu_n (by omega), fun _ => fu_n (by omega)⟩), hne.kp k1 (by omega) (by omega)⟩, k1.mono (fun t q => by omega)⟩
/-- an x stands in the text -/
def hasX (pn : Int) (pf : Int → Int) : Prop := ∃ i, 0 ≤ i ∧ i < pn ∧ pf i = 120
noncomputable def aShows (pn : Int) (pf : Int → Int) (pg : Int) (mn : Int → Int) (tx : Int → Int → Int) (tl du : Int → Int) (d : Int) : Int × Int × Int × (Int → Int) × (Int → Int → Int) × (Int → Int) × (Int → Int) := by
  classical exact if ¬ (0 ≤ d ∧ d < 1000) then (-2, pn, pg, mn, tx, tl, du) else if 12 ≤ pg then (-4, pn, pg, mn, tx, tl, du) else if ¬ flt pn pf = -6 ∨ hasX pn pf then (-5, pn, pg, mn, tx, tl, du) else (pg, 0, pg + 1, fu mn (48 + pg) pn, fu tx (48 + pg) pf, fu tl pg (-6), fu du pg d)
theorem aShows_1 {d : Int} (h1 : ¬ (0 ≤ d ∧ d < 1000)) : aShows pn pf pg mn tx tl du d = (-2, pn, pg, mn, tx, tl, du) := by unfold aShows; exact if_pos h1
theorem aShows_2 {d : Int} (h1 : 0 ≤ d ∧ d < 1000) (h2 : 12 ≤ pg) : aShows pn pf pg mn tx tl du d = (-4, pn, pg, mn, tx, tl, du) := by unfold aShows; rw [if_neg (fun z => z h1)]; exact if_pos h2
theorem aShows_3 {d : Int} (h1 : 0 ≤ d ∧ d < 1000) (h2 : ¬ 12 ≤ pg) (h3 : ¬ flt pn pf = -6 ∨ hasX pn pf) : aShows pn pf pg mn tx tl du d = (-5, pn, pg, mn, tx, tl, du) := by unfold aShows; rw [if_neg (fun z => z h1), if_neg h2]; exact if_pos h3
theorem aShows_4 {d : Int} (h1 : 0 ≤ d ∧ d < 1000) (h2 : ¬ 12 ≤ pg) (h3 : ¬ (¬ flt pn pf = -6 ∨ hasX pn pf)) : aShows pn pf pg mn tx tl du d = (pg, 0, pg + 1, fu mn (48 + pg) pn, fu tx (48 + pg) pf, fu tl pg (-6), fu du pg d) := by unfold aShows; rw [if_neg (fun z => z h1), if_neg h2]; exact if_neg h3
theorem C_shows {d : Int} (hc : RC h x pn pf vs pg mn tx tl du kp im) (hI : IB vs pg mn tx tl du) : Meets yX7_shows cX7_shows 3 (some .int) 200 2 42 [vR x, vI d] h (pX (fun z h' => z = (aShows pn pf pg mn tx tl du d).1 ∧ RC h' x (aShows pn pf pg mn tx tl du d).2.1 pf vs (aShows pn pf pg mn tx tl du d).2.2.1 (aShows pn pf pg mn tx tl du d).2.2.2.1 (aShows pn pf pg mn tx tl du d).2.2.2.2.1 (aShows pn pf pg mn tx tl du d).2.2.2.2.2.1 (aShows pn pf pg mn tx tl du d).2.2.2.2.2.2 kp im ∧ Kp SC h h')) := by
  obtain ⟨pad, pb, tr, bk, ims, kpa, rk, ao, al, ne, i0, i1, nb, z1, z2, z3, gp, kf, kn, cs, kn2, no, f, fi, c, hra, htr, hb, ho, hl, hos, hne⟩ := id hc
  obtain ⟨⟨e0, e1, e2, e3, e4⟩, him, hp⟩ := id hra
  obtain ⟨nt, x1, x2, x3, x4, x5, ft, fs, f2, f4, f5, ⟨hbs, -⟩, -, hvs, hpg, -⟩ := id hb
  have htx := PadR e1 e2 hp
  refine Meets.of (plainFor_of_name (by decide)) (Nat.le_of_ble_eq_true rfl) (fun X C hX hN hA => ?_)
  refine r_iload_n C dX7_shows_0 rfl ?_
  refine r_cSi C dX7_shows_1 mlX7_117 kX7_isNumber (m_isNumber (c := d)) rfl rfl (Nat.le_of_ble_eq_true rfl) (fit hX (by decide)) ?_
  refine r_if_ne (tgt := 10) C dX7_shows_4 (by decide) (fun hc4 => ?_) (fun hc4 => ?_)
  rotate_left
  · rw [aShows_1 (zb_0.mp hc4)]
    refine r_bipush C dX7_shows_7 (by decide) ?_
    exact r_iret C dX7_shows_9 (by decide) (by decide) ⟨_, rfl, rfl, hc, Kp.rf⟩
  have hdd := zb_n0.mp hc4
  refine r_aload_n C dX7_shows_10 rfl ?_
  refine r_get C dX7_shows_11 flX7_26 e0 rfl ?_
  refine r_cVi C dX7_shows_14 mlX7_128 kX0_pages (m_pages hb) hbs rfl rfl rfl (Nat.le_of_ble_eq_true rfl) (fit hX (by decide)) ?_
  refine r_bipush C dX7_shows_17 (by decide) ?_
  refine r_icmp_lt (tgt := 25) C dX7_shows_19 (by decide) (fun hc19 => ?_) (fun hc19 => ?_)
  rotate_left
  · rw [aShows_2 hdd hc19]
    refine r_bipush C dX7_shows_22 (by decide) ?_
    exact r_iret C dX7_shows_24 (by decide) (by decide) ⟨_, rfl, rfl, hc, Kp.rf⟩
  refine r_aload_n C dX7_shows_25 rfl ?_
  refine r_get C dX7_shows_26 flX7_14 e0 rfl ?_
  refine r_cVi C dX7_shows_29 mlX7_80 kX6_firstFault (m_firstFault htx) e1 rfl rfl rfl (Nat.le_of_ble_eq_true rfl) (fit hX (by decide)) ?_
  refine r_bipush C dX7_shows_32 (by decide) ?_
  refine r_icmp_ne (tgt := 49) C dX7_shows_34 (by decide) (fun hc34 => ?_) (fun hc34 => ?_)
  · rw [aShows_3 hdd (by omega) (Or.inl hc34)]
    refine r_bipush C dX7_shows_49 (by decide) ?_
    exact r_iret C dX7_shows_51 (by decide) (by decide) ⟨_, rfl, rfl, hc, Kp.rf⟩
  refine r_aload_n C dX7_shows_37 rfl ?_
  refine r_get C dX7_shows_38 flX7_14 e0 rfl ?_
  refine r_bipush C dX7_shows_41 (by decide) ?_
  refine r_cVi C dX7_shows_43 mlX7_134 kX6_has (m_has (c := 120) htx) e1 rfl rfl rfl (Nat.le_of_ble_eq_true rfl) (fit hX (by decide)) ?_
  refine r_if_eq (tgt := 52) C dX7_shows_46 (by decide) (fun hc46 => ?_) (fun hc46 => ?_)
  rotate_left
  · rw [aShows_3 hdd (by omega) (Or.inr (zb_n0.mp hc46))]
    refine r_bipush C dX7_shows_49 (by decide) ?_
    exact r_iret C dX7_shows_51 (by decide) (by decide) ⟨_, rfl, rfl, hc, Kp.rf⟩
  have hnx := zb_0.mp hc46
  rw [aShows_4 hdd (by omega) (fun z => z.elim (fun q => q hc34) hnx)]
  refine r_aload_n C dX7_shows_52 rfl ?_
  refine r_get C dX7_shows_53 flX7_26 e0 rfl ?_
  refine r_aload_n C dX7_shows_56 rfl ?_
  refine r_get C dX7_shows_57 flX7_14 e0 rfl ?_
  refine r_cVy C dX7_shows_60 mlX7_93 kX6_copy (m_copy (f := pf) e1 e2 (by decide) (by decide) hp.1 hp.2.1 hp.2.1 (fun i j0 j1 => ⟨(hp.2.2 i j0 j1).1, by have := (hp.2.2 i j0 j1).2.1; omega, (hp.2.2 i j0 j1).2.2⟩)) e1 rfl rfl rfl (Nat.le_of_ble_eq_true rfl) (fit hX (by omega)) ?_
  intro q h1 hq
  obtain ⟨htp, k1⟩ := copy_pool ⟨hp.1, hp.2.1⟩ (fun i j0 j1 => ⟨by have := (hp.2.2 i j0 j1).2.1; omega, (hp.2.2 i j0 j1).2.2⟩) hq
  have hb1 := hb.kp k1 (fun z => z) (fun z => z) (fun t q1 q2 z => z)
  refine r_iload_n C dX7_shows_63 rfl ?_
  refine r_cVx C dX7_shows_64 mlX7_137 kX0_addExample (m_addExample (d := d) hb1 (by decide) htp hc19) (k1 _ _ _ hbs (fun z => z)) rfl rfl rfl (Nat.le_of_ble_eq_true rfl) (fit hX (by omega)) ?_
  rintro z h2 ⟨hz, hb2, k2⟩
  have k12 : Kp (fun t => t = 10 ∨ (10 + 2 ≤ t ∧ t ≤ 10 + 5)) h h2 := (k1.mono (fun t z => z.elim)).tr k2
  have hra2 := hra.kp k12 (fun t q => by omega) (fun t q1 q2 => by omega) (fun t q1 q2 => by omega)
  obtain ⟨⟨d0, d1, d2, d3, d4⟩, -, -⟩ := id hra2
  refine r_istore_n C dX7_shows_67 (by decide) ?_
  refine r_aload_n C dX7_shows_68 rfl ?_
  refine r_get C dX7_shows_69 flX7_14 d0 rfl ?_
  refine r_cVv C dX7_shows_72 mlX7_77 kX6_clear (m_clear d1) d1 rfl rfl rfl (Nat.le_of_ble_eq_true rfl) (fit hX (by omega)) ?_
  intro h3 hz3
  obtain ⟨k3, hra3⟩ := pad_clear hra2 hz3
  have k13 : Kp (fun t => t = 1 ∨ t = 10 ∨ (12 ≤ t ∧ t ≤ 15)) h h3 := (k12.mono (fun t z => by omega)).tr (k3.mono (fun t z => by omega))
  have hb3 := hb2.kp k3 (by omega) (by omega) (fun t q1 q2 => by omega)
  have hl3 := hl.kp k13 (fun t q1 q2 => by omega)
  obtain ⟨⟨g0, -⟩, -, -⟩ := id hra3
  refine r_aload_n C dX7_shows_75 rfl ?_
  refine r_get C dX7_shows_76 flX7_59 g0 rfl ?_
  refine r_cVv C dX7_shows_79 mlX7_104 kX5_forget (m_Sforget hl3) hl3.1 rfl rfl rfl (Nat.le_of_ble_eq_true rfl) (fit hX (by omega)) ?_
  rintro h5 ⟨kn5, hl5, hz5, k5⟩
  have k15 : Kp (fun t => t = 1 ∨ t = 10 ∨ (12 ≤ t ∧ t ≤ 15) ∨ t = 50) h h5 := (k13.mono (fun t z => by omega)).tr (k5.mono (fun t z => by omega))
  refine r_iload_n C dX7_shows_82 rfl ?_
  exact r_iret C dX7_shows_83 (by decide) (by omega) ⟨_, rfl, hz, ⟨pad, pb, tr, bk, ims, kpa, rk, ao, al, ne, i0, i1, nb, z1, z2, z3, gp, kf, kn, cs, kn5, no, f, fi, c, hra3.kp k5 (fun t q => by omega) (fun t q1 q2 => by omega) (fun t q1 q2 => by omega), htr.kp k15 (by omega) (by omega), hb3.kp k5 (by omega) (by omega) (fun t q1 q2 => by omega), (ho.kp k15 (fun t q1 q2 => by omega)).to hI.1 (Int.le_refl _) (show pg ≤ pg + 1 by omega) (fun v p v0 v1 _ _ _ => fun w' w0 w1 => ⟨fu_n (by omega), fu_n (by omega)⟩) (fun p p0 p1 => ⟨⟨fu_n (by omega), fu_n (by omega)⟩, fu_n (by omega)⟩), hl5, OkS_0 hz5, hne.kp k15 (by omega) (by omega)⟩, k15.mono (fun t q => by omega)⟩
def aPage (pg : Int) (mn : Int → Int) (tx : Int → Int → Int) (tl du : Int → Int) (p what : Int) : Int := if ¬ (0 ≤ p ∧ p < pg) then -1 else if what = 0 then tl p else if what = 1 then (if tl p = -6 then du p else -6) else if what = 2 then nmd (mn (48 + p)) (tx (48 + p)) else if what = 3 then mn (48 + p) else -2
theorem C_page {p what : Int} (hc : RC h x pn pf vs pg mn tx tl du kp im) : Meets yX7_page cX7_page 3 (some .int) 200 0 0 [vR x, vI p, vI what] h (pI (aPage pg mn tx tl du p what) h) := by
  obtain ⟨pad, pb, tr, bk, ims, kpa, rk, ao, al, ne, i0, i1, nb, z1, z2, z3, gp, kf, kn, cs, kn2, no, f, fi, c, hra, htr, hb, -⟩ := id hc
  obtain ⟨⟨e0, -⟩, -⟩ := id hra
  obtain ⟨nt, x1, x2, x3, x4, x5, ft, fs, f2, f4, f5, ⟨hbs, -⟩, -⟩ := id hb
  refine Meets.of (plainFor_of_name (by decide)) (Nat.le_of_ble_eq_true rfl) (fun X C hX hN hA => ?_)
  refine r_aload_n C dX7_page_0 rfl ?_
  refine r_get C dX7_page_1 flX7_26 e0 rfl ?_
  refine r_iload_n C dX7_page_4 rfl ?_
  refine r_cVi C dX7_page_5 mlX7_140 kX0_hasPage (m_hasPage (p := p) hb) hbs rfl rfl rfl (Nat.le_of_ble_eq_true rfl) (fit hX (by decide)) ?_
  refine r_if_ne (tgt := 13) C dX7_page_8 (by decide) (fun hc8 => ?_) (fun hc8 => ?_)
  rotate_left
  · have hv : aPage pg mn tx tl du p what = -1 := if_pos (zb_0.mp hc8)
    rw [hv]
    refine r_iconst C dX7_page_11 (by decide) ?_
    exact r_iret C dX7_page_12 (by decide) (by decide) ⟨rfl, rfl⟩
  obtain ⟨hp0, hp1⟩ := zb_n0.mp hc8
  have hv0 : aPage pg mn tx tl du p what = if what = 0 then tl p else if what = 1 then (if tl p = -6 then du p else -6) else if what = 2 then nmd (mn (48 + p)) (tx (48 + p)) else if what = 3 then mn (48 + p) else -2 := if_neg (by omega)
  rw [hv0]
  refine r_iload_n C dX7_page_13 rfl ?_
  rcases (show what = 0 ∨ what = 1 ∨ what = 2 ∨ what = 3 ∨ (what < 0 ∨ 3 < what) by omega) with rfl | rfl | rfl | rfl | hw
  · refine r_tableIn (off := 30) (tgt := 44) C dX7_page_14 (by decide) (by decide) rfl (by decide) ?_
    refine r_aload_n C dX7_page_44 rfl ?_
    refine r_get C dX7_page_45 flX7_26 e0 rfl ?_
    refine r_iload_n C dX7_page_48 rfl ?_
    refine r_cVi C dX7_page_49 mlX7_143 kX0_toldWord (m_toldWord (p := p) hb hp0 hp1) hbs rfl rfl rfl (Nat.le_of_ble_eq_true rfl) (fit hX (by decide)) ?_
    exact r_iret C dX7_page_52 (by decide) (by decide) ⟨rfl, rfl⟩
  · refine r_tableIn (off := 39) (tgt := 53) C dX7_page_14 (by decide) (by decide) rfl (by decide) ?_
    refine r_aload_n C dX7_page_53 rfl ?_
    refine r_get C dX7_page_54 flX7_26 e0 rfl ?_
    refine r_iload_n C dX7_page_57 rfl ?_
    refine r_cVi C dX7_page_58 mlX7_146 kX0_isExample (m_isExample (p := p) hb) hbs rfl rfl rfl (Nat.le_of_ble_eq_true rfl) (fit hX (by decide)) ?_
    refine r_if_eq (tgt := 75) C dX7_page_61 (by decide) (fun hc61 => ?_) (fun hc61 => ?_)
    · have hne := zb_0.mp hc61
      rw [if_neg (by decide), if_pos rfl, if_neg (fun z => hne ⟨hp0, hp1, z⟩)]
      refine r_bipush C dX7_page_75 (by decide) ?_
      exact r_iret C dX7_page_77 (by decide) (by decide) ⟨rfl, rfl⟩
    · rw [if_neg (by decide), if_pos rfl, if_pos (zb_n0.mp hc61).2.2]
      refine r_aload_n C dX7_page_64 rfl ?_
      refine r_get C dX7_page_65 flX7_26 e0 rfl ?_
      refine r_iload_n C dX7_page_68 rfl ?_
      refine r_cVi C dX7_page_69 mlX7_149 kX0_due (m_due (p := p) hb hp0 hp1) hbs rfl rfl rfl (Nat.le_of_ble_eq_true rfl) (fit hX (by decide)) ?_
      refine r_goto (tgt := 77) C dX7_page_72 (by decide) ?_
      exact r_iret C dX7_page_77 (by decide) (by decide) ⟨rfl, rfl⟩
  · refine r_tableIn (off := 64) (tgt := 78) C dX7_page_14 (by decide) (by decide) rfl (by decide) ?_
    refine r_aload_n C dX7_page_78 rfl ?_
    refine r_get C dX7_page_79 flX7_26 e0 rfl ?_
    refine r_iload_n C dX7_page_82 rfl ?_
    refine r_cVi C dX7_page_83 mlX7_152 kX0_named (m_Bnamed (p := p) hb hp0 hp1) hbs rfl rfl rfl (Nat.le_of_ble_eq_true rfl) (fit hX (by decide)) ?_
    exact r_iret C dX7_page_86 (by decide) (by decide) ⟨rfl, rfl⟩
  · refine r_tableIn (off := 73) (tgt := 87) C dX7_page_14 (by decide) (by decide) rfl (by decide) ?_
    refine r_aload_n C dX7_page_87 rfl ?_
    refine r_get C dX7_page_88 flX7_26 e0 rfl ?_
    refine r_iload_n C dX7_page_91 rfl ?_
    refine r_cVy C dX7_page_92 mlX7_155 kX0_example (m_example (p := p) hb hp0 hp1) hbs rfl rfl rfl (Nat.le_of_ble_eq_true rfl) (fit hX (by decide)) ?_
    rintro q h' ⟨rfl, htq⟩
    obtain ⟨bq, tq, tq', mq, gq, hq1, -⟩ := id htq.R
    refine r_cVi C dX7_page_95 mlX7_70 kX6_count (m_count htq.R) hq1 rfl rfl rfl (Nat.le_of_ble_eq_true rfl) (fit hX (by decide)) ?_
    exact r_iret C dX7_page_98 (by decide) (by decide) ⟨rfl, rfl⟩
  · refine r_tableOut (tgt := 99) C dX7_page_14 hw (by decide) ?_
    rw [if_neg (by omega), if_neg (by omega), if_neg (by omega), if_neg (by omega)]
    refine r_bipush C dX7_page_99 (by decide) ?_
    exact r_iret C dX7_page_101 (by decide) (by decide) ⟨rfl, rfl⟩
noncomputable def aTold (pn vs pg : Int) (tl : Int → Int) (what : Int) : Int := if what = 0 then pn else if what = 1 then vs else if what = 2 then pg else if what = 3 then bt (fun p => tl p = -6) pg else -2
theorem C_told {what : Int} (hc : RC h x pn pf vs pg mn tx tl du kp im) : Meets yX7_told cX7_told 2 (some .int) 200 0 0 [vR x, vI what] h (pI (aTold pn vs pg tl what) h) := by
  obtain ⟨pad, pb, tr, bk, ims, kpa, rk, ao, al, ne, i0, i1, nb, z1, z2, z3, gp, kf, kn, cs, kn2, no, f, fi, c, hra, htr, hb, -⟩ := id hc
  obtain ⟨⟨e0, e1, e2, -⟩, -, hp⟩ := id hra
  obtain ⟨nt, x1, x2, x3, x4, x5, ft, fs, f2, f4, f5, ⟨hbs, -⟩, -⟩ := id hb
  refine Meets.of (plainFor_of_name (by decide)) (Nat.le_of_ble_eq_true rfl) (fun X C hX hN hA => ?_)
  refine r_iload_n C dX7_told_0 rfl ?_
  rcases (show what = 0 ∨ what = 1 ∨ what = 2 ∨ what = 3 ∨ (what < 0 ∨ 3 < what) by omega) with rfl | rfl | rfl | rfl | hw
  · refine r_tableIn (off := 31) (tgt := 32) C dX7_told_1 (by decide) (by decide) rfl (by decide) ?_
    refine r_aload_n C dX7_told_32 rfl ?_
    refine r_get C dX7_told_33 flX7_14 e0 rfl ?_
    refine r_cVi C dX7_told_36 mlX7_70 kX6_count (m_count (PadR e1 e2 hp)) e1 rfl rfl rfl (Nat.le_of_ble_eq_true rfl) (fit hX (by decide)) ?_
    exact r_iret C dX7_told_39 (by decide) (by decide) ⟨rfl, rfl⟩
  · refine r_tableIn (off := 39) (tgt := 40) C dX7_told_1 (by decide) (by decide) rfl (by decide) ?_
    refine r_aload_n C dX7_told_40 rfl ?_
    refine r_get C dX7_told_41 flX7_26 e0 rfl ?_
    refine r_cVi C dX7_told_44 mlX7_83 kX0_versions (m_versions hb) hbs rfl rfl rfl (Nat.le_of_ble_eq_true rfl) (fit hX (by decide)) ?_
    exact r_iret C dX7_told_47 (by decide) (by decide) ⟨rfl, rfl⟩
  · refine r_tableIn (off := 47) (tgt := 48) C dX7_told_1 (by decide) (by decide) rfl (by decide) ?_
    refine r_aload_n C dX7_told_48 rfl ?_
    refine r_get C dX7_told_49 flX7_26 e0 rfl ?_
    refine r_cVi C dX7_told_52 mlX7_128 kX0_pages (m_pages hb) hbs rfl rfl rfl (Nat.le_of_ble_eq_true rfl) (fit hX (by decide)) ?_
    exact r_iret C dX7_told_55 (by decide) (by decide) ⟨rfl, rfl⟩
  · refine r_tableIn (off := 55) (tgt := 56) C dX7_told_1 (by decide) (by decide) rfl (by decide) ?_
    refine r_aload_n C dX7_told_56 rfl ?_
    refine r_get C dX7_told_57 flX7_26 e0 rfl ?_
    refine r_cVi C dX7_told_60 mlX7_240 kX0_examples (m_examples hb) hbs rfl rfl rfl (Nat.le_of_ble_eq_true rfl) (fit hX (by decide)) ?_
    exact r_iret C dX7_told_63 (by decide) (by decide) ⟨rfl, rfl⟩
  · refine r_tableOut (tgt := 64) C dX7_told_1 hw (by decide) ?_
    refine r_bipush C dX7_told_64 (by decide) ?_
    have hv : aTold pn vs pg tl what = -2 := by
      unfold aTold
      rw [if_neg (by omega), if_neg (by omega), if_neg (by omega), if_neg (by omega)]
    exact r_iret C dX7_told_66 (by decide) (by decide) ⟨some_I hv.symm, rfl⟩
end
