/-! BookShows: order -/
def smN (g : Int → Int) : Nat → Int
  | 0 => 0
  | j + 1 => smN g j + g j
def sm (g : Int → Int) (i : Int) : Int := smN g i.toNat
theorem sm_0 (g : Int → Int) : sm g 0 = 0 := rfl
theorem sm_s {g : Int → Int} {i : Int} (h0 : 0 ≤ i) : sm g (i + 1) = sm g i + g i := by
  unfold sm
  have e : (i + 1).toNat = i.toNat + 1 := by omega
  have e2 : ((i.toNat : Nat) : Int) = i := by omega
  rw [e]
  show smN g i.toNat + g (i.toNat : Nat) = _
  rw [e2]
theorem smN_rng {g : Int → Int} (hg : ∀ i, 0 ≤ g i ∧ g i ≤ 12) : ∀ j : Nat, 0 ≤ smN g j ∧ smN g j ≤ 12 * j := by
  intro j
  induction j with
  | zero => exact ⟨Int.le_refl 0, Int.le_refl 0⟩
  | succ j ih =>
    have := hg j
    show 0 ≤ smN g j + g j ∧ smN g j + g j ≤ _
    omega
theorem sm_rng {g : Int → Int} (hg : ∀ i, 0 ≤ g i ∧ g i ≤ 12) {i : Int} (h0 : 0 ≤ i) : 0 ≤ sm g i ∧ sm g i ≤ 12 * i := by
  have := smN_rng hg i.toNat
  unfold sm
  omega
/-- the words that a page names -/
def nmP (mn : Int → Int) (tx : Int → Int → Int) (p : Int) : Int := nmd (mn (48 + p)) (tx (48 + p))
/-- how many of them are not in a set -/
def nmC (mn : Int → Int) (tx : Int → Int → Int) (s p : Int) : Int := cnt (bAnd (nmP mn tx p) (bXor s (-1)))
theorem nmC_rng (mn : Int → Int) (tx : Int → Int → Int) (s p : Int) : 0 ≤ nmC mn tx s p ∧ nmC mn tx s p ≤ 12 := cnt_rng _
theorem nmP_rng (mn : Int → Int) (tx : Int → Int → Int) (p : Int) : 0 ≤ nmP mn tx p ∧ nmP mn tx p < 256 := nmd_rng _ _
theorem nmP_0 {mn : Int → Int} {tx : Int → Int → Int} {p : Int} (h : mn (48 + p) = 0) : nmP mn tx p = 0 := by
  unfold nmP nmd
  rw [h]; rfl
theorem and_0l (y : Int) : bAnd 0 y = 0 := and_0.mpr (fun i _ q => by rw [tb_0] at q; exact absurd q.1 (by decide))
theorem nmC_0 {mn : Int → Int} {tx : Int → Int → Int} {s p : Int} (h : mn (48 + p) = 0) : nmC mn tx s p = 0 := by
  unfold nmC
  rw [nmP_0 h, and_0l, cnt_0]
/-- the first page not placed yet that names no word of a set -/
def ff (nm : Int → Int) (pg pl un : Int) : Nat → Int → Int
  | 0, _ => -6
  | j + 1, p => if pg ≤ p then -6 else if bAnd (bShr pl p) 1 = 0 ∧ bAnd (nm p) un = 0 then p else ff nm pg pl un j (p + 1)
theorem ff_rng {nm : Int → Int} {pg pl un : Int} : ∀ (j : Nat) (p : Int), ff nm pg pl un j p = -6 ∨ (p ≤ ff nm pg pl un j p ∧ ff nm pg pl un j p < pg) := by
  intro j
  induction j with
  | zero => intro p; exact Or.inl rfl
  | succ j ih =>
    intro p
    unfold ff
    split
    · exact Or.inl rfl
    · split
      · exact Or.inr ⟨Int.le_refl _, by omega⟩
      · rcases ih (p + 1) with q | q
        · exact Or.inl q
        · exact Or.inr ⟨by omega, q.2⟩
/-- the page at the j-th place from here on -/
def plR (nm tl : Int → Int) (pg ev : Int) : Nat → Int → Int → Int
  | 0, pl, t => ff nm pg pl (bAnd ev (bXor t (-1))) 13 0
  | j + 1, pl, t => if ff nm pg pl (bAnd ev (bXor t (-1))) 13 0 = -6 then -6 else plR nm tl pg ev j (bOr pl (bShl 1 (ff nm pg pl (bAnd ev (bXor t (-1))) 13 0))) (if tl (ff nm pg pl (bAnd ev (bXor t (-1))) 13 0) = -6 then t else bOr t (bShl 1 (tl (ff nm pg pl (bAnd ev (bXor t (-1))) 13 0))))
def aOrder (pg : Int) (mn : Int → Int) (tx : Int → Int → Int) (tl : Int → Int) (what : Int) : Int := if what = -1 then sm (fun p => nmC mn tx (td tl p) p) pg else if what = -2 then sm (nmC mn tx (td tl pg)) pg else if 0 ≤ what ∧ what < pg then plR (nmP mn tx) tl pg (td tl pg) what.toNat 0 0 else -6
section
variable {h : Pic} {x : Nat} {pn : Int} {pf : Int → Int} {vs pg : Int} {mn : Int → Int} {tx : Int → Int → Int} {tl du kp : Int → Int} {im : Int → Bs}
theorem m_early (hc : RC h x pn pf vs pg mn tx tl du kp im) (hI : IB vs pg mn tx tl du) : Meets yX7_earlyAsTheyStand cX7_earlyAsTheyStand 4 (some .int) 5 0 0 [vR x] h (pI (sm (fun p => nmC mn tx (td tl p) p) pg) h) := by
  obtain ⟨pad, pb, tr, bk, ims, kpa, rk, ao, al, ne, i0, i1, nb, z1, z2, z3, gp, kf, kn, cs, kn2, no, f, fi, c, hra, htr, hb, ho, hl, hos, hne⟩ := id hc
  obtain ⟨⟨e0, e1, e2, e3, e4⟩, him, hp⟩ := id hra
  obtain ⟨nt, x1, x2, x3, x4, x5, ft, fs, f2, f4, f5, ⟨hbs, -⟩, -, hvs, hpg, -⟩ := id hb
  refine Meets.of (plainFor_of_name (by decide)) (Nat.le_of_ble_eq_true rfl) (fun X C hX hN hA => ?_)
  have loop : ∀ (j : Nat) (i : Int), 0 ≤ i → i ≤ pg → pg - i < j → Go X (Qm X (pI (sm (fun p => nmC mn tx (td tl p) p) pg) h) 0 0) 0 0 h 6 [some (vR x), some (vI (td tl i)), some (vI (sm (fun p => nmC mn tx (td tl p) p) i)), some (vI i)] [] := by
    intro j
    induction j with
    | zero => intro i g3 g4 g5; exact absurd g5 (by omega)
    | succ j ih =>
      intro i g3 g4 g5
      have hr1 := sm_rng (g := fun p => nmC mn tx (td tl p) p) (fun i => nmC_rng mn tx _ i) g3
      have hs := sm_s (g := fun p => nmC mn tx (td tl p) p) g3
      have ht := td_s (tl := tl) g3
      refine r_iload_n C dX7_earlyAsTheyStand_6 rfl ?_
      refine r_aload_n C dX7_earlyAsTheyStand_7 rfl ?_
      refine r_get C dX7_earlyAsTheyStand_8 flX7_26 e0 rfl ?_
      refine r_cVi C dX7_earlyAsTheyStand_11 mlX7_128 kX0_pages (m_pages hb) hbs rfl rfl rfl (Nat.le_of_ble_eq_true rfl) (fit hX (by decide)) ?_
      refine r_icmp_ge (tgt := 68) C dX7_earlyAsTheyStand_14 (by decide) (fun hc14 => ?_) (fun hc14 => ?_)
      · have hi : i = pg := by omega
        refine r_iload_n C dX7_earlyAsTheyStand_68 rfl ?_
        exact r_iret C dX7_earlyAsTheyStand_69 (by decide) (by decide) ⟨by rw [hi], rfl⟩
      have hz := ih (i + 1) (by omega) (by omega) (by omega)
      rw [hs, ht] at hz
      have hni := nmP_rng mn tx i
      have hai := and_rng (bXor (td tl i) (-1)) hni.1 (show Rg (nmP mn tx i) by omega)
      have hcr := nmC_rng mn tx (td tl i) i
      refine r_aload_n C dX7_earlyAsTheyStand_17 rfl ?_
      refine r_get C dX7_earlyAsTheyStand_18 flX7_26 e0 rfl ?_
      refine r_iload_n C dX7_earlyAsTheyStand_21 rfl ?_
      refine r_cVi C dX7_earlyAsTheyStand_22 mlX7_146 kX0_isExample (m_isExample (p := i) hb) hbs rfl rfl rfl (Nat.le_of_ble_eq_true rfl) (fit hX (by decide)) ?_
      refine r_if_eq (tgt := 49) C dX7_earlyAsTheyStand_25 (by decide) (fun hc25 => ?_) (fun hc25 => ?_)
      · have hne : ¬ tl i = -6 := fun q => zb_0.mp hc25 ⟨g3, hc14, q⟩
        have hm0 : mn (48 + i) = 0 := by rcases hI.2 i g3 hc14 with q | q; exact absurd q.1 hne; exact q.2.2
        rw [if_neg hne, show nmC mn tx (td tl i) i = 0 from nmC_0 hm0, Int.add_zero] at hz
        refine r_iload_n C dX7_earlyAsTheyStand_49 rfl ?_
        refine r_iconst C dX7_earlyAsTheyStand_50 (by decide) ?_
        refine r_aload_n C dX7_earlyAsTheyStand_51 rfl ?_
        refine r_get C dX7_earlyAsTheyStand_52 flX7_26 e0 rfl ?_
        refine r_iload_n C dX7_earlyAsTheyStand_55 rfl ?_
        refine r_cVi C dX7_earlyAsTheyStand_56 mlX7_143 kX0_toldWord (m_toldWord (p := i) hb g3 hc14) hbs rfl rfl rfl (Nat.le_of_ble_eq_true rfl) (fit hX (by decide)) ?_
        refine r_ishl C dX7_earlyAsTheyStand_59 ?_
        refine r_ior C dX7_earlyAsTheyStand_60 ?_
        refine r_istore_n C dX7_earlyAsTheyStand_61 (by decide) ?_
        refine r_iinc C dX7_earlyAsTheyStand_62 rfl (by decide) (by omega) ?_
        refine r_goto (tgt := 6) C dX7_earlyAsTheyStand_65 (by decide) ?_
        exact hz
      · rw [if_pos (zb_n0.mp hc25).2.2] at hz
        refine r_iload_n C dX7_earlyAsTheyStand_28 rfl ?_
        refine r_aload_n C dX7_earlyAsTheyStand_29 rfl ?_
        refine r_get C dX7_earlyAsTheyStand_30 flX7_26 e0 rfl ?_
        refine r_iload_n C dX7_earlyAsTheyStand_33 rfl ?_
        refine r_cVi C dX7_earlyAsTheyStand_34 mlX7_152 kX0_named (m_Bnamed (p := i) hb g3 hc14) hbs rfl rfl rfl (Nat.le_of_ble_eq_true rfl) (fit hX (by decide)) ?_
        refine r_iload_n C dX7_earlyAsTheyStand_37 rfl ?_
        refine r_iconst C dX7_earlyAsTheyStand_38 (by decide) ?_
        refine r_ixor C dX7_earlyAsTheyStand_39 ?_
        refine r_iand C dX7_earlyAsTheyStand_40 ?_
        refine r_cSi C dX7_earlyAsTheyStand_41 mlX7_177 kJ6_bitCount_0f7a4 (m_bitCount (x := bAnd (nmP mn tx i) (bXor (td tl i) (-1))) hai.1 (by omega)) rfl rfl (Nat.le_of_ble_eq_true rfl) (fit hX (by decide)) ?_
        refine r_iadd C dX7_earlyAsTheyStand_44 (show Rg (sm (fun p => nmC mn tx (td tl p) p) i + nmC mn tx (td tl i) i) by omega) ?_
        refine r_istore_n C dX7_earlyAsTheyStand_45 (by decide) ?_
        refine r_goto (tgt := 62) C dX7_earlyAsTheyStand_46 (by decide) ?_
        refine r_iinc C dX7_earlyAsTheyStand_62 rfl (by decide) (by omega) ?_
        refine r_goto (tgt := 6) C dX7_earlyAsTheyStand_65 (by decide) ?_
        exact hz
  refine r_iconst C dX7_earlyAsTheyStand_0 (by decide) ?_
  refine r_istore_n C dX7_earlyAsTheyStand_1 (by decide) ?_
  refine r_iconst C dX7_earlyAsTheyStand_2 (by decide) ?_
  refine r_istore_n C dX7_earlyAsTheyStand_3 (by decide) ?_
  refine r_iconst C dX7_earlyAsTheyStand_4 (by decide) ?_
  refine r_istore_n C dX7_earlyAsTheyStand_5 (by decide) ?_
  exact loop (pg.toNat + 1) 0 (by omega) (by omega) (by omega)
theorem m_least (hc : RC h x pn pf vs pg mn tx tl du kp im) : Meets yX7_leastEarly cX7_leastEarly 4 (some .int) 5 0 0 [vR x] h (pI (sm (nmC mn tx (td tl pg)) pg) h) := by
  obtain ⟨pad, pb, tr, bk, ims, kpa, rk, ao, al, ne, i0, i1, nb, z1, z2, z3, gp, kf, kn, cs, kn2, no, f, fi, c, hra, htr, hb, ho, hl, hos, hne⟩ := id hc
  obtain ⟨⟨e0, e1, e2, e3, e4⟩, him, hp⟩ := id hra
  obtain ⟨nt, x1, x2, x3, x4, x5, ft, fs, f2, f4, f5, ⟨hbs, -⟩, -, hvs, hpg, -⟩ := id hb
  refine Meets.of (plainFor_of_name (by decide)) (Nat.le_of_ble_eq_true rfl) (fun X C hX hN hA => ?_)
  have loop : ∀ (j : Nat) (i : Int), 0 ≤ i → i ≤ pg → pg - i < j → Go X (Qm X (pI (sm (nmC mn tx (td tl pg)) pg) h) 0 0) 0 0 h 12 [some (vR x), some (vI (td tl pg)), some (vI (sm (nmC mn tx (td tl pg)) i)), some (vI i)] [] := by
    intro j
    induction j with
    | zero => intro i g3 g4 g5; exact absurd g5 (by omega)
    | succ j ih =>
      intro i g3 g4 g5
      have hr1 := sm_rng (g := nmC mn tx (td tl pg)) (fun i => nmC_rng mn tx _ i) g3
      have hs := sm_s (g := nmC mn tx (td tl pg)) g3
      refine r_iload_n C dX7_leastEarly_12 rfl ?_
      refine r_aload_n C dX7_leastEarly_13 rfl ?_
      refine r_get C dX7_leastEarly_14 flX7_26 e0 rfl ?_
      refine r_cVi C dX7_leastEarly_17 mlX7_128 kX0_pages (m_pages hb) hbs rfl rfl rfl (Nat.le_of_ble_eq_true rfl) (fit hX (by decide)) ?_
      refine r_icmp_ge (tgt := 47) C dX7_leastEarly_20 (by decide) (fun hc20 => ?_) (fun hc20 => ?_)
      · have hi : i = pg := by omega
        refine r_iload_n C dX7_leastEarly_47 rfl ?_
        exact r_iret C dX7_leastEarly_48 (by decide) (by decide) ⟨by rw [hi], rfl⟩
      have hz := ih (i + 1) (by omega) (by omega) (by omega)
      rw [hs] at hz
      have hni := nmP_rng mn tx i
      have hai := and_rng (bXor (td tl pg) (-1)) hni.1 (show Rg (nmP mn tx i) by omega)
      have hcr := nmC_rng mn tx (td tl pg) i
      refine r_iload_n C dX7_leastEarly_23 rfl ?_
      refine r_aload_n C dX7_leastEarly_24 rfl ?_
      refine r_get C dX7_leastEarly_25 flX7_26 e0 rfl ?_
      refine r_iload_n C dX7_leastEarly_28 rfl ?_
      refine r_cVi C dX7_leastEarly_29 mlX7_152 kX0_named (m_Bnamed (p := i) hb g3 hc20) hbs rfl rfl rfl (Nat.le_of_ble_eq_true rfl) (fit hX (by decide)) ?_
      refine r_iload_n C dX7_leastEarly_32 rfl ?_
      refine r_iconst C dX7_leastEarly_33 (by decide) ?_
      refine r_ixor C dX7_leastEarly_34 ?_
      refine r_iand C dX7_leastEarly_35 ?_
      refine r_cSi C dX7_leastEarly_36 mlX7_177 kJ6_bitCount_0f7a4 (m_bitCount (x := bAnd (nmP mn tx i) (bXor (td tl pg) (-1))) hai.1 (by omega)) rfl rfl (Nat.le_of_ble_eq_true rfl) (fit hX (by decide)) ?_
      refine r_iadd C dX7_leastEarly_39 (show Rg (sm (nmC mn tx (td tl pg)) i + nmC mn tx (td tl pg) i) by omega) ?_
      refine r_istore_n C dX7_leastEarly_40 (by decide) ?_
      refine r_iinc C dX7_leastEarly_41 rfl (by decide) (by omega) ?_
      refine r_goto (tgt := 12) C dX7_leastEarly_44 (by decide) ?_
      exact hz
  refine r_aload_n C dX7_leastEarly_0 rfl ?_
  refine r_get C dX7_leastEarly_1 flX7_26 e0 rfl ?_
  refine r_cVi C dX7_leastEarly_4 mlX7_246 kX0_toldWords (m_toldWords hb) hbs rfl rfl rfl (Nat.le_of_ble_eq_true rfl) (fit hX (by decide)) ?_
  refine r_istore_n C dX7_leastEarly_7 (by decide) ?_
  refine r_iconst C dX7_leastEarly_8 (by decide) ?_
  refine r_istore_n C dX7_leastEarly_9 (by decide) ?_
  refine r_iconst C dX7_leastEarly_10 (by decide) ?_
  refine r_istore_n C dX7_leastEarly_11 (by decide) ?_
  exact loop (pg.toNat + 1) 0 (by omega) (by omega) (by omega)
theorem m_firstFree {pl un : Int} (hc : RC h x pn pf vs pg mn tx tl du kp im) : Meets yX7_firstFree cX7_firstFree 4 (some .int) 5 0 0 [vR x, vI pl, vI un] h (pI (ff (nmP mn tx) pg pl un 13 0) h) := by
  obtain ⟨pad, pb, tr, bk, ims, kpa, rk, ao, al, ne, i0, i1, nb, z1, z2, z3, gp, kf, kn, cs, kn2, no, f, fi, c, hra, htr, hb, ho, hl, hos, hne⟩ := id hc
  obtain ⟨⟨e0, e1, e2, e3, e4⟩, him, hp⟩ := id hra
  obtain ⟨nt, x1, x2, x3, x4, x5, ft, fs, f2, f4, f5, ⟨hbs, -⟩, -, hvs, hpg, -⟩ := id hb
  refine Meets.of (plainFor_of_name (by decide)) (Nat.le_of_ble_eq_true rfl) (fun X C hX hN hA => ?_)
  have loop : ∀ (j : Nat) (i : Int), 0 ≤ i → i ≤ pg → pg - i < j → ff (nmP mn tx) pg pl un j i = ff (nmP mn tx) pg pl un 13 0 → Go X (Qm X (pI (ff (nmP mn tx) pg pl un 13 0) h) 0 0) 0 0 h 2 [some (vR x), some (vI pl), some (vI un), some (vI i)] [] := by
    intro j
    induction j with
    | zero => intro i g3 g4 g5; exact absurd g5 (by omega)
    | succ j ih =>
      intro i g3 g4 g5 hf
      conv at hf => lhs; unfold ff
      refine r_iload_n C dX7_firstFree_2 rfl ?_
      refine r_aload_n C dX7_firstFree_3 rfl ?_
      refine r_get C dX7_firstFree_4 flX7_26 e0 rfl ?_
      refine r_cVi C dX7_firstFree_7 mlX7_128 kX0_pages (m_pages hb) hbs rfl rfl rfl (Nat.le_of_ble_eq_true rfl) (fit hX (by decide)) ?_
      refine r_icmp_ge (tgt := 42) C dX7_firstFree_10 (by decide) (fun hc10 => ?_) (fun hc10 => ?_)
      · rw [if_pos hc10] at hf
        refine r_bipush C dX7_firstFree_42 (by decide) ?_
        exact r_iret C dX7_firstFree_44 (by decide) (by decide) ⟨by rw [← hf], rfl⟩
      rw [if_neg (by omega)] at hf
      refine r_iload_n C dX7_firstFree_13 rfl ?_
      refine r_iload_n C dX7_firstFree_14 rfl ?_
      refine r_ishr C dX7_firstFree_15 ?_
      refine r_iconst C dX7_firstFree_16 (by decide) ?_
      refine r_iand C dX7_firstFree_17 ?_
      refine r_if_ne (tgt := 36) C dX7_firstFree_18 (by decide) (fun hc18 => ?_) (fun hc18 => ?_)
      · rw [if_neg (fun q => hc18 q.1)] at hf
        refine r_iinc C dX7_firstFree_36 rfl (by decide) (by omega) ?_
        refine r_goto (tgt := 2) C dX7_firstFree_39 (by decide) ?_
        exact ih (i + 1) (by omega) (by omega) (by omega) hf
      refine r_aload_n C dX7_firstFree_21 rfl ?_
      refine r_get C dX7_firstFree_22 flX7_26 e0 rfl ?_
      refine r_iload_n C dX7_firstFree_25 rfl ?_
      refine r_cVi C dX7_firstFree_26 mlX7_152 kX0_named (m_Bnamed (p := i) hb g3 hc10) hbs rfl rfl rfl (Nat.le_of_ble_eq_true rfl) (fit hX (by decide)) ?_
      refine r_iload_n C dX7_firstFree_29 rfl ?_
      refine r_iand C dX7_firstFree_30 ?_
      refine r_if_ne (tgt := 36) C dX7_firstFree_31 (by decide) (fun hc31 => ?_) (fun hc31 => ?_)
      · rw [if_neg (fun q => hc31 q.2)] at hf
        refine r_iinc C dX7_firstFree_36 rfl (by decide) (by omega) ?_
        refine r_goto (tgt := 2) C dX7_firstFree_39 (by decide) ?_
        exact ih (i + 1) (by omega) (by omega) (by omega) hf
      · rw [if_pos ⟨hc18, hc31⟩] at hf
        refine r_iload_n C dX7_firstFree_34 rfl ?_
        exact r_iret C dX7_firstFree_35 (by decide) (by decide) ⟨by rw [← hf], rfl⟩
  refine r_iconst C dX7_firstFree_0 (by decide) ?_
  refine r_istore_n C dX7_firstFree_1 (by decide) ?_
  exact loop 13 0 (by omega) (by omega) (by omega) rfl
theorem m_placedAt {w : Int} (hc : RC h x pn pf vs pg mn tx tl du kp im) (hI : IB vs pg mn tx tl du) (hw0 : 0 ≤ w) (hw1 : w < pg) : Meets yX7_placedAt cX7_placedAt 7 (some .int) 6 0 0 [vR x, vI w] h (pI (plR (nmP mn tx) tl pg (td tl pg) w.toNat 0 0) h) := by
  obtain ⟨pad, pb, tr, bk, ims, kpa, rk, ao, al, ne, i0, i1, nb, z1, z2, z3, gp, kf, kn, cs, kn2, no, f, fi, c, hra, htr, hb, ho, hl, hos, hne⟩ := id hc
  obtain ⟨⟨e0, e1, e2, e3, e4⟩, him, hp⟩ := id hra
  obtain ⟨nt, x1, x2, x3, x4, x5, ft, fs, f2, f4, f5, ⟨hbs, -⟩, -, hvs, hpg, -⟩ := id hb
  refine Meets.of (plainFor_of_name (by decide)) (Nat.le_of_ble_eq_true rfl) (fun X C hX hN hA => ?_)
  have loop : ∀ (j : Nat) (i pl t q : Int), 0 ≤ i → i ≤ w + 1 → w + 1 - i < j → (i ≤ w → plR (nmP mn tx) tl pg (td tl pg) (w - i).toNat pl t = plR (nmP mn tx) tl pg (td tl pg) w.toNat 0 0) → (¬ i ≤ w → q = plR (nmP mn tx) tl pg (td tl pg) w.toNat 0 0) → Go X (Qm X (pI (plR (nmP mn tx) tl pg (td tl pg) w.toNat 0 0) h) 0 0) 0 0 h 20 [some (vR x), some (vI w), some (vI (td tl pg)), some (vI pl), some (vI t), some (vI q), some (vI i)] [] := by
    intro j
    induction j with
    | zero => intro i pl t q g3 g4 g5; exact absurd g5 (by omega)
    | succ j ih =>
      intro i pl t q g3 g4 g5 ha hb'
      refine r_iload C dX7_placedAt_20 rfl ?_
      refine r_iload_n C dX7_placedAt_22 rfl ?_
      refine r_icmp_gt (tgt := 90) C dX7_placedAt_23 (by decide) (fun hc23 => ?_) (fun hc23 => ?_)
      · refine r_iload C dX7_placedAt_90 rfl ?_
        exact r_iret C dX7_placedAt_92 (by decide) (by decide) ⟨by rw [hb' (by omega)], rfl⟩
      have hpl := ha hc23
      refine r_aload_n C dX7_placedAt_26 rfl ?_
      refine r_iload_n C dX7_placedAt_27 rfl ?_
      refine r_iload_n C dX7_placedAt_28 rfl ?_
      refine r_iload C dX7_placedAt_29 rfl ?_
      refine r_iconst C dX7_placedAt_31 (by decide) ?_
      refine r_ixor C dX7_placedAt_32 ?_
      refine r_iand C dX7_placedAt_33 ?_
      refine r_cVi C dX7_placedAt_34 mlX7_249 kX7_firstFree (m_firstFree (pl := pl) (un := bAnd (td tl pg) (bXor t (-1))) hc) e0 rfl rfl rfl (Nat.le_of_ble_eq_true rfl) (fit hX (by decide)) ?_
      refine r_istore C dX7_placedAt_37 (by decide) ?_
      refine r_iload C dX7_placedAt_39 rfl ?_
      refine r_bipush C dX7_placedAt_41 (by decide) ?_
      refine r_icmp_ne (tgt := 49) C dX7_placedAt_43 (by decide) (fun hc43 => ?_) (fun hc43 => ?_)
      rotate_left
      · refine r_bipush C dX7_placedAt_46 (by decide) ?_
        refine r_iret C dX7_placedAt_48 (by decide) (by decide) ⟨?_, rfl⟩
        rw [← hpl]
        cases hk : (w - i).toNat with
        | zero => unfold plR; rw [hc43]
        | succ m => unfold plR; rw [if_pos hc43]
      have hq : 0 ≤ ff (nmP mn tx) pg pl (bAnd (td tl pg) (bXor t (-1))) 13 0 ∧ ff (nmP mn tx) pg pl (bAnd (td tl pg) (bXor t (-1))) 13 0 < pg := (ff_rng 13 0).resolve_left hc43
      have hnext : ∀ t', (t' = if tl (ff (nmP mn tx) pg pl (bAnd (td tl pg) (bXor t (-1))) 13 0) = -6 then t else bOr t (bShl 1 (tl (ff (nmP mn tx) pg pl (bAnd (td tl pg) (bXor t (-1))) 13 0)))) → Go X (Qm X (pI (plR (nmP mn tx) tl pg (td tl pg) w.toNat 0 0) h) 0 0) 0 0 h 84 [some (vR x), some (vI w), some (vI (td tl pg)), some (vI (bOr pl (bShl 1 (ff (nmP mn tx) pg pl (bAnd (td tl pg) (bXor t (-1))) 13 0)))), some (vI t'), some (vI (ff (nmP mn tx) pg pl (bAnd (td tl pg) (bXor t (-1))) 13 0)), some (vI i)] [] := by
        intro t' ht'
        refine r_iinc C dX7_placedAt_84 rfl (by decide) (by omega) ?_
        refine r_goto (tgt := 20) C dX7_placedAt_87 (by decide) ?_
        refine ih (i + 1) _ t' _ (by omega) (by omega) (by omega) (fun z => ?_) (fun z => ?_)
        · rw [← hpl, show (w - i).toNat = (w - (i + 1)).toNat + 1 by omega]
          conv => rhs; unfold plR
          rw [if_neg hc43, ← ht']
        · rw [← hpl, show (w - i).toNat = 0 by omega]
          rfl
      refine r_iload_n C dX7_placedAt_49 rfl ?_
      refine r_iconst C dX7_placedAt_50 (by decide) ?_
      refine r_iload C dX7_placedAt_51 rfl ?_
      refine r_ishl C dX7_placedAt_53 ?_
      refine r_ior C dX7_placedAt_54 ?_
      refine r_istore_n C dX7_placedAt_55 (by decide) ?_
      refine r_aload_n C dX7_placedAt_56 rfl ?_
      refine r_get C dX7_placedAt_57 flX7_26 e0 rfl ?_
      refine r_iload C dX7_placedAt_60 rfl ?_
      refine r_cVi C dX7_placedAt_62 mlX7_146 kX0_isExample (m_isExample (p := ff (nmP mn tx) pg pl (bAnd (td tl pg) (bXor t (-1))) 13 0) hb) hbs rfl rfl rfl (Nat.le_of_ble_eq_true rfl) (fit hX (by decide)) ?_
      refine r_if_ne (tgt := 84) C dX7_placedAt_65 (by decide) (fun hc65 => ?_) (fun hc65 => ?_)
      · exact hnext t (if_pos (zb_n0.mp hc65).2.2).symm
      · refine r_iload C dX7_placedAt_68 rfl ?_
        refine r_iconst C dX7_placedAt_70 (by decide) ?_
        refine r_aload_n C dX7_placedAt_71 rfl ?_
        refine r_get C dX7_placedAt_72 flX7_26 e0 rfl ?_
        refine r_iload C dX7_placedAt_75 rfl ?_
        refine r_cVi C dX7_placedAt_77 mlX7_143 kX0_toldWord (m_toldWord (p := ff (nmP mn tx) pg pl (bAnd (td tl pg) (bXor t (-1))) 13 0) hb hq.1 hq.2) hbs rfl rfl rfl (Nat.le_of_ble_eq_true rfl) (fit hX (by decide)) ?_
        refine r_ishl C dX7_placedAt_80 ?_
        refine r_ior C dX7_placedAt_81 ?_
        refine r_istore C dX7_placedAt_82 (by decide) ?_
        exact hnext _ (if_neg (fun z => zb_0.mp hc65 ⟨hq.1, hq.2, z⟩)).symm
  refine r_aload_n C dX7_placedAt_0 rfl ?_
  refine r_get C dX7_placedAt_1 flX7_26 e0 rfl ?_
  refine r_cVi C dX7_placedAt_4 mlX7_246 kX0_toldWords (m_toldWords hb) hbs rfl rfl rfl (Nat.le_of_ble_eq_true rfl) (fit hX (by decide)) ?_
  refine r_istore_n C dX7_placedAt_7 (by decide) ?_
  refine r_iconst C dX7_placedAt_8 (by decide) ?_
  refine r_istore_n C dX7_placedAt_9 (by decide) ?_
  refine r_iconst C dX7_placedAt_10 (by decide) ?_
  refine r_istore C dX7_placedAt_11 (by decide) ?_
  refine r_bipush C dX7_placedAt_13 (by decide) ?_
  refine r_istore C dX7_placedAt_15 (by decide) ?_
  refine r_iconst C dX7_placedAt_17 (by decide) ?_
  refine r_istore C dX7_placedAt_18 (by decide) ?_
  exact loop (w.toNat + 2) 0 0 0 (-6) (by omega) (by omega) (by omega) (fun _ => by rw [Int.sub_zero]) (fun q => by omega)
theorem C_order {w : Int} (hc : RC h x pn pf vs pg mn tx tl du kp im) (hI : IB vs pg mn tx tl du) : Meets yX7_order cX7_order 2 (some .int) 200 0 0 [vR x, vI w] h (pI (aOrder pg mn tx tl w) h) := by
  obtain ⟨pad, pb, tr, bk, ims, kpa, rk, ao, al, ne, i0, i1, nb, z1, z2, z3, gp, kf, kn, cs, kn2, no, f, fi, c, hra, htr, hb, ho, hl, hos, hne⟩ := id hc
  obtain ⟨⟨e0, e1, e2, e3, e4⟩, him, hp⟩ := id hra
  obtain ⟨nt, x1, x2, x3, x4, x5, ft, fs, f2, f4, f5, ⟨hbs, -⟩, -, hvs, hpg, -⟩ := id hb
  refine Meets.of (plainFor_of_name (by decide)) (Nat.le_of_ble_eq_true rfl) (fun X C hX hN hA => ?_)
  unfold aOrder
  refine r_iload_n C dX7_order_0 rfl ?_
  refine r_iconst C dX7_order_1 (by decide) ?_
  refine r_icmp_ne (tgt := 10) C dX7_order_2 (by decide) (fun hc2 => ?_) (fun hc2 => ?_)
  rotate_left
  · rw [if_pos hc2]
    refine r_aload_n C dX7_order_5 rfl ?_
    refine r_cVi C dX7_order_6 mlX7_186 kX7_earlyAsTheyStand (m_early hc hI) e0 rfl rfl rfl (Nat.le_of_ble_eq_true rfl) (fit hX (by decide)) ?_
    exact r_iret C dX7_order_9 (by decide) (by decide) ⟨rfl, rfl⟩
  rw [if_neg hc2]
  refine r_iload_n C dX7_order_10 rfl ?_
  refine r_bipush C dX7_order_11 (by decide) ?_
  refine r_icmp_ne (tgt := 21) C dX7_order_13 (by decide) (fun hc13 => ?_) (fun hc13 => ?_)
  rotate_left
  · rw [if_pos hc13]
    refine r_aload_n C dX7_order_16 rfl ?_
    refine r_cVi C dX7_order_17 mlX7_189 kX7_leastEarly (m_least hc) e0 rfl rfl rfl (Nat.le_of_ble_eq_true rfl) (fit hX (by decide)) ?_
    exact r_iret C dX7_order_20 (by decide) (by decide) ⟨rfl, rfl⟩
  rw [if_neg hc13]
  refine r_iload_n C dX7_order_21 rfl ?_
  refine r_if_lt (tgt := 44) C dX7_order_22 (by decide) (fun hc22 => ?_) (fun hc22 => ?_)
  · rw [if_neg (by omega)]
    refine r_bipush C dX7_order_44 (by decide) ?_
    exact r_iret C dX7_order_46 (by decide) (by decide) ⟨rfl, rfl⟩
  refine r_iload_n C dX7_order_25 rfl ?_
  refine r_aload_n C dX7_order_26 rfl ?_
  refine r_get C dX7_order_27 flX7_26 e0 rfl ?_
  refine r_cVi C dX7_order_30 mlX7_128 kX0_pages (m_pages hb) hbs rfl rfl rfl (Nat.le_of_ble_eq_true rfl) (fit hX (by decide)) ?_
  refine r_icmp_ge (tgt := 44) C dX7_order_33 (by decide) (fun hc33 => ?_) (fun hc33 => ?_)
  · rw [if_neg (by omega)]
    refine r_bipush C dX7_order_44 (by decide) ?_
    exact r_iret C dX7_order_46 (by decide) (by decide) ⟨rfl, rfl⟩
  · rw [if_pos ⟨hc22, hc33⟩]
    refine r_aload_n C dX7_order_36 rfl ?_
    refine r_iload_n C dX7_order_37 rfl ?_
    refine r_cVi C dX7_order_38 mlX7_192 kX7_placedAt (m_placedAt hc hI hc22 hc33) e0 rfl rfl rfl (Nat.le_of_ble_eq_true rfl) (fit hX (by decide)) ?_
    refine r_goto (tgt := 46) C dX7_order_41 (by decide) ?_
    exact r_iret C dX7_order_46 (by decide) (by decide) ⟨rfl, rfl⟩
end
