/-! Text, second part -/
theorem m_endOf {h : Pic} {a : Nat} {n : Int} {f : Int → Int} (ht : TxR h a n f) : ∀ (d : Nat) (p : Int), d ≤ 6 → 0 ≤ p → p ≤ n → Meets yX6_endOf cX6_endOf 6 (some .int) (d + 1) 0 0 [vR a, vI p, vI (6 - d)] h (pI (pe n f d p) h) := by
  obtain ⟨b, t, t', m, g, hs, ha, h0, h1, h40, hg⟩ := id ht
  intro d
  induction d with
  | zero =>
    intro p h2 h3 h4
    refine Meets.of (plainFor_of_name (by decide)) (Nat.le_of_ble_eq_true rfl) (fun X C hX hN hA => ?_)
    have hnd := nd_rng (sgn n f p)
    refine r_aload_n C dX6_endOf_0 rfl ?_
    refine r_iload_n C dX6_endOf_1 rfl ?_
    refine r_cVi C dX6_endOf_2 mlX6_47 kX6_sign (m_sign ht (p := p)) hs rfl rfl rfl (Nat.le_of_ble_eq_true rfl) (fit hX (by omega)) ?_
    refine r_cSi C dX6_endOf_5 mlX6_51 kX4_needs (m_needs (c := sgn n f p)) rfl rfl (Nat.le_of_ble_eq_true rfl) (fit hX (by omega)) ?_
    refine r_istore_n C dX6_endOf_8 (by decide) ?_
    refine r_iload_n C dX6_endOf_9 rfl ?_
    refine r_if_lt (tgt := 23) C dX6_endOf_10 (by decide) (fun hc10 => ?_) (fun hc10 => ?_)
    · refine r_iconst C dX6_endOf_23 (by decide) ?_
      refine r_iload_n C dX6_endOf_24 rfl ?_
      refine r_isub C dX6_endOf_25 (by omega) ?_
      exact r_iret C dX6_endOf_26 (by decide) (by decide) ⟨some_I (if_pos (by omega)).symm, rfl⟩
    · refine r_iload_n C dX6_endOf_13 rfl ?_
      refine r_if_le (tgt := 27) C dX6_endOf_14 (by decide) (fun hc14 => ?_) (fun hc14 => ?_)
      · refine r_iload_n C dX6_endOf_27 rfl ?_
        refine r_iconst C dX6_endOf_28 (by decide) ?_
        refine r_iadd C dX6_endOf_29 (by omega) ?_
        refine r_istore C dX6_endOf_30 (by decide) ?_
        refine r_iconst C dX6_endOf_32 (by decide) ?_
        refine r_istore C dX6_endOf_33 (by decide) ?_
        refine r_iload C dX6_endOf_35 rfl ?_
        refine r_iload_n C dX6_endOf_37 rfl ?_
        refine r_icmp_ge (tgt := 63) C dX6_endOf_38 (by decide) (fun hq => ?_) (fun hq => absurd hq (by omega))
        refine r_iload C dX6_endOf_63 rfl ?_
        exact r_iret C dX6_endOf_65 (by decide) (by decide) ⟨some_I (if_neg (by omega)).symm, rfl⟩
      · refine r_iload_n C dX6_endOf_17 rfl ?_
        refine r_bipush C dX6_endOf_18 (by decide) ?_
        refine r_icmp_lt (tgt := 27) C dX6_endOf_20 (by decide) (fun hc20 => ?_) (fun hc20 => ?_)
        · exact absurd hc20 (by omega)
        · refine r_iconst C dX6_endOf_23 (by decide) ?_
          refine r_iload_n C dX6_endOf_24 rfl ?_
          refine r_isub C dX6_endOf_25 (by omega) ?_
          exact r_iret C dX6_endOf_26 (by decide) (by decide) ⟨some_I (if_pos (by omega)).symm, rfl⟩
  | succ d ih =>
    intro p h2 h3 h4
    have hsum : (6 : Int) - ((d + 1 : Nat) : Int) + 1 = 6 - (d : Int) := by omega
    refine Meets.of (plainFor_of_name (by decide)) (Nat.le_of_ble_eq_true rfl) (fun X C hX hN hA => ?_)
    have hnd := nd_rng (sgn n f p)
    have loop : ∀ (r : Nat) (i e : Int), i + r = nd (sgn n f p) → 0 ≤ i → i ≤ 3 → -1 - n ≤ e → e ≤ n → Go X (Qm X (pI (pit (pe n f d) r e) h) 0 0) 0 0 h 35 [some (vR a), some (vI p), some (vI (6 - ((d + 1 : Nat) : Int))), some (vI (nd (sgn n f p))), some (vI e), some (vI i)] [] := by
      intro r
      induction r with
      | zero =>
        intro i e q1 q2 q3 q4 q5
        refine r_iload C dX6_endOf_35 rfl ?_
        refine r_iload_n C dX6_endOf_37 rfl ?_
        refine r_icmp_ge (tgt := 63) C dX6_endOf_38 (by decide) (fun hc38 => ?_) (fun hc38 => ?_)
        · refine r_iload C dX6_endOf_63 rfl ?_
          exact r_iret C dX6_endOf_65 (by decide) (by decide) (⟨rfl, rfl⟩)
        · exact absurd hc38 (by omega)
      | succ r ihr =>
        intro i e q1 q2 q3 q4 q5
        refine r_iload C dX6_endOf_35 rfl ?_
        refine r_iload_n C dX6_endOf_37 rfl ?_
        refine r_icmp_ge (tgt := 63) C dX6_endOf_38 (by decide) (fun hc38 => ?_) (fun hc38 => ?_)
        · exact absurd hc38 (by omega)
        · refine r_iload C dX6_endOf_41 rfl ?_
          refine r_if_lt (tgt := 63) C dX6_endOf_43 (by decide) (fun hc43 => ?_) (fun hc43 => ?_)
          · refine r_iload C dX6_endOf_63 rfl ?_
            exact r_iret C dX6_endOf_65 (by decide) (by decide) (⟨some_I (pit_neg _ _ (by omega)).symm, rfl⟩)
          · refine r_aload_n C dX6_endOf_46 rfl ?_
            refine r_iload C dX6_endOf_47 rfl ?_
            refine r_iload_n C dX6_endOf_49 rfl ?_
            refine r_iconst C dX6_endOf_50 (by decide) ?_
            refine r_iadd C dX6_endOf_51 (by omega) ?_
            rw [hsum]
            refine r_cVi C dX6_endOf_52 mlX6_44 kX6_endOf (ih e (by omega) (by omega) (by omega)) hs rfl rfl rfl (Nat.le_of_ble_eq_true rfl) (fit hX (by omega)) ?_
            have hr := pe_rng n f d e (by omega) (by omega)
            refine r_istore C dX6_endOf_55 (by decide) ?_
            refine r_iinc C dX6_endOf_57 rfl (by decide) (by omega) ?_
            refine r_goto (tgt := 35) C dX6_endOf_60 (by decide) ?_
            have hst : pit (pe n f d) (r + 1) e = pit (pe n f d) r (pe n f d e) := if_neg (by omega)
            rw [hst]
            exact ihr (i + 1) (pe n f d e) (by omega) (by omega) (by omega) (by omega) (by omega)
    refine r_aload_n C dX6_endOf_0 rfl ?_
    refine r_iload_n C dX6_endOf_1 rfl ?_
    refine r_cVi C dX6_endOf_2 mlX6_47 kX6_sign (m_sign ht (p := p)) hs rfl rfl rfl (Nat.le_of_ble_eq_true rfl) (fit hX (by omega)) ?_
    refine r_cSi C dX6_endOf_5 mlX6_51 kX4_needs (m_needs (c := sgn n f p)) rfl rfl (Nat.le_of_ble_eq_true rfl) (fit hX (by omega)) ?_
    refine r_istore_n C dX6_endOf_8 (by decide) ?_
    refine r_iload_n C dX6_endOf_9 rfl ?_
    refine r_if_lt (tgt := 23) C dX6_endOf_10 (by decide) (fun hc10 => ?_) (fun hc10 => ?_)
    · refine r_iconst C dX6_endOf_23 (by decide) ?_
      refine r_iload_n C dX6_endOf_24 rfl ?_
      refine r_isub C dX6_endOf_25 (by omega) ?_
      exact r_iret C dX6_endOf_26 (by decide) (by decide) ⟨some_I (if_pos (by omega)).symm, rfl⟩
    · refine r_iload_n C dX6_endOf_13 rfl ?_
      refine r_if_le (tgt := 27) C dX6_endOf_14 (by decide) (fun hc14 => ?_) (fun hc14 => ?_)
      · have hlt := nd_sgn (n := n) (f := f) (p := p) (by omega)
        refine r_iload_n C dX6_endOf_27 rfl ?_
        refine r_iconst C dX6_endOf_28 (by decide) ?_
        refine r_iadd C dX6_endOf_29 (by omega) ?_
        refine r_istore C dX6_endOf_30 (by decide) ?_
        refine r_iconst C dX6_endOf_32 (by decide) ?_
        refine r_istore C dX6_endOf_33 (by decide) ?_
        have hst : pe n f (d + 1) p = pit (pe n f d) (nd (sgn n f p)).toNat (p + 1) := if_neg (by omega)
        rw [hst]
        exact loop (nd (sgn n f p)).toNat 0 (p + 1) (by omega) (by omega) (by omega) (by omega) (by omega)
      · refine r_iload_n C dX6_endOf_17 rfl ?_
        refine r_bipush C dX6_endOf_18 (by decide) ?_
        refine r_icmp_lt (tgt := 27) C dX6_endOf_20 (by decide) (fun hc20 => ?_) (fun hc20 => ?_)
        · have hlt := nd_sgn (n := n) (f := f) (p := p) (by omega)
          refine r_iload_n C dX6_endOf_27 rfl ?_
          refine r_iconst C dX6_endOf_28 (by decide) ?_
          refine r_iadd C dX6_endOf_29 (by omega) ?_
          refine r_istore C dX6_endOf_30 (by decide) ?_
          refine r_iconst C dX6_endOf_32 (by decide) ?_
          refine r_istore C dX6_endOf_33 (by decide) ?_
          have hst : pe n f (d + 1) p = pit (pe n f d) (nd (sgn n f p)).toNat (p + 1) := if_neg (by omega)
          rw [hst]
          exact loop (nd (sgn n f p)).toNat 0 (p + 1) (by omega) (by omega) (by omega) (by omega) (by omega)
        · exact absurd hc20 (by omega)
theorem m_firstFault {h : Pic} {a : Nat} {n : Int} {f : Int → Int} (ht : TxR h a n f) : Meets yX6_firstFault cX6_firstFault 2 (some .int) 8 0 0 [vR a] h (pI (flt n f) h) := by
  obtain ⟨b, t, t', m, g, hs, ha, h0, h1, h40, hg⟩ := id ht
  refine Meets.of (plainFor_of_name (by decide)) (Nat.le_of_ble_eq_true rfl) (fun X C hX hN hA => ?_)
  have hr := pe_rng n f 6 0 (by omega) (by omega)
  refine r_aload_n C dX6_firstFault_0 rfl ?_
  refine r_iconst C dX6_firstFault_1 (by decide) ?_
  refine r_iconst C dX6_firstFault_2 (by decide) ?_
  refine r_cVi C dX6_firstFault_3 mlX6_44 kX6_endOf (m_endOf ht 6 0 (by decide) (by omega) (by omega)) hs rfl rfl rfl (Nat.le_of_ble_eq_true rfl) (fit hX (by decide)) ?_
  refine r_istore_n C dX6_firstFault_6 (by decide) ?_
  refine r_iload_n C dX6_firstFault_7 rfl ?_
  refine r_if_ge (tgt := 15) C dX6_firstFault_8 (by decide) (fun hc8 => ?_) (fun hc8 => ?_)
  · refine r_iload_n C dX6_firstFault_15 rfl ?_
    refine r_aload_n C dX6_firstFault_16 rfl ?_
    refine r_get C dX6_firstFault_17 flX6_21 hs rfl ?_
    refine r_icmp_ge (tgt := 27) C dX6_firstFault_20 (by decide) (fun hc20 => ?_) (fun hc20 => ?_)
    · refine r_bipush C dX6_firstFault_27 (by decide) ?_
      exact r_iret C dX6_firstFault_29 (by decide) (by decide) (⟨some_I (by unfold flt; (repeat' split) <;> omega), rfl⟩)
    · refine r_iload_n C dX6_firstFault_23 rfl ?_
      refine r_goto (tgt := 29) C dX6_firstFault_24 (by decide) ?_
      exact r_iret C dX6_firstFault_29 (by decide) (by decide) (⟨some_I (by unfold flt; (repeat' split) <;> omega), rfl⟩)
  · refine r_iconst C dX6_firstFault_11 (by decide) ?_
    refine r_iload_n C dX6_firstFault_12 rfl ?_
    refine r_isub C dX6_firstFault_13 (by omega) ?_
    exact r_iret C dX6_firstFault_14 (by decide) (by decide) (⟨some_I (by unfold flt; (repeat' split) <;> omega), rfl⟩)
theorem m_behind {h : Pic} {a : Nat} {n : Int} {f : Int → Int} (ht : TxR h a n f) {d : Nat} {p e : Int} (hp : 0 ≤ p) (hpn : p ≤ n) (he : pe n f d p = e) (h1 : 0 ≤ e) : Meets yX6_behind cX6_behind 4 (some .int) 1 0 0 [vR a, vI p] h (pI e h) := by
  have hbe := bhN_end (j := (n - p).toNat + 1) hp he h1 (by omega)
  obtain ⟨b, t, t', m, g, hs, ha, h0, h2, h40, hg⟩ := id ht
  refine Meets.of (plainFor_of_name (by decide)) (Nat.le_of_ble_eq_true rfl) (fun X C hX hN hA => ?_)
  have loop : ∀ (j : Nat) (q mm : Int), 0 ≤ q → q ≤ n → n - q < j → -200 + q ≤ mm → mm ≤ 200 + 3 * q → Go X (Qm X (pI (bhN n f j mm q) h) 0 0) 0 0 h 8 [some (vR a), some (vI p), some (vI mm), some (vI q)] [] := by
    intro j
    induction j with
    | zero => intro q mm h3 h4 h5; exact absurd h5 (by omega)
    | succ j ih =>
      intro q mm h3 h4 h5 h6 h7
      refine r_iload_n C dX6_behind_8 rfl ?_
      refine r_aload_n C dX6_behind_9 rfl ?_
      refine r_get C dX6_behind_10 flX6_21 hs rfl ?_
      refine r_icmp_ge (tgt := 44) C dX6_behind_13 (by decide) (fun hc13 => ?_) (fun hc13 => ?_)
      · refine r_aload_n C dX6_behind_44 rfl ?_
        refine r_get C dX6_behind_45 flX6_21 hs rfl ?_
        exact r_iret C dX6_behind_48 (by decide) (by decide) (⟨some_I (show n = (if n ≤ q then n else _) from (if_pos (by omega)).symm), rfl⟩)
      · refine r_iload_n C dX6_behind_16 rfl ?_
        refine r_aload_n C dX6_behind_17 rfl ?_
        refine r_get C dX6_behind_18 flX6_15 hs rfl ?_
        refine r_iload_n C dX6_behind_21 rfl ?_
        refine r_cald C dX6_behind_22 ha (by omega) (by omega) ?_
        have hgi := (hg q (by omega) (by omega)).1
        rw [hgi]
        have hnd := nd_rng (f q)
        refine r_cSi C dX6_behind_23 mlX6_51 kX4_needs (m_needs (c := f q)) rfl rfl (Nat.le_of_ble_eq_true rfl) (fit hX (by decide)) ?_
        refine r_iconst C dX6_behind_26 (by decide) ?_
        refine r_isub C dX6_behind_27 (by omega) ?_
        refine r_iadd C dX6_behind_28 (by omega) ?_
        refine r_istore_n C dX6_behind_29 (by decide) ?_
        refine r_iload_n C dX6_behind_30 rfl ?_
        refine r_if_gt (tgt := 38) C dX6_behind_31 (by decide) (fun hc31 => ?_) (fun hc31 => ?_)
        · have hst : bhN n f (j + 1) mm q = bhN n f j (mm + (nd (f q) - 1)) (q + 1) := (by show (if n ≤ q then n else if mm + nd (f q) - 1 ≤ 0 then q + 1 else bhN n f j (mm + nd (f q) - 1) (q + 1)) = _; rw [if_neg (by omega), if_neg (by omega), show mm + nd (f q) - 1 = mm + (nd (f q) - 1) by omega])
          rw [hst]
          refine r_iinc C dX6_behind_38 rfl (by decide) (by omega) ?_
          refine r_goto (tgt := 8) C dX6_behind_41 (by decide) ?_
          exact ih (q + 1) (mm + (nd (f q) - 1)) (by omega) (by omega) (by omega) (by omega) (by omega)
        · refine r_iload_n C dX6_behind_34 rfl ?_
          refine r_iconst C dX6_behind_35 (by decide) ?_
          refine r_iadd C dX6_behind_36 (by omega) ?_
          exact r_iret C dX6_behind_37 (by decide) (by decide) (⟨some_I (show q + 1 = (if n ≤ q then n else if mm + nd (f q) - 1 ≤ 0 then q + 1 else _) by rw [if_neg (by omega), if_pos (by omega)]), rfl⟩)
  refine r_iconst C dX6_behind_0 (by decide) ?_
  refine r_istore_n C dX6_behind_1 (by decide) ?_
  refine r_iconst C dX6_behind_2 (by decide) ?_
  refine r_iload_n C dX6_behind_3 rfl ?_
  refine r_cSi C dX6_behind_4 mlX6_9 kJ9_max_7cf53 (m_max (x := 0) (y := p)) rfl rfl (Nat.le_of_ble_eq_true rfl) (fit hX (by decide)) ?_
  rw [show (if (0 : Int) < p then p else 0) = p by split <;> omega]
  refine r_istore_n C dX6_behind_7 (by decide) ?_
  rw [← hbe]
  exact loop ((n - p).toNat + 1) p 1 (by omega) (by omega) (by omega) (by omega) (by omega)
theorem m_isLike {h : Pic} {a o : Nat} {n n2 : Int} {f f2 : Int → Int} (ht : TxR h a n f) (ho : TxR h o n2 f2) : Meets yX6_isLike cX6_isLike 3 (some .boolean) 0 0 0 [vR a, vR o] h (pI (zb (n = n2 ∧ ∀ i, 0 ≤ i → i < n → f i = f2 i)) h) := by
  obtain ⟨b, t, t', m, g, hs, ha, h0, h1, h40, hg⟩ := ht
  obtain ⟨b2, t2, t2', m2, g2, hs2, ha2, h02, h12, h42, hg2⟩ := ho
  refine Meets.of (plainFor_of_name (by decide)) (Nat.le_of_ble_eq_true rfl) (fun X C hX hN hA => ?_)
  have loop : n = n2 → ∀ (j : Nat) (i : Int), 0 ≤ i → i ≤ n → n - i < j → (∀ q, 0 ≤ q → q < i → f q = f2 q) → Go X (Qm X (pI (zb (n = n2 ∧ ∀ i, 0 ≤ i → i < n → f i = f2 i)) h) 0 0) 0 0 h 15 [some (vR a), some (vR o), some (vI i)] [] := by
    intro hnn j
    induction j with
    | zero => intro i h3 h4 h5; exact absurd h5 (by omega)
    | succ j ih =>
      intro i h3 h4 h5 h6
      refine r_iload_n C dX6_isLike_15 rfl ?_
      refine r_aload_n C dX6_isLike_16 rfl ?_
      refine r_get C dX6_isLike_17 flX6_21 hs rfl ?_
      refine r_icmp_ge (tgt := 46) C dX6_isLike_20 (by decide) (fun hc20 => ?_) (fun hc20 => ?_)
      · refine r_iconst C dX6_isLike_46 (by decide) ?_
        exact r_zret C dX6_isLike_47 (by omega) (by decide) (by decide) (⟨some_I (zb_t ⟨hnn, fun q q1 q2 => h6 q q1 (by omega)⟩).symm, rfl⟩)
      · refine r_aload_n C dX6_isLike_23 rfl ?_
        refine r_get C dX6_isLike_24 flX6_15 hs rfl ?_
        refine r_iload_n C dX6_isLike_27 rfl ?_
        refine r_cald C dX6_isLike_28 ha (by omega) (by omega) ?_
        refine r_aload_n C dX6_isLike_29 rfl ?_
        refine r_get C dX6_isLike_30 flX6_15 hs2 rfl ?_
        refine r_iload_n C dX6_isLike_33 rfl ?_
        refine r_cald C dX6_isLike_34 ha2 (by omega) (by omega) ?_
        have e1 := (hg i (by omega) (by omega)).1
        have e2 := (hg2 i (by omega) (by omega)).1
        refine r_icmp_eq (tgt := 40) C dX6_isLike_35 (by decide) (fun hc35 => ?_) (fun hc35 => ?_)
        · refine r_iinc C dX6_isLike_40 rfl (by decide) (by omega) ?_
          refine r_goto (tgt := 15) C dX6_isLike_43 (by decide) ?_
          exact ih (i + 1) (by omega) (by omega) (by omega) (fun q q1 q2 => by rcases (show q < i ∨ q = i by omega) with q3 | rfl; exact h6 q q1 q3; omega)
        · refine r_iconst C dX6_isLike_38 (by decide) ?_
          exact r_zret C dX6_isLike_39 (by omega) (by decide) (by decide) (⟨some_I (zb_f (fun ⟨_, q⟩ => hc35 (by rw [e1, e2]; exact q i (by omega) (by omega)))).symm, rfl⟩)
  refine r_aload_n C dX6_isLike_0 rfl ?_
  refine r_get C dX6_isLike_1 flX6_21 hs rfl ?_
  refine r_aload_n C dX6_isLike_4 rfl ?_
  refine r_get C dX6_isLike_5 flX6_21 hs2 rfl ?_
  refine r_icmp_eq (tgt := 13) C dX6_isLike_8 (by decide) (fun hc8 => ?_) (fun hc8 => ?_)
  · refine r_iconst C dX6_isLike_13 (by decide) ?_
    refine r_istore_n C dX6_isLike_14 (by decide) ?_
    exact loop hc8 (n.toNat + 1) 0 (by omega) (by omega) (by omega) (fun q q1 q2 => by omega)
  · refine r_iconst C dX6_isLike_11 (by decide) ?_
    exact r_zret C dX6_isLike_12 (by omega) (by decide) (by decide) (⟨some_I (zb_f (fun q => hc8 q.1)).symm, rfl⟩)
/-- a text becomes as another one is -/
theorem m_become {h : Pic} {a b t t' o bo to to' : Nat} {n0 m n mo : Int} {g0 go f : Int → Int} (hs : h a = some (ob t 6 [vR b, vI n0])) (ha : h b = some (ia t' 1 m g0)) (hs2 : h o = some (ob to 6 [vR bo, vI n])) (ha2 : h bo = some (ia to' 1 mo go)) (ht1 : to ≠ t) (ht2 : to' ≠ t') (h0 : 0 ≤ n) (h1 : n ≤ m) (h2 : m ≤ 40) (h3 : n ≤ mo) (hg : ∀ i, 0 ≤ i → i < n → go i = f i ∧ 0 ≤ f i ∧ f i ≤ 126) :
    Meets yX6_become cX6_become 3 none 1 0 0 [vR a, vR o] h (pV (fun h' => ∃ g, h' a = some (ob t 6 [vR b, vI n]) ∧ h' b = some (ia t' 1 m g) ∧ Off [a, b] h h' ∧ (∀ i, 0 ≤ i → i < n → g i = f i) ∧ ∀ i, n ≤ i → g i = g0 i)) := by
  have hab := ne_of hs ha (fun q => by cases q)
  have hoa : o ≠ a := ne_of hs2 hs (fun q => ht1 (by cases q; rfl))
  have hob : o ≠ b := ne_of hs2 ha (fun q => by cases q)
  have hboa : bo ≠ a := ne_of ha2 hs (fun q => by cases q)
  have hbob : bo ≠ b := ne_of ha2 ha (fun q => ht2 (by cases q; rfl))
  refine Meets.of (plainFor_of_name (by decide)) (Nat.le_of_ble_eq_true rfl) (fun X C hX hN hA => ?_)
  have loop : ∀ (j : Nat) (i : Int) (h' : Pic) (g : Int → Int), 0 ≤ i → i ≤ n → n - i < j → h' a = some (ob t 6 [vR b, vI i]) → h' b = some (ia t' 1 m g) → Off [a, b] h h' → (∀ q, 0 ≤ q → q < i → g q = f q) → (∀ q, i ≤ q → g q = g0 q) → Go X (Qm X (pV (fun h' => ∃ g, h' a = some (ob t 6 [vR b, vI n]) ∧ h' b = some (ia t' 1 m g) ∧ Off [a, b] h h' ∧ (∀ i, 0 ≤ i → i < n → g i = f i) ∧ ∀ i, n ≤ i → g i = g0 i)) 0 0) 0 0 h' 6 [some (vR a), some (vR o), some (vI i)] [] := by
    intro j
    induction j with
    | zero => intro i h' g h3 h4 h5; exact absurd h5 (by omega)
    | succ j ih =>
      intro i h' g q1 q2 q3 q4 q5 q6 q7 q8
      have e1 : h' o = some (ob to 6 [vR bo, vI n]) := (q6 o (by simp [hoa, hob])).trans hs2
      have e2 : h' bo = some (ia to' 1 mo go) := (q6 bo (by simp [hboa, hbob])).trans ha2
      refine r_iload_n C dX6_become_6 rfl ?_
      refine r_aload_n C dX6_become_7 rfl ?_
      refine r_get C dX6_become_8 flX6_21 e1 rfl ?_
      refine r_icmp_ge (tgt := 30) C dX6_become_11 (by decide) (fun hc11 => ?_) (fun hc11 => ?_)
      · exact r_vret C dX6_become_30 (by decide) (by decide) ⟨rfl, g, by rw [q4, show i = n by omega], q5, q6, fun q r1 r2 => q7 q r1 (by omega), fun q r1 => q8 q (by omega)⟩
      · refine r_aload_n C dX6_become_14 rfl ?_
        refine r_aload_n C dX6_become_15 rfl ?_
        refine r_get C dX6_become_16 flX6_15 e1 rfl ?_
        refine r_iload_n C dX6_become_19 rfl ?_
        refine r_cald C dX6_become_20 e2 (by omega) (by omega) ?_
        have hgi := hg i (by omega) (by omega)
        rw [hgi.1]
        refine r_cVv C dX6_become_21 mlX6_28 kX6_add (m_add q4 q5 (by omega) (by omega) (by omega) (by omega)) q4 rfl rfl rfl (Nat.le_of_ble_eq_true rfl) (fit hX (by decide)) ?_
        rintro h'' rfl
        refine r_iinc C dX6_become_24 rfl (by decide) (by omega) ?_
        refine r_goto (tgt := 6) C dX6_become_27 (by decide) ?_
        refine ih (i + 1) _ (fu g i (f i)) (by omega) (by omega) (by omega) pu_s ((pu_n hab.symm).trans pu_s) ((q6.put (by simp)).put (by simp)) (fun q r1 r2 => ?_) (fun q r1 => ?_)
        · by_cases hq : q = i
          · rw [hq, fu_s]
          · rw [fu_n hq]; exact q7 q r1 (by omega)
        · rw [fu_n (by omega)]; exact q8 q (by omega)
  refine r_aload_n C dX6_become_0 rfl ?_
  refine r_cVv C dX6_become_1 mlX6_25 kX6_clear (m_clear hs) hs rfl rfl rfl (Nat.le_of_ble_eq_true rfl) (fit hX (by decide)) ?_
  rintro h'' rfl
  refine r_iconst C dX6_become_4 (by decide) ?_
  refine r_istore_n C dX6_become_5 (by decide) ?_
  exact loop (n.toNat + 1) 0 _ g0 (by omega) (by omega) (by omega) pu_s ((pu_n hab.symm).trans ha) (Off.rf.put (by simp)) (fun q r1 r2 => by omega) (fun q r1 => rfl)
