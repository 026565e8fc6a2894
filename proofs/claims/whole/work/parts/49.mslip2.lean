/-! the model: what is asked of slips; instead -/
section
variable {h : Pic} {m : Nat} {pn : Int} {pf : Int → Int} {vs pg : Int} {mn : Int → Int} {tx : Int → Int → Int} {tl du kp : Int → Int} {im : Int → Bs}
theorem N_slip {v i : Int} (hm : RM h m pn pf vs pg mn tx tl du kp im) : Meets yX8_slip cX8_slip 3 (some .int) 10 0 0 [vR m, vI v, vI i] h (pX (fun z h' => z = aSlip vs mn tx v i ∧ RM h' m pn pf vs pg mn tx tl du kp im ∧ Kp SM h h')) := by
  obtain ⟨A, pd, us, gi, op, th, la, lv, sl, T, S, M, tL, dU, rs, pA, pS, pH, bV, be, dO, hB, sA, nO, mI, mK, hp, hpt, hba, hsz, hld, him⟩ := id hm
  obtain ⟨⟨hv1, hv6, hp0, hp12⟩, -⟩ := id hba
  refine Meets.of (plainFor_of_name (by decide)) (Nat.le_of_ble_eq_true rfl) (fun X C hX hN hA => ?_)
  refine r_aload_n C dX8_slip_0 rfl ?_
  refine r_iload_n C dX8_slip_1 rfl ?_
  refine r_cVi C dX8_slip_2 mlX8_100 kX8_isVersion (n_isVersion (v := v) hp (by omega)) hp.o rfl rfl rfl (Nat.le_of_ble_eq_true rfl) (fit hX (by decide)) ?_
  refine r_if_ne (tgt := 10) C dX8_slip_5 (by decide) (fun hc5 => ?_) (fun hc5 => ?_)
  rotate_left
  · have hno := zb_0.mp hc5
    have hv : aSlip vs mn tx v i = -1 := if_pos (by omega)
    rw [hv]
    refine r_iconst C dX8_slip_8 (by decide) ?_
    exact r_iret C dX8_slip_9 (by decide) (by decide) ⟨_, rfl, rfl, hm, Kp.rf⟩
  have hvv := zb_n0.mp hc5
  have hv : aSlip vs mn tx v i = if i = -1 then sc (isS mn tx v) 320 else if 0 ≤ i ∧ i < sc (isS mn tx v) 320 then 100 * (en (isS mn tx v) 320 i / 40) + en (isS mn tx v) 320 i % 40 else -6 := if_neg (by omega)
  rw [hv]
  refine r_aload_n C dX8_slip_10 rfl ?_
  refine r_iload_n C dX8_slip_11 rfl ?_
  refine r_cVv C dX8_slip_12 mlX8_163 kX8_laySlips (n_laySlips (v := v) hp hba hsz hld hvv.1 (by omega)) hp.o rfl rfl rfl (Nat.le_of_ble_eq_true rfl) (fit hX (by decide)) ?_
  rintro h1 ⟨pd1, us1, gi1, op1, pA1, pS1, pH1, bV1, sA1, nO1, hp1, hl1, k1⟩
  have hM : RM h1 m pn pf vs pg mn tx tl du kp im := ⟨A, pd1, us1, gi1, op1, th, 1, v, sc (isS mn tx v) 320, T, S, M, tL, dU, rs, pA1, pS1, pH1, bV1, be, dO, hB, sA1, nO1, mI, mK, hp1, hpt, hba, hsz, Or.inr ⟨rfl, hvv.1, by omega, rfl, hl1⟩, him⟩
  have hsc := sc_rng (isS mn tx v) (i := 320) (by omega)
  refine r_iload_n C dX8_slip_15 rfl ?_
  refine r_iconst C dX8_slip_16 (by decide) ?_
  refine r_icmp_ne (tgt := 27) C dX8_slip_17 (by decide) (fun hc17 => ?_) (fun hc17 => ?_)
  rotate_left
  · rw [if_pos hc17]
    refine r_aload_n C dX8_slip_20 rfl ?_
    refine r_get C dX8_slip_21 flX8_157 hp1.o rfl ?_
    refine r_goto (tgt := 71) C dX8_slip_24 (by decide) ?_
    exact r_iret C dX8_slip_71 (by decide) (by decide) ⟨_, rfl, rfl, hM, k1⟩
  rw [if_neg hc17]
  refine r_iload_n C dX8_slip_27 rfl ?_
  refine r_iconst C dX8_slip_28 (by decide) ?_
  refine r_aload_n C dX8_slip_29 rfl ?_
  refine r_get C dX8_slip_30 flX8_157 hp1.o rfl ?_
  refine r_iconst C dX8_slip_33 (by decide) ?_
  refine r_isub C dX8_slip_34 (by omega) ?_
  refine r_cSi C dX8_slip_35 mlX8_66 kX8_in (n_in (v := i) (lo := 0) (hi := sc (isS mn tx v) 320 - 1)) rfl rfl (Nat.le_of_ble_eq_true rfl) (fit hX (by decide)) ?_
  refine r_if_eq (tgt := 69) C dX8_slip_38 (by decide) (fun hc38 => ?_) (fun hc38 => ?_)
  · have hno := zb_0.mp hc38
    rw [if_neg (by omega)]
    refine r_bipush C dX8_slip_69 (by decide) ?_
    exact r_iret C dX8_slip_71 (by decide) (by decide) ⟨_, rfl, rfl, hM, k1⟩
  have hii := zb_n0.mp hc38
  rw [if_pos (by omega)]
  obtain ⟨e1, -⟩ := hl1 i hii.1 (by omega)
  obtain ⟨-, e3, e4⟩ := en_ok (isS mn tx v) (i := 320) (s := i) (by omega) hii.1 (by omega)
  refine r_bipush C dX8_slip_41 (by decide) ?_
  refine r_aload_n C dX8_slip_43 rfl ?_
  refine r_get C dX8_slip_44 flX8_49 hp1.o rfl ?_
  refine r_iload_n C dX8_slip_47 rfl ?_
  refine r_iald C dX8_slip_48 hp1.asA (by omega) (by omega) ?_
  rw [e1]
  generalize en (isS mn tx v) 320 i = q at e1 e3 e4 ⊢
  refine r_bipush C dX8_slip_49 (by decide) ?_
  refine r_idiv C dX8_slip_51 (by omega) ?_
  rw [bDiv_eq (by omega) (by omega) (by omega) (by omega)]
  refine r_bipush C dX8_slip_52 (by decide) ?_
  refine r_irem C dX8_slip_54 (by omega) ?_
  rw [bRem_nn (by omega) (by omega) (by omega) (by omega)]
  refine r_imul C dX8_slip_55 (by omega) ?_
  refine r_aload_n C dX8_slip_56 rfl ?_
  refine r_get C dX8_slip_57 flX8_49 hp1.o rfl ?_
  refine r_iload_n C dX8_slip_60 rfl ?_
  refine r_iald C dX8_slip_61 hp1.asA (by omega) (by omega) ?_
  rw [e1]
  refine r_bipush C dX8_slip_62 (by decide) ?_
  refine r_irem C dX8_slip_64 (by omega) ?_
  rw [bRem_nn (by omega) (by omega) (by omega) (by omega)]
  refine r_iadd C dX8_slip_65 (by omega) ?_
  refine r_goto (tgt := 71) C dX8_slip_66 (by decide) ?_
  exact r_iret C dX8_slip_71 (by decide) (by decide) ⟨_, rfl, by omega, hM, k1⟩
theorem N_noticed {v i : Int} (hm : RM h m pn pf vs pg mn tx tl du kp im) : Meets yX8_noticed cX8_noticed 3 (some .int) 10 0 0 [vR m, vI v, vI i] h (pX (fun z h' => z = aNoticed vs pg mn tx tl du v i ∧ RM h' m pn pf vs pg mn tx tl du kp im ∧ Kp SM h h')) := by
  obtain ⟨A, pd, us, gi, op, th, la, lv, sl, T, S, M, tL, dU, rs, pA, pS, pH, bV, be, dO, hB, sA, nO, mI, mK, hp, hpt, hba, hsz, hld, him⟩ := id hm
  obtain ⟨⟨hv1, hv6, hp0, hp12⟩, -⟩ := id hba
  refine Meets.of (plainFor_of_name (by decide)) (Nat.le_of_ble_eq_true rfl) (fun X C hX hN hA => ?_)
  refine r_aload_n C dX8_noticed_0 rfl ?_
  refine r_iload_n C dX8_noticed_1 rfl ?_
  refine r_cVi C dX8_noticed_2 mlX8_100 kX8_isVersion (n_isVersion (v := v) hp (by omega)) hp.o rfl rfl rfl (Nat.le_of_ble_eq_true rfl) (fit hX (by decide)) ?_
  refine r_if_ne (tgt := 10) C dX8_noticed_5 (by decide) (fun hc5 => ?_) (fun hc5 => ?_)
  rotate_left
  · have hno := zb_0.mp hc5
    have hv : aNoticed vs pg mn tx tl du v i = -1 := if_pos (by omega)
    rw [hv]
    refine r_iconst C dX8_noticed_8 (by decide) ?_
    exact r_iret C dX8_noticed_9 (by decide) (by decide) ⟨_, rfl, rfl, hm, Kp.rf⟩
  have hvv := zb_n0.mp hc5
  have hv : aNoticed vs pg mn tx tl du v i = if i < 0 ∨ sc (isS mn tx v) 320 ≤ i then -2 else nt_ pg mn tx tl du v i := if_neg (by omega)
  rw [hv]
  refine r_aload_n C dX8_noticed_10 rfl ?_
  refine r_iload_n C dX8_noticed_11 rfl ?_
  refine r_cVv C dX8_noticed_12 mlX8_163 kX8_laySlips (n_laySlips (v := v) hp hba hsz hld hvv.1 (by omega)) hp.o rfl rfl rfl (Nat.le_of_ble_eq_true rfl) (fit hX (by decide)) ?_
  rintro h1 ⟨pd1, us1, gi1, op1, pA1, pS1, pH1, bV1, sA1, nO1, hp1, hl1, k1⟩
  have hM : RM h1 m pn pf vs pg mn tx tl du kp im := ⟨A, pd1, us1, gi1, op1, th, 1, v, sc (isS mn tx v) 320, T, S, M, tL, dU, rs, pA1, pS1, pH1, bV1, be, dO, hB, sA1, nO1, mI, mK, hp1, hpt, hba, hsz, Or.inr ⟨rfl, hvv.1, by omega, rfl, hl1⟩, him⟩
  have hsc := sc_rng (isS mn tx v) (i := 320) (by omega)
  refine r_iload_n C dX8_noticed_15 rfl ?_
  refine r_iconst C dX8_noticed_16 (by decide) ?_
  refine r_aload_n C dX8_noticed_17 rfl ?_
  refine r_get C dX8_noticed_18 flX8_157 hp1.o rfl ?_
  refine r_iconst C dX8_noticed_21 (by decide) ?_
  refine r_isub C dX8_noticed_22 (by omega) ?_
  refine r_cSi C dX8_noticed_23 mlX8_66 kX8_in (n_in (v := i) (lo := 0) (hi := sc (isS mn tx v) 320 - 1)) rfl rfl (Nat.le_of_ble_eq_true rfl) (fit hX (by decide)) ?_
  refine r_if_eq (tgt := 38) C dX8_noticed_26 (by decide) (fun hc26 => ?_) (fun hc26 => ?_)
  · have hno := zb_0.mp hc26
    rw [if_pos (by omega)]
    refine r_bipush C dX8_noticed_38 (by decide) ?_
    exact r_iret C dX8_noticed_40 (by decide) (by decide) ⟨_, rfl, rfl, hM, k1⟩
  have hii := zb_n0.mp hc26
  rw [if_neg (by omega)]
  obtain ⟨-, e2⟩ := hl1 i hii.1 (by omega)
  refine r_aload_n C dX8_noticed_29 rfl ?_
  refine r_get C dX8_noticed_30 flX8_52 hp1.o rfl ?_
  refine r_iload_n C dX8_noticed_33 rfl ?_
  refine r_iald C dX8_noticed_34 hp1.anO (by omega) (by omega) ?_
  refine r_goto (tgt := 40) C dX8_noticed_35 (by decide) ?_
  exact r_iret C dX8_noticed_40 (by decide) (by decide) ⟨_, rfl, e2, hM, k1⟩
theorem N_unshown {v i : Int} (hm : RM h m pn pf vs pg mn tx tl du kp im) : Meets yX8_unshown cX8_unshown 5 (some .int) 10 0 0 [vR m, vI v, vI i] h (pX (fun z h' => z = aUnshown vs pg mn tx tl du v i ∧ RM h' m pn pf vs pg mn tx tl du kp im ∧ Kp SM h h')) := by
  obtain ⟨A, pd, us, gi, op, th, la, lv, sl, T, S, M, tL, dU, rs, pA, pS, pH, bV, be, dO, hB, sA, nO, mI, mK, hp, hpt, hba, hsz, hld, him⟩ := id hm
  obtain ⟨⟨hv1, hv6, hp0, hp12⟩, -⟩ := id hba
  refine Meets.of (plainFor_of_name (by decide)) (Nat.le_of_ble_eq_true rfl) (fun X C hX hN hA => ?_)
  refine r_aload_n C dX8_unshown_0 rfl ?_
  refine r_iload_n C dX8_unshown_1 rfl ?_
  refine r_cVi C dX8_unshown_2 mlX8_100 kX8_isVersion (n_isVersion (v := v) hp (by omega)) hp.o rfl rfl rfl (Nat.le_of_ble_eq_true rfl) (fit hX (by decide)) ?_
  refine r_if_ne (tgt := 10) C dX8_unshown_5 (by decide) (fun hc5 => ?_) (fun hc5 => ?_)
  rotate_left
  · have hno := zb_0.mp hc5
    have hv : aUnshown vs pg mn tx tl du v i = -1 := if_pos (by omega)
    rw [hv]
    refine r_iconst C dX8_unshown_8 (by decide) ?_
    exact r_iret C dX8_unshown_9 (by decide) (by decide) ⟨_, rfl, rfl, hm, Kp.rf⟩
  have hvv := zb_n0.mp hc5
  have hv : aUnshown vs pg mn tx tl du v i = unN (nt_ pg mn tx tl du v) (sc (isS mn tx v) 320) i 321 0 0 := if_neg (by omega)
  refine r_aload_n C dX8_unshown_10 rfl ?_
  refine r_iload_n C dX8_unshown_11 rfl ?_
  refine r_cVv C dX8_unshown_12 mlX8_163 kX8_laySlips (n_laySlips (v := v) hp hba hsz hld hvv.1 (by omega)) hp.o rfl rfl rfl (Nat.le_of_ble_eq_true rfl) (fit hX (by decide)) ?_
  rintro h1 ⟨pd1, us1, gi1, op1, pA1, pS1, pH1, bV1, sA1, nO1, hp1, hl1, k1⟩
  have hM : RM h1 m pn pf vs pg mn tx tl du kp im := ⟨A, pd1, us1, gi1, op1, th, 1, v, sc (isS mn tx v) 320, T, S, M, tL, dU, rs, pA1, pS1, pH1, bV1, be, dO, hB, sA1, nO1, mI, mK, hp1, hpt, hba, hsz, Or.inr ⟨rfl, hvv.1, by omega, rfl, hl1⟩, him⟩
  have hsc := sc_rng (isS mn tx v) (i := 320) (by omega)
  have loop : ∀ (j : Nat) (k n : Int), 0 ≤ k → k ≤ sc (isS mn tx v) 320 → sc (isS mn tx v) 320 - k < j → 0 ≤ n → n ≤ k → unN (nt_ pg mn tx tl du v) (sc (isS mn tx v) 320) i j k n = aUnshown vs pg mn tx tl du v i →
      Go X (Qm X (pX (fun z h' => z = aUnshown vs pg mn tx tl du v i ∧ RM h' m pn pf vs pg mn tx tl du kp im ∧ Kp SM h h')) 0 0) 0 0 h1 20 [some (vR m), some (vI v), some (vI i), some (vI n), some (vI k)] [] := by
    intro j
    induction j with
    | zero => intro k n g3 g4 g5; exact absurd g5 (by omega)
    | succ j ih =>
      intro k n g3 g4 g5 g6 g7 hun
      unfold unN at hun
      refine r_iload C dX8_unshown_20 rfl ?_
      refine r_aload_n C dX8_unshown_22 rfl ?_
      refine r_get C dX8_unshown_23 flX8_157 hp1.o rfl ?_
      refine r_icmp_ge (tgt := 56) C dX8_unshown_26 (by decide) (fun hc26 => ?_) (fun hc26 => ?_)
      · rw [if_pos hc26] at hun
        refine r_iload_n C dX8_unshown_56 rfl ?_
        refine r_iconst C dX8_unshown_57 (by decide) ?_
        refine r_icmp_ne (tgt := 65) C dX8_unshown_58 (by decide) (fun hc58 => ?_) (fun hc58 => ?_)
        · rw [if_neg hc58] at hun
          refine r_bipush C dX8_unshown_65 (by decide) ?_
          exact r_iret C dX8_unshown_67 (by decide) (by decide) ⟨_, rfl, hun, hM, k1⟩
        · rw [if_pos hc58] at hun
          refine r_iload_n C dX8_unshown_61 rfl ?_
          refine r_goto (tgt := 67) C dX8_unshown_62 (by decide) ?_
          exact r_iret C dX8_unshown_67 (by decide) (by decide) ⟨_, rfl, hun, hM, k1⟩
      rw [if_neg (by omega)] at hun
      obtain ⟨-, e2⟩ := hl1 k g3 hc26
      refine r_aload_n C dX8_unshown_29 rfl ?_
      refine r_get C dX8_unshown_30 flX8_52 hp1.o rfl ?_
      refine r_iload C dX8_unshown_33 rfl ?_
      refine r_iald C dX8_unshown_35 hp1.anO (by omega) (by omega) ?_
      rw [e2]
      refine r_if_ne (tgt := 50) C dX8_unshown_36 (by decide) (fun hc36 => ?_) (fun hc36 => ?_)
      · rw [if_neg hc36] at hun
        refine r_iinc C dX8_unshown_50 rfl (by decide) (by omega) ?_
        refine r_goto (tgt := 20) C dX8_unshown_53 (by decide) ?_
        exact ih (k + 1) n (by omega) (by omega) (by omega) g6 (by omega) hun
      rw [if_pos hc36] at hun
      refine r_iload_n C dX8_unshown_39 rfl ?_
      refine r_iload_n C dX8_unshown_40 rfl ?_
      refine r_icmp_ne (tgt := 47) C dX8_unshown_41 (by decide) (fun hc41 => ?_) (fun hc41 => ?_)
      · rw [if_neg hc41] at hun
        refine r_iinc C dX8_unshown_47 rfl (by decide) (by omega) ?_
        refine r_iinc C dX8_unshown_50 rfl (by decide) (by omega) ?_
        refine r_goto (tgt := 20) C dX8_unshown_53 (by decide) ?_
        exact ih (k + 1) (n + 1) (by omega) (by omega) (by omega) (by omega) (by omega) hun
      · rw [if_pos hc41] at hun
        refine r_iload C dX8_unshown_44 rfl ?_
        exact r_iret C dX8_unshown_46 (by decide) (by decide) ⟨_, rfl, hun, hM, k1⟩
  refine r_iconst C dX8_unshown_15 (by decide) ?_
  refine r_istore_n C dX8_unshown_16 (by decide) ?_
  refine r_iconst C dX8_unshown_17 (by decide) ?_
  refine r_istore C dX8_unshown_18 (by decide) ?_
  exact loop 321 0 0 (by omega) (by omega) (by omega) (by omega) (by omega) hv.symm
theorem N_notice {v : Int} (hm : RM h m pn pf vs pg mn tx tl du kp im) : Meets yX8_notice cX8_notice 3 (some .int) 10 0 0 [vR m, vI v] h (pX (fun z h' => z = aNotice vs pg mn tx tl du v ∧ RM h' m pn pf vs pg mn tx tl du kp im ∧ Kp SM h h')) := by
  obtain ⟨A, pd, us, gi, op, th, la, lv, sl, T, S, M, tL, dU, rs, pA, pS, pH, bV, be, dO, hB, sA, nO, mI, mK, hp, hpt, hba, hsz, hld, him⟩ := id hm
  obtain ⟨⟨hv1, hv6, hp0, hp12⟩, -⟩ := id hba
  refine Meets.of (plainFor_of_name (by decide)) (Nat.le_of_ble_eq_true rfl) (fun X C hX hN hA => ?_)
  refine r_aload_n C dX8_notice_0 rfl ?_
  refine r_iload_n C dX8_notice_1 rfl ?_
  refine r_cVi C dX8_notice_2 mlX8_100 kX8_isVersion (n_isVersion (v := v) hp (by omega)) hp.o rfl rfl rfl (Nat.le_of_ble_eq_true rfl) (fit hX (by decide)) ?_
  refine r_if_ne (tgt := 10) C dX8_notice_5 (by decide) (fun hc5 => ?_) (fun hc5 => ?_)
  rotate_left
  · have hno := zb_0.mp hc5
    have hv : aNotice vs pg mn tx tl du v = -1 := if_pos (by omega)
    rw [hv]
    refine r_iconst C dX8_notice_8 (by decide) ?_
    exact r_iret C dX8_notice_9 (by decide) (by decide) ⟨_, rfl, rfl, hm, Kp.rf⟩
  have hvv := zb_n0.mp hc5
  have hv : aNotice vs pg mn tx tl du v = fw (mtN (nt_ pg mn tx tl du v) (sc (isS mn tx v) 320)) pg.toNat := if_neg (by omega)
  rw [hv]
  refine r_aload_n C dX8_notice_10 rfl ?_
  refine r_iload_n C dX8_notice_11 rfl ?_
  refine r_cVv C dX8_notice_12 mlX8_163 kX8_laySlips (n_laySlips (v := v) hp hba hsz hld hvv.1 (by omega)) hp.o rfl rfl rfl (Nat.le_of_ble_eq_true rfl) (fit hX (by decide)) ?_
  rintro h1 ⟨pd1, us1, gi1, op1, pA1, pS1, pH1, bV1, sA1, nO1, hp1, hl1, k1⟩
  have hsc := sc_rng (isS mn tx v) (i := 320) (by omega)
  refine r_aload_n C dX8_notice_15 rfl ?_
  refine r_aload_n C dX8_notice_16 rfl ?_
  refine r_get C dX8_notice_17 flX8_157 hp1.o rfl ?_
  refine w_th C dX8_notice_20 hp1 (fun h2 hp2 k2 => ?_)
  have loop : ∀ (j : Nat) (i : Int) (h' : Pic) (dO' : Int → Int), 0 ≤ i → i ≤ sc (isS mn tx v) 320 → sc (isS mn tx v) 320 - i < j → MP h' m A vs pg pd1 us1 gi1 op1 (sc (isS mn tx v) 320) 1 v (sc (isS mn tx v) 320) T S M tL dU rs pA1 pS1 pH1 bV1 be dO' hB sA1 nO1 mI mK → Kp SM h h' → (∀ k, 0 ≤ k → k < i → dO' k = nt_ pg mn tx tl du v k) →
      Go X (Qm X (pX (fun z h' => z = fw (mtN (nt_ pg mn tx tl du v) (sc (isS mn tx v) 320)) pg.toNat ∧ RM h' m pn pf vs pg mn tx tl du kp im ∧ Kp SM h h')) 0 0) 0 0 h' 25 [some (vR m), some (vI v), some (vI i)] [] := by
    intro j
    induction j with
    | zero => intro i h' dO' g1 g2 g3; exact absurd g3 (by omega)
    | succ j ih =>
      intro i h' dO' g1 g2 g3 hp' k' g4
      refine r_iload_n C dX8_notice_25 rfl ?_
      refine r_aload_n C dX8_notice_26 rfl ?_
      refine r_get C dX8_notice_27 flX8_157 hp'.o rfl ?_
      refine r_icmp_ge (tgt := 51) C dX8_notice_30 (by decide) (fun hc30 => ?_) (fun hc30 => ?_)
      · have hi : i = sc (isS mn tx v) 320 := by omega
        rw [hi] at g4
        refine r_aload_n C dX8_notice_51 rfl ?_
        refine r_cVi C dX8_notice_52 mlX8_151 kX8_fewest (n_fewest hp' (by omega) (by omega) (by omega) (by omega) (fun k k0 k1 => by rw [g4 k k0 k1]; exact ⟨bt_rg _ _, fun q q1 q2 => ((tb_bt (by omega) q1).mp q2).1⟩)) hp'.o rfl rfl rfl (Nat.le_of_ble_eq_true rfl) (fit hX (by decide)) ?_
        exact r_iret C dX8_notice_55 (by decide) (by decide) ⟨_, rfl, fw_congr (fun s => mtN_congr (fun k k0 k1 => g4 k k0 k1)), ⟨A, pd1, us1, gi1, op1, _, 1, v, sc (isS mn tx v) 320, T, S, M, tL, dU, rs, pA1, pS1, pH1, bV1, be, dO', hB, sA1, nO1, mI, mK, hp', hpt, hba, hsz, Or.inr ⟨rfl, hvv.1, by omega, rfl, hl1⟩, him⟩, k'⟩
      obtain ⟨-, e2⟩ := hl1 i g1 hc30
      refine r_aload_n C dX8_notice_33 rfl ?_
      refine r_get C dX8_notice_34 flX8_43 hp'.o rfl ?_
      refine r_iload_n C dX8_notice_37 rfl ?_
      refine r_aload_n C dX8_notice_38 rfl ?_
      refine r_get C dX8_notice_39 flX8_52 hp'.o rfl ?_
      refine r_iload_n C dX8_notice_42 rfl ?_
      refine r_iald C dX8_notice_43 hp'.anO (by omega) (by omega) ?_
      rw [e2]
      refine w_dO C dX8_notice_44 hp' (by omega) (by omega) (fun h3 hp3 k3 => ?_)
      refine r_iinc C dX8_notice_45 rfl (by decide) (by omega) ?_
      refine r_goto (tgt := 25) C dX8_notice_48 (by decide) ?_
      refine ih (i + 1) h3 _ (by omega) (by omega) (by omega) hp3 (k'.tr (k3.mono (fun t q => by omega))) (fun k k0 k1 => ?_)
      by_cases hk : k = i
      · rw [hk, fu_s]
      · rw [fu_n hk]; exact g4 k k0 (by omega)
  refine r_iconst C dX8_notice_23 (by decide) ?_
  refine r_istore_n C dX8_notice_24 (by decide) ?_
  exact loop 321 0 h2 dO (by omega) (by omega) (by omega) hp2 (k1.tr (k2.mono (fun t q => by omega))) (fun k k0 k1 => by omega)
end
section
variable {h : Pic} {m : Nat} {A : Nat → Nat} {vs pg pd us gi op th la lv sl : Int} {T S M tL dU rs pA pS pH bV be dO hB sA nO mI mK : Int → Int}
variable {mn : Int → Int} {tx : Int → Int → Int} {tl du : Int → Int}
theorem n_holdsI {p v w k : Int} {T' : Int → Int} (hba : BA vs pg mn tx tl du M T tL dU) (hsz : SZA M T S) (hp : MP h m A vs pg pd us gi op th la lv sl T' S M tL dU rs pA pS pH bV be dO hB sA nO mI mK) (hT : ∀ i, ¬ i = 40 * (48 + p) + k → T' i = T i) (hTk : T' (40 * (48 + p) + k) = 97 + w) (hp0 : 0 ≤ p) (hp1 : p < pg) (hex : tl p = -6) (hv0 : 0 ≤ v) (hv1 : v < vs) (hbv : ∀ w, 0 ≤ w → w < 8 → bV w = v) (hw0 : 0 ≤ w) (hw1 : w < 8) (hk0 : 0 ≤ k) (hk1 : k < mn (48 + p)) (hW : isW (tx (48 + p) k)) :
    Meets yX8_holds cX8_holds 2 (some .boolean) 4 0 0 [vR m, vI p] h (pX (fun z h' => z = zb ((evI mn tx v p k (97 + w)).1 = du p) ∧ (∃ pd us gi op pA pS pH, MP h' m A vs pg pd us gi op th la lv sl T' S M tL dU rs pA pS pH bV be dO hB sA nO mI mK) ∧ Kp SM h h')) := by
  have := hba.1
  obtain ⟨c1, c2, c3, c4, -⟩ := n_pgt hba hsz hp0 hp1 hex
  have h40 : mn (48 + p) ≤ 40 := by rw [← c2]; exact c1.2.1
  have h00 : 0 ≤ mn (48 + p) := by rw [← c2]; exact Int.le_of_lt c1.1
  have hW' : 97 ≤ tx (48 + p) k ∧ tx (48 + p) k < 105 := hW
  refine n_holds (p := p) (n := mn (48 + p)) (f := fu (tx (48 + p)) k (97 + w)) (d := du p) (wn := fun w => mn (8 * v + w)) (wt := fun w => tx (8 * v + w)) hp hp0 (by omega) ?_ ?_ c2 ?_ c4
  · refine c1.congr (fun i i0 i1 => ?_)
    show nd (T' (40 * (48 + p) + i)) = nd (T (40 * (48 + p) + i))
    by_cases e : i = k
    · rw [e, hTk, show T (40 * (48 + p) + k) = tx (48 + p) k from c3 k hk0 hk1]
      have e1 : nd (tx (48 + p) k) = 1 := by unfold nd; rw [if_neg (by omega), if_neg (by omega), if_neg (by omega), if_neg (by omega), if_pos (by omega)]
      have e2 : nd (97 + w) = 1 := by unfold nd; rw [if_neg (by omega), if_neg (by omega), if_neg (by omega), if_neg (by omega), if_pos (by omega)]
      rw [e1, e2]
    · rw [hT _ (by omega)]
  · intro w' w0 w1
    rw [hbv w' w0 w1]
    obtain ⟨a1, -, a3, -, a5⟩ := hba.t (t := 8 * v + w') (by omega) (by omega)
    refine ⟨by omega, by omega, ?_, a1, fun i i0 i1 => ?_⟩
    · rcases hba.gt hsz (t := 8 * v + w') (by omega) (by omega) with q | q
      · exact Or.inl q
      · refine Or.inr (q.congr (fun i i0 i1 => ?_))
        show nd (T' (40 * (8 * v + w') + i)) = nd (T (40 * (8 * v + w') + i))
        rw [hT _ (by omega)]
    · show T' (40 * (8 * v + w') + i) = tx (8 * v + w') i
      have i1' : i < mn (8 * v + w') := i1
      rw [hT _ (by omega)]
      exact a5 i i0 i1'
  · intro i i0 i1
    show T' (40 * (48 + p) + i) = _
    by_cases e : i = k
    · rw [e, fu_s, hTk]
    · rw [fu_n e, hT _ (by omega)]
      exact c3 i i0 i1
end
section
variable {h : Pic} {m : Nat} {pn : Int} {pf : Int → Int} {vs pg : Int} {mn : Int → Int} {tx : Int → Int → Int} {tl du kp : Int → Int} {im : Int → Bs}
theorem N_instead {p v : Int} (hm : RM h m pn pf vs pg mn tx tl du kp im) : Meets yX8_instead cX8_instead 8 (some .int) 10 0 0 [vR m, vI p, vI v] h (pX (fun z h' => z = aInstead vs pg mn tx tl du p v ∧ RM h' m pn pf vs pg mn tx tl du kp im ∧ Kp SM h h')) := by
  obtain ⟨A, pd, us, gi, op, th, la, lv, sl, T, S, M, tL, dU, rs, pA, pS, pH, bV, be, dO, hB, sA, nO, mI, mK, hp, hpt, hba, hsz, hld, him⟩ := id hm
  obtain ⟨⟨hv1, hv6, hp0, hp12⟩, -⟩ := id hba
  refine Meets.of (plainFor_of_name (by decide)) (Nat.le_of_ble_eq_true rfl) (fun X C hX hN hA => ?_)
  refine r_aload_n C dX8_instead_0 rfl ?_
  refine r_iload_n C dX8_instead_1 rfl ?_
  refine r_cVi C dX8_instead_2 mlX8_132 kX8_isExample (n_isExample (p := p) hp (by omega)) hp.o rfl rfl rfl (Nat.le_of_ble_eq_true rfl) (fit hX (by decide)) ?_
  refine r_if_eq (tgt := 16) C dX8_instead_5 (by decide) (fun hc5 => ?_) (fun hc5 => ?_)
  · have hno := (not_congr hba.ex).mp (zb_0.mp hc5)
    have hv : aInstead vs pg mn tx tl du p v = -1 := if_pos (fun z => hno ⟨z.1, z.2.1, z.2.2.1⟩)
    rw [hv]
    refine r_iconst C dX8_instead_16 (by decide) ?_
    exact r_iret C dX8_instead_17 (by decide) (by decide) ⟨_, rfl, rfl, hm, Kp.rf⟩
  obtain ⟨x0, x1, x2⟩ := hba.ex.mp (zb_n0.mp hc5)
  refine r_aload_n C dX8_instead_8 rfl ?_
  refine r_iload_n C dX8_instead_9 rfl ?_
  refine r_cVi C dX8_instead_10 mlX8_100 kX8_isVersion (n_isVersion (v := v) hp (by omega)) hp.o rfl rfl rfl (Nat.le_of_ble_eq_true rfl) (fit hX (by decide)) ?_
  refine r_if_ne (tgt := 18) C dX8_instead_13 (by decide) (fun hc13 => ?_) (fun hc13 => ?_)
  rotate_left
  · have hno := zb_0.mp hc13
    have hv : aInstead vs pg mn tx tl du p v = -1 := if_pos (fun z => hno ⟨z.2.2.2.1, by have := z.2.2.2.2; omega⟩)
    rw [hv]
    refine r_iconst C dX8_instead_16 (by decide) ?_
    exact r_iret C dX8_instead_17 (by decide) (by decide) ⟨_, rfl, rfl, hm, Kp.rf⟩
  have hvv := zb_n0.mp hc13
  have hpv : okPV vs pg tl p v := ⟨x0, x1, x2, hvv.1, by omega⟩
  have hv : aInstead vs pg mn tx tl du p v = inN (fun k w => (evI mn tx v p k (97 + w)).1 = du p) (mn (48 + p)) (tx (48 + p)) 41 0 := if_neg (fun z => z hpv)
  rw [hv]
  obtain ⟨H, hH⟩ : ∃ H : Int → Int → Prop, H = fun k w => (evI mn tx v p k (97 + w)).1 = du p := ⟨_, rfl⟩
  have hHe : ∀ k w, H k w ↔ (evI mn tx v p k (97 + w)).1 = du p := fun k w => by rw [hH]
  rw [← hH]
  generalize hR : inN H (mn (48 + p)) (tx (48 + p)) 41 0 = R
  obtain ⟨PQ, hPQ⟩ : ∃ PQ : State → Prop, PQ = Qm X (pX (fun z h' => z = R ∧ RM h' m pn pf vs pg mn tx tl du kp im ∧ Kp SM h h')) 0 0 := ⟨_, rfl⟩
  rw [← hPQ]
  obtain ⟨c1, c2, c3, c4, -⟩ := n_pgt hba hsz x0 x1 x2
  have h40 : mn (48 + p) ≤ 40 := by rw [← c2]; exact c1.2.1
  have h00 : 0 ≤ mn (48 + p) := by rw [← c2]; exact Int.le_of_lt c1.1
  refine r_aload_n C dX8_instead_18 rfl ?_
  refine r_iload_n C dX8_instead_19 rfl ?_
  refine r_cVv C dX8_instead_20 mlX8_119 kX8_byVersion (n_byVersion (v := v) hp) hp.o rfl rfl rfl (Nat.le_of_ble_eq_true rfl) (fit hX (by decide)) ?_
  rintro h1 ⟨bV1, hp1, k1, hb1⟩
  have loop : ∀ (j : Nat) (k f : Int) (h' : Pic) (o5 o6 o7 : Option Va), 0 ≤ k → k ≤ mn (48 + p) → mn (48 + p) - k < j → (∃ pd us gi op pA pS pH, MP h' m A vs pg pd us gi op th la lv sl T S M tL dU rs pA pS pH bV1 be dO hB sA nO mI mK) → Kp SM h h' → (f < 0 → f = -6 ∧ inN H (mn (48 + p)) (tx (48 + p)) j k = R) → (0 ≤ f → f = R) →
      Go X PQ 0 0 h' 29 [some (vR m), some (vI p), some (vI v), some (vI f), some (vI k), o5, o6, o7] [] := by
    intro j
    induction j with
    | zero => intro k f h' o5 o6 o7 g1 g2 g3; exact absurd g3 (by omega)
    | succ j ih =>
      intro k f h' o5 o6 o7 g1 g2 g3 g4 k' g5 g6
      obtain ⟨pd', us', gi', op', pA', pS', pH', hp'⟩ := id g4
      have hM : RM h' m pn pf vs pg mn tx tl du kp im := ⟨A, pd', us', gi', op', th, la, lv, sl, T, S, M, tL, dU, rs, pA', pS', pH', bV1, be, dO, hB, sA, nO, mI, mK, hp', hpt, hba, hsz, hld, him⟩
      refine r_iload C dX8_instead_29 rfl ?_
      refine r_aload_n C dX8_instead_31 rfl ?_
      refine r_get C dX8_instead_32 flX8_16 hp'.o rfl ?_
      refine r_bipush C dX8_instead_35 (by decide) ?_
      refine r_iload_n C dX8_instead_37 rfl ?_
      refine r_iadd C dX8_instead_38 (by omega) ?_
      refine r_iald C dX8_instead_39 hp'.aM (by omega) (by omega) ?_
      rw [c2]
      refine r_icmp_ge (tgt := 158) C dX8_instead_40 (by decide) (fun hc40 => ?_) (fun hc40 => ?_)
      · refine r_iload_n C dX8_instead_158 rfl ?_
        rw [hPQ]
        refine r_iret C dX8_instead_159 (by decide) (by decide) ⟨_, rfl, ?_, hM, k'⟩
        rcases Int.lt_or_le f 0 with q | q
        · obtain ⟨q1, q2⟩ := g5 q
          rw [inN_e (H := H) (n := mn (48 + p)) (f := tx (48 + p)) (k := k) (j := j) hc40] at q2
          rw [q1]; exact q2
        · exact g6 q
      refine r_iload_n C dX8_instead_43 rfl ?_
      refine r_if_ge (tgt := 158) C dX8_instead_44 (by decide) (fun hc44 => ?_) (fun hc44 => ?_)
      · refine r_iload_n C dX8_instead_158 rfl ?_
        rw [hPQ]
        exact r_iret C dX8_instead_159 (by decide) (by decide) ⟨_, rfl, g6 hc44, hM, k'⟩
      obtain ⟨f6, hin⟩ := g5 hc44
      have hTk : T (40 * (48 + p) + k) = tx (48 + p) k := c3 k g1 hc40
      refine r_bipush C dX8_instead_47 (by decide) ?_
      refine r_bipush C dX8_instead_49 (by decide) ?_
      refine r_iload_n C dX8_instead_51 rfl ?_
      refine r_iadd C dX8_instead_52 (by omega) ?_
      refine r_imul C dX8_instead_53 (by omega) ?_
      refine r_iload C dX8_instead_54 rfl ?_
      refine r_iadd C dX8_instead_56 (by omega) ?_
      refine r_istore C dX8_instead_57 (by decide) ?_
      refine r_aload_n C dX8_instead_59 rfl ?_
      refine r_get C dX8_instead_60 flX8_7 hp'.o rfl ?_
      refine r_iload C dX8_instead_63 rfl ?_
      refine r_iald C dX8_instead_65 hp'.aT (by omega) (by omega) ?_
      rw [hTk]
      -- behind the words: the sign is put back
      have back : ∀ (h2 : Pic) (T2 : Int → Int) (f2 w2 : Int), (∃ pd us gi op pA pS pH, MP h2 m A vs pg pd us gi op th la lv sl T2 S M tL dU rs pA pS pH bV1 be dO hB sA nO mI mK) → Kp SM h h2 → (∀ i, ¬ i = 40 * (48 + p) + k → T2 i = T i) → (f2 < 0 → f2 = -6 ∧ inN H (mn (48 + p)) (tx (48 + p)) j (k + 1) = R) → (0 ≤ f2 → f2 = R) →
          Go X PQ 0 0 h2 143 [some (vR m), some (vI p), some (vI v), some (vI f2), some (vI k), some (vI (40 * (48 + p) + k)), some (vI (tx (48 + p) k)), some (vI w2)] [] := by
        intro h2 T2 f2 w2 q1 q2 q3 q4 q5
        obtain ⟨pd2, us2, gi2, op2, pA2, pS2, pH2, hp2⟩ := q1
        have eT : fu T2 (40 * (48 + p) + k) (tx (48 + p) k) = T := by
          funext i
          by_cases e : i = 40 * (48 + p) + k
          · rw [e, fu_s, hTk]
          · rw [fu_n e]; exact q3 i e
        refine r_aload_n C dX8_instead_143 rfl ?_
        refine r_get C dX8_instead_144 flX8_7 hp2.o rfl ?_
        refine r_iload C dX8_instead_147 rfl ?_
        refine r_iload C dX8_instead_149 rfl ?_
        refine w_T C dX8_instead_151 hp2 (by omega) (by omega) (fun h3 hp3 k3 => ?_)
        rw [eT] at hp3
        refine r_iinc C dX8_instead_152 rfl (by decide) (by omega) ?_
        refine r_goto (tgt := 29) C dX8_instead_155 (by decide) ?_
        exact ih (k + 1) f2 h3 _ _ _ (by omega) (by omega) (by omega) ⟨_, _, _, _, _, _, _, hp3⟩ (q2.tr (k3.mono (fun t q => by omega))) q4 q5
      have words : ∀ (jj : Nat) (w : Int) (h2 : Pic) (T2 : Int → Int), 0 ≤ w → w ≤ 8 → 8 - w < jj → (∃ pd us gi op pA pS pH, MP h2 m A vs pg pd us gi op th la lv sl T2 S M tL dU rs pA pS pH bV1 be dO hB sA nO mI mK) → Kp SM h h2 → (∀ i, ¬ i = 40 * (48 + p) + k → T2 i = T i) → (isW (tx (48 + p) k) → mwN (H k) (tx (48 + p) k - 97) jj w = mwN (H k) (tx (48 + p) k - 97) 9 0) →
          Go X PQ 0 0 h2 71 [some (vR m), some (vI p), some (vI v), some (vI f), some (vI k), some (vI (40 * (48 + p) + k)), some (vI (tx (48 + p) k)), some (vI w)] [] := by
        intro jj
        induction jj with
        | zero => intro w h2 T2 d1 d2 d3; exact absurd d3 (by omega)
        | succ jj ihj =>
          intro w h2 T2 d1 d2 d3 d4 k2 d5 d6
          have hfwd : ¬ (isW (tx (48 + p) k) ∧ ¬ mwN (H k) (tx (48 + p) k - 97) 9 0 = -6) → (f < 0 → f = -6 ∧ inN H (mn (48 + p)) (tx (48 + p)) j (k + 1) = R) := fun q _ => ⟨f6, by rw [inN_n (H := H) (n := mn (48 + p)) (f := tx (48 + p)) (k := k) (j := j) (by omega) q] at hin; exact hin⟩
          refine r_iload C dX8_instead_71 rfl ?_
          refine r_bipush C dX8_instead_73 (by decide) ?_
          refine r_icmp_ge (tgt := 143) C dX8_instead_75 (by decide) (fun hc75 => ?_) (fun hc75 => ?_)
          · refine back h2 T2 f w d4 k2 d5 (hfwd (fun q => q.2 ?_)) (fun q => by omega)
            rw [← d6 q.1]
            exact mwN_e (H := H k) (t := tx (48 + p) k - 97) (w := w) (j := jj) hc75
          refine r_iload C dX8_instead_78 rfl ?_
          refine r_bipush C dX8_instead_80 (by decide) ?_
          refine r_bipush C dX8_instead_82 (by decide) ?_
          refine r_cSi C dX8_instead_84 mlX8_66 kX8_in (n_in (v := tx (48 + p) k) (lo := 97) (hi := 104)) rfl rfl (Nat.le_of_ble_eq_true rfl) (fit hX (by decide)) ?_
          refine r_if_eq (tgt := 143) C dX8_instead_87 (by decide) (fun hc87 => ?_) (fun hc87 => ?_)
          · have hno := zb_0.mp hc87
            exact back h2 T2 f w d4 k2 d5 (hfwd (fun q => hno ⟨q.1.1, by have := q.1.2; omega⟩)) (fun q => by omega)
          have hW0 := zb_n0.mp hc87
          have hW : isW (tx (48 + p) k) := ⟨hW0.1, by omega⟩
          have d6' := d6 hW
          refine r_iload_n C dX8_instead_90 rfl ?_
          refine r_if_ge (tgt := 143) C dX8_instead_91 (by decide) (fun hc91 => ?_) (fun hc91 => ?_)
          · exact absurd hc91 (by omega)
          refine r_iload C dX8_instead_94 rfl ?_
          refine r_iload C dX8_instead_96 rfl ?_
          refine r_bipush C dX8_instead_98 (by decide) ?_
          refine r_isub C dX8_instead_100 (by omega) ?_
          refine r_icmp_eq (tgt := 137) C dX8_instead_101 (by decide) (fun hc101 => ?_) (fun hc101 => ?_)
          · rw [mwN_n (H := H k) (t := tx (48 + p) k - 97) (w := w) (j := jj) (by omega) (fun z => z.1 hc101)] at d6'
            refine r_iinc C dX8_instead_137 rfl (by decide) (by omega) ?_
            refine r_goto (tgt := 71) C dX8_instead_140 (by decide) ?_
            exact ihj (w + 1) h2 T2 (by omega) (by omega) (by omega) d4 k2 d5 (fun _ => d6')
          obtain ⟨pd2, us2, gi2, op2, pA2, pS2, pH2, hp2⟩ := d4
          refine r_aload_n C dX8_instead_104 rfl ?_
          refine r_get C dX8_instead_105 flX8_7 hp2.o rfl ?_
          refine r_iload C dX8_instead_108 rfl ?_
          refine r_bipush C dX8_instead_110 (by decide) ?_
          refine r_iload C dX8_instead_112 rfl ?_
          refine r_iadd C dX8_instead_114 (by omega) ?_
          refine w_T C dX8_instead_115 hp2 (by omega) (by omega) (fun h3 hp3 k3 => ?_)
          refine r_aload_n C dX8_instead_116 rfl ?_
          refine r_iload_n C dX8_instead_117 rfl ?_
          refine r_cVx C dX8_instead_118 mlX8_129 kX8_holds (n_holdsI (p := p) (v := v) (w := w) (k := k) hba hsz hp3 (fun i hi => by rw [fu_n hi]; exact d5 i hi) fu_s x0 x1 x2 hvv.1 (by omega) hb1 d1 (by omega) g1 hc40 hW) hp3.o rfl rfl rfl (Nat.le_of_ble_eq_true rfl) (fit hX (by decide)) ?_
          rintro z h4 ⟨hz, g4', k4⟩
          have k24 : Kp SM h h4 := k2.tr ((k3.mono (fun t q => by omega)).tr k4)
          rw [hz]
          refine r_if_eq (tgt := 135) C dX8_instead_121 (by decide) (fun hc121 => ?_) (fun hc121 => ?_)
          · rw [mwN_n (H := H k) (t := tx (48 + p) k - 97) (w := w) (j := jj) (by omega) (fun z => zb_0.mp hc121 ((hHe k w).mp z.2))] at d6'
            refine r_iload_n C dX8_instead_135 rfl ?_
            refine r_istore_n C dX8_instead_136 (by decide) ?_
            refine r_iinc C dX8_instead_137 rfl (by decide) (by omega) ?_
            refine r_goto (tgt := 71) C dX8_instead_140 (by decide) ?_
            exact ihj (w + 1) h4 _ (by omega) (by omega) (by omega) g4' k24 (fun i hi => by rw [fu_n hi]; exact d5 i hi) (fun _ => d6')
          · rw [mwN_t (H := H k) (t := tx (48 + p) k - 97) (w := w) (j := jj) (by omega) hc101 ((hHe k w).mpr (zb_n0.mp hc121))] at d6'
            rw [inN_t (H := H) (n := mn (48 + p)) (f := tx (48 + p)) (k := k) (j := j) (by omega) hW (by rw [← d6']; omega), ← d6'] at hin
            refine r_bipush C dX8_instead_124 (by decide) ?_
            refine r_iload C dX8_instead_126 rfl ?_
            refine r_imul C dX8_instead_128 (by omega) ?_
            refine r_iload C dX8_instead_129 rfl ?_
            refine r_iadd C dX8_instead_131 (by omega) ?_
            refine r_goto (tgt := 136) C dX8_instead_132 (by decide) ?_
            refine r_istore_n C dX8_instead_136 (by decide) ?_
            refine r_iinc C dX8_instead_137 rfl (by decide) (by omega) ?_
            refine r_goto (tgt := 71) C dX8_instead_140 (by decide) ?_
            -- the next word ends the row: found is set
            refine r_iload C dX8_instead_71 rfl ?_
            refine r_bipush C dX8_instead_73 (by decide) ?_
            refine r_icmp_ge (tgt := 143) C dX8_instead_75 (by decide) (fun hc75' => ?_) (fun hc75' => ?_)
            · exact back h4 _ _ _ g4' k24 (fun i hi => by rw [fu_n hi]; exact d5 i hi) (fun q => by omega) (fun _ => hin)
            refine r_iload C dX8_instead_78 rfl ?_
            refine r_bipush C dX8_instead_80 (by decide) ?_
            refine r_bipush C dX8_instead_82 (by decide) ?_
            refine r_cSi C dX8_instead_84 mlX8_66 kX8_in (n_in (v := tx (48 + p) k) (lo := 97) (hi := 104)) rfl rfl (Nat.le_of_ble_eq_true rfl) (fit hX (by decide)) ?_
            refine r_if_eq (tgt := 143) C dX8_instead_87 (by decide) (fun hc87' => ?_) (fun hc87' => ?_)
            · exact back h4 _ _ _ g4' k24 (fun i hi => by rw [fu_n hi]; exact d5 i hi) (fun q => by omega) (fun _ => hin)
            refine r_iload_n C dX8_instead_90 rfl ?_
            refine r_if_ge (tgt := 143) C dX8_instead_91 (by decide) (fun hc91' => ?_) (fun hc91' => ?_)
            · exact back h4 _ _ _ g4' k24 (fun i hi => by rw [fu_n hi]; exact d5 i hi) (fun q => by omega) (fun _ => hin)
            · exact absurd hc91' (by omega)
      refine r_istore C dX8_instead_66 (by decide) ?_
      refine r_iconst C dX8_instead_68 (by decide) ?_
      refine r_istore C dX8_instead_69 (by decide) ?_
      exact words 9 0 h' T (by omega) (by omega) (by omega) ⟨_, _, _, _, _, _, _, hp'⟩ k' (fun _ _ => rfl) (fun _ => rfl)
  refine r_bipush C dX8_instead_23 (by decide) ?_
  refine r_istore_n C dX8_instead_25 (by decide) ?_
  refine r_iconst C dX8_instead_26 (by decide) ?_
  refine r_istore C dX8_instead_27 (by decide) ?_
  exact loop 41 0 (-6) h1 none none none (by omega) (by omega) (by omega) ⟨_, _, _, _, _, _, _, hp1⟩ (k1.mono (fun t q => by omega)) (fun _ => ⟨rfl, hR⟩) (fun q => by omega)
end
