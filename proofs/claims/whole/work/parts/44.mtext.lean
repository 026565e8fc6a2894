/-! the model: words, versions, pages -/
section
variable {vs pg : Int} {mn : Int → Int} {tx : Int → Int → Int} {tl du mm tt ll dd dd' : Int → Int}
theorem BA.page {w d : Int} (hb : BA vs pg mn tx tl du mm tt ll dd) (h12 : pg < 12) (hd : ∀ p, 0 ≤ p → p < pg → dd' p = dd p) (hx : (w = -6 ∧ dd' pg = d ∧ 0 ≤ d ∧ d ≤ 999 ∧ 0 < mn (48 + pg)) ∨ (0 ≤ w ∧ w < 8 ∧ mn (48 + pg) = 0)) : BA vs (pg + 1) mn tx (fu tl pg w) (fu du pg d) mm tt (fu ll pg w) dd' := by
  obtain ⟨h0, ht, hp⟩ := hb
  refine ⟨by omega, ht, fun p p0 p1 => ?_⟩
  by_cases e : p = pg
  · rw [e, fu_s, fu_s, fu_s]
    exact ⟨rfl, hx⟩
  · rw [fu_n e, fu_n e, fu_n e, hd p p0 (by omega)]
    exact hp p p0 (by omega)
end
theorem nmN_congr {f f' : Int → Int} : ∀ (j : Nat), (∀ k : Int, 0 ≤ k → k < j → f k = f' k) → nmN f j = nmN f' j := by
  intro j
  induction j with
  | zero => intro _; rfl
  | succ j ih =>
    intro h
    show (if isW (f j) then bOr (nmN f j) (bShl 1 (f j - 97)) else nmN f j) = (if isW (f' j) then bOr (nmN f' j) (bShl 1 (f' j - 97)) else nmN f' j)
    rw [h j (by omega) (by omega), ih (fun k k0 k1 => h k k0 (by omega))]
theorem nmd_congr {n : Int} {f f' : Int → Int} (h : ∀ k, 0 ≤ k → k < n → f k = f' k) : nmd n f = nmd n f' := nmN_congr n.toNat (fun k k0 k1 => h k k0 (by omega))
section
variable {h : Pic} {m : Nat} {A : Nat → Nat} {vs pg pd us gi op th la lv sl : Int} {T S M tL dU rs pA pS pH bV be dO hB sA nO mI mK : Int → Int}
theorem n_come {t x n : Int} {f wn : Int → Int} {wt : Int → Int → Int} (hp : MP h m A vs pg pd us gi op th la lv sl T S M tL dU rs pA pS pH bV be dO hB sA nO mI mK) (ht0 : 0 ≤ t) (ht1 : t ≤ 60) (hgt : GT M T S t) (hx0 : 0 ≤ x) (hx1 : x ≤ 999) (hw : ∀ w, 0 ≤ w → w < 8 → 0 ≤ bV w ∧ bV w ≤ 5 ∧ (M (8 * bV w + w) = 0 ∨ GT M T S (8 * bV w + w)) ∧ M (8 * bV w + w) = wn w ∧ ∀ k, 0 ≤ k → k < wn w → sx T (8 * bV w + w) k = wt w k) (hn : M t = n) (hf : ∀ k, 0 ≤ k → k < n → sx T t k = f k) :
    Meets yX8_comeTo cX8_comeTo 13 (some .int) 3 0 0 [vR m, vI t, vI x] h (pX (fun z h' => z = (evT wn wt n f x).1 ∧ ∃ pd' gi' op' pA' pS' pH', MP h' m A vs pg pd' ((evT wn wt n f x).2.2) gi' op' th la lv sl T S M tL dU rs pA' pS' pH' bV be dO hB sA nO mI mK ∧ Kp SM h h')) := by
  subst hn
  have e : evT (fun w => M (8 * bV w + w)) (fun w => sx T (8 * bV w + w)) (M t) (sx T t) x = evT wn wt (M t) f x := by
    refine evT_congr (fun w w0 w1 => ?_) (fun w w0 w1 => ?_) hf hgt.2.2.1 (by have := hgt.1; omega)
    · obtain ⟨-, -, q, -⟩ := hw w w0 w1
      rcases q with q | q
      · exact Or.inl q
      · exact Or.inr ⟨q.1, q.2.2.1⟩
    · obtain ⟨-, -, -, q1, q2⟩ := hw w w0 w1
      exact ⟨q1, fun k k0 k1 => q2 k k0 (by rw [← q1]; exact k1)⟩
  rw [← e]
  exact n_comeTo hp ht0 ht1 hgt hx0 hx1 (fun w w0 w1 => ⟨(hw w w0 w1).1, (hw w w0 w1).2.1, (hw w w0 w1).2.2.1⟩)
theorem n_namedIn {p : Int} (hp : MP h m A vs pg pd us gi op th la lv sl T S M tL dU rs pA pS pH bV be dO hB sA nO mI mK) (hp0 : 0 ≤ p) (hp1 : p < 12) (hn0 : 0 ≤ M (48 + p)) (hn1 : M (48 + p) ≤ 40) : Meets yX8_namedIn cX8_namedIn 5 (some .int) 1 0 0 [vR m, vI p] h (pI (nmd (M (48 + p)) (sx T (48 + p))) h) := by
  refine Meets.of (plainFor_of_name (by decide)) (Nat.le_of_ble_eq_true rfl) (fun X C hX hN hA => ?_)
  have loop : ∀ (j : Nat) (i : Int) (o4 : Option Va), 0 ≤ i → i ≤ M (48 + p) → M (48 + p) - i < j → Go X (Qm X (pI (nmd (M (48 + p)) (sx T (48 + p))) h) 0 0) 0 0 h 4 [some (vR m), some (vI p), some (vI (nmN (sx T (48 + p)) i.toNat)), some (vI i), o4] [] := by
    intro j
    induction j with
    | zero => intro i o4 g1 g2 g3; exact absurd g3 (by omega)
    | succ j ih =>
      intro i o4 g1 g2 g3
      refine r_iload_n C dX8_namedIn_4 rfl ?_
      refine r_aload_n C dX8_namedIn_5 rfl ?_
      refine r_get C dX8_namedIn_6 flX8_16 hp.o rfl ?_
      refine r_bipush C dX8_namedIn_9 (by decide) ?_
      refine r_iload_n C dX8_namedIn_11 rfl ?_
      refine r_iadd C dX8_namedIn_12 (by omega) ?_
      refine r_iald C dX8_namedIn_13 hp.aM (by omega) (by omega) ?_
      refine r_icmp_ge (tgt := 65) C dX8_namedIn_14 (by decide) (fun hc14 => ?_) (fun hc14 => ?_)
      · have hi : i = M (48 + p) := by omega
        refine r_iload_n C dX8_namedIn_65 rfl ?_
        exact r_iret C dX8_namedIn_66 (by decide) (by decide) ⟨by rw [hi]; rfl, rfl⟩
      have hTr : T (40 * (48 + p) + i) = sx T (48 + p) i := rfl
      refine r_aload_n C dX8_namedIn_17 rfl ?_
      refine r_get C dX8_namedIn_18 flX8_7 hp.o rfl ?_
      refine r_bipush C dX8_namedIn_21 (by decide) ?_
      refine r_bipush C dX8_namedIn_23 (by decide) ?_
      refine r_iload_n C dX8_namedIn_25 rfl ?_
      refine r_iadd C dX8_namedIn_26 (by omega) ?_
      refine r_imul C dX8_namedIn_27 (by omega) ?_
      refine r_iload_n C dX8_namedIn_28 rfl ?_
      refine r_iadd C dX8_namedIn_29 (by omega) ?_
      refine r_iald C dX8_namedIn_30 hp.aT (by omega) (by omega) ?_
      rw [hTr]
      refine r_istore C dX8_namedIn_31 (by decide) ?_
      refine r_iload_n C dX8_namedIn_33 rfl ?_
      refine r_iload C dX8_namedIn_34 rfl ?_
      refine r_bipush C dX8_namedIn_36 (by decide) ?_
      refine r_bipush C dX8_namedIn_38 (by decide) ?_
      refine r_cSi C dX8_namedIn_40 mlX8_66 kX8_in (n_in (v := sx T (48 + p) i) (lo := 97) (hi := 104)) rfl rfl (Nat.le_of_ble_eq_true rfl) (fit hX (by decide)) ?_
      have hz := ih (i + 1) (some (vI (sx T (48 + p) i))) (by omega) (by omega) (by omega)
      rw [nmN_s _ g1] at hz
      refine r_if_eq (tgt := 56) C dX8_namedIn_43 (by decide) (fun hc43 => ?_) (fun hc43 => ?_)
      · have hno := zb_0.mp hc43
        rw [if_neg (by omega)] at hz
        refine r_iconst C dX8_namedIn_56 (by decide) ?_
        refine r_ior C dX8_namedIn_57 ?_
        rw [bOr_0 (nmN_rg _ _)]
        refine r_istore_n C dX8_namedIn_58 (by decide) ?_
        refine r_iinc C dX8_namedIn_59 rfl (by decide) (by omega) ?_
        refine r_goto (tgt := 4) C dX8_namedIn_62 (by decide) ?_
        exact hz
      · have hyes := zb_n0.mp hc43
        rw [if_pos (by omega)] at hz
        refine r_iconst C dX8_namedIn_46 (by decide) ?_
        refine r_iload C dX8_namedIn_47 rfl ?_
        refine r_bipush C dX8_namedIn_49 (by decide) ?_
        refine r_isub C dX8_namedIn_51 (by omega) ?_
        refine r_ishl C dX8_namedIn_52 ?_
        refine r_goto (tgt := 57) C dX8_namedIn_53 (by decide) ?_
        refine r_ior C dX8_namedIn_57 ?_
        refine r_istore_n C dX8_namedIn_58 (by decide) ?_
        refine r_iinc C dX8_namedIn_59 rfl (by decide) (by omega) ?_
        refine r_goto (tgt := 4) C dX8_namedIn_62 (by decide) ?_
        exact hz
  refine r_iconst C dX8_namedIn_0 (by decide) ?_
  refine r_istore_n C dX8_namedIn_1 (by decide) ?_
  refine r_iconst C dX8_namedIn_2 (by decide) ?_
  refine r_istore_n C dX8_namedIn_3 (by decide) ?_
  exact loop ((M (48 + p)).toNat + 1) 0 none (by omega) (by omega) (by omega)
end
section
variable {h : Pic} {m : Nat} {pn : Int} {pf : Int → Int} {vs pg : Int} {mn : Int → Int} {tx : Int → Int → Int} {tl du kp : Int → Int} {im : Int → Bs}
theorem N_version (hm : RM h m pn pf vs pg mn tx tl du kp im) : Meets yX8_version cX8_version 2 (some .int) 10 0 0 [vR m] h (pX (fun z h' => z = (aVer vs mn tx).1 ∧ RM h' m pn pf (aVer vs mn tx).2.1 pg (aVer vs mn tx).2.2.1 (aVer vs mn tx).2.2.2 tl du kp im ∧ Kp SM h h')) := by
  obtain ⟨A, pd, us, gi, op, th, la, lv, sl, T, S, M, tL, dU, rs, pA, pS, pH, bV, be, dO, hB, sA, nO, mI, mK, hp, hpt, hba, hsz, hld, him⟩ := id hm
  obtain ⟨⟨hv1, hv6, hp0, hp12⟩, -⟩ := id hba
  refine Meets.of (plainFor_of_name (by decide)) (Nat.le_of_ble_eq_true rfl) (fun X C hX hN hA => ?_)
  refine r_aload_n C dX8_version_0 rfl ?_
  refine r_get C dX8_version_1 flX8_62 hp.o rfl ?_
  refine r_bipush C dX8_version_4 (by decide) ?_
  refine r_icmp_ne (tgt := 12) C dX8_version_6 (by decide) (fun hc6 => ?_) (fun hc6 => ?_)
  rotate_left
  · have hv : aVer vs mn tx = (-4, vs, mn, tx) := if_pos (by omega)
    rw [hv]
    refine r_bipush C dX8_version_9 (by decide) ?_
    exact r_iret C dX8_version_11 (by decide) (by decide) ⟨_, rfl, rfl, hm, Kp.rf⟩
  have hv : aVer vs mn tx = (vs, vs + 1, mnA vs mn 8, mnA vs tx 8) := if_neg (by omega)
  rw [hv]
  obtain ⟨PQ, hPQ⟩ : ∃ PQ : State → Prop, PQ = Qm X (pX (fun z h' => z = vs ∧ RM h' m pn pf (vs + 1) pg (mnA vs mn 8) (mnA vs tx 8) tl du kp im ∧ Kp SM h h')) 0 0 := ⟨_, rfl⟩
  have loop : ∀ (j : Nat) (w : Int) (h' : Pic) (T' S' M' : Int → Int), 0 ≤ w → w ≤ 8 → 8 - w < j → MP h' m A vs pg pd us gi op th la lv sl T' S' M' tL dU rs pA pS pH bV be dO hB sA nO mI mK → Kp SM h h' → PT pn pf T' M' → BA vs pg (mnA vs mn w) (mnA vs tx w) tl du M' T' tL dU → SZA M' T' S' → Go X PQ 0 0 h' 14 [some (vR m), some (vI w)] [] := by
    intro j
    induction j with
    | zero => intro w h' T' S' M' g1 g2 g3; exact absurd g3 (by omega)
    | succ j ih =>
      intro w h' T' S' M' g1 g2 g3 hp' k' hpt' hba' hsz'
      refine r_iload_n C dX8_version_14 rfl ?_
      refine r_bipush C dX8_version_15 (by decide) ?_
      refine r_icmp_ge (tgt := 50) C dX8_version_17 (by decide) (fun hc17 => ?_) (fun hc17 => ?_)
      · have hw : w = 8 := by omega
        rw [hw] at hba'
        refine r_aload_n C dX8_version_50 rfl ?_
        refine r_dup C dX8_version_51 ?_
        refine r_get C dX8_version_52 flX8_62 hp'.o rfl ?_
        refine r_iconst C dX8_version_55 (by decide) ?_
        refine r_iadd C dX8_version_56 (by omega) ?_
        refine w_vs C dX8_version_57 hp' (fun h2 hp2 k2 => ?_)
        refine r_aload_n C dX8_version_60 rfl ?_
        refine r_iconst C dX8_version_61 (by decide) ?_
        refine w_la C dX8_version_62 hp2 (by omega) (fun h3 hp3 k3 => ?_)
        refine r_aload_n C dX8_version_65 rfl ?_
        refine r_get C dX8_version_66 flX8_62 hp3.o rfl ?_
        refine r_iconst C dX8_version_69 (by decide) ?_
        refine r_isub C dX8_version_70 (by omega) ?_
        rw [hPQ]
        exact r_iret C dX8_version_71 (by decide) (by decide) ⟨_, rfl, by omega, ⟨A, pd, us, gi, op, th, 0, lv, sl, T', S', M', tL, dU, rs, pA, pS, pH, bV, be, dO, hB, sA, nO, mI, mK, hp3, hpt', hba'.ver (by omega) (by omega), hsz', Or.inl rfl, him⟩, k'.tr ((k2.mono (fun t q => by omega)).tr (k3.mono (fun t q => by omega)))⟩
      obtain ⟨a1, a2, a3, a4, a5⟩ := hba'.t (t := 8 * (vs - 1) + w) (by omega) (by omega)
      have hpe := hba'.pe (t := 8 * (vs - 1) + w) (by omega) (by omega)
      rw [mnA_lo (by omega), mnA_lo (by omega)] at a4 a5
      rw [mnA_lo (by omega)] at a1 a2 a3
      refine r_aload_n C dX8_version_20 rfl ?_
      refine r_bipush C dX8_version_21 (by decide) ?_
      refine r_aload_n C dX8_version_23 rfl ?_
      refine r_get C dX8_version_24 flX8_62 hp'.o rfl ?_
      refine r_iconst C dX8_version_27 (by decide) ?_
      refine r_isub C dX8_version_28 (by omega) ?_
      refine r_imul C dX8_version_29 (by omega) ?_
      refine r_iload_n C dX8_version_30 rfl ?_
      refine r_iadd C dX8_version_31 (by omega) ?_
      refine r_bipush C dX8_version_32 (by decide) ?_
      refine r_aload_n C dX8_version_34 rfl ?_
      refine r_get C dX8_version_35 flX8_62 hp'.o rfl ?_
      refine r_imul C dX8_version_38 (by omega) ?_
      refine r_iload_n C dX8_version_39 rfl ?_
      refine r_iadd C dX8_version_40 (by omega) ?_
      refine r_cVv C dX8_version_41 mlX8_89 kX8_copyText (n_copyText (a := 8 * (vs - 1) + w) (b := 8 * vs + w) hp' (by omega) (by omega) (by omega) (by omega) (by omega) (by omega) (by omega) hpe) hp'.o rfl rfl rfl (Nat.le_of_ble_eq_true rfl) (fit hX (by decide)) ?_
      rintro h2 ⟨T2, S2, hp2, k2, c1, c2, c3, c4⟩
      rw [a1] at hp2 c1 c3
      refine r_iinc C dX8_version_44 rfl (by decide) (by omega) ?_
      refine r_goto (tgt := 14) C dX8_version_47 (by decide) ?_
      refine ih (w + 1) h2 T2 S2 _ (by omega) (by omega) (by omega) hp2 (k'.tr k2) ⟨by rw [fu_n (by omega)]; exact hpt'.1, hpt'.2.1, hpt'.2.2.1, fun k k0 k1 => by rw [c2 _ (by omega)]; exact hpt'.2.2.2 k k0 k1⟩ ?_ (hsz'.slot hba'.m40 c3 c2 c4)
      rw [mnA_s g1, mnA_s g1]
      exact hba'.slot (by omega) (by omega) a2 a3 a4 (fun k k0 k1 => (c1 k k0 k1).trans (a5 k k0 k1)) c2 (Or.inr (by omega))
  rw [← hPQ]
  refine r_iconst C dX8_version_12 (by decide) ?_
  refine r_istore_n C dX8_version_13 (by decide) ?_
  exact loop 9 0 h T S M (by omega) (by omega) (by omega) hp Kp.rf hpt (by rw [mnA_0, mnA_0]; exact hba) hsz
theorem N_word {w : Int} (hm : RM h m pn pf vs pg mn tx tl du kp im) : Meets yX8_word cX8_word 3 (some .int) 10 0 0 [vR m, vI w] h (pX (fun z h' => z = (aWord pn pf vs mn tx w).1 ∧ RM h' m (aWord pn pf vs mn tx w).2.1 pf vs pg (aWord pn pf vs mn tx w).2.2.1 (aWord pn pf vs mn tx w).2.2.2 tl du kp im ∧ Kp SM h h')) := by
  obtain ⟨A, pd, us, gi, op, th, la, lv, sl, T, S, M, tL, dU, rs, pA, pS, pH, bV, be, dO, hB, sA, nO, mI, mK, hp, hpt, hba, hsz, hld, him⟩ := id hm
  obtain ⟨hM60, hpn0, hpn1, hpf⟩ := id hpt
  obtain ⟨⟨hv1, hv6, hp0, hp12⟩, -⟩ := id hba
  refine Meets.of (plainFor_of_name (by decide)) (Nat.le_of_ble_eq_true rfl) (fun X C hX hN hA => ?_)
  refine r_iload_n C dX8_word_0 rfl ?_
  refine r_cSi C dX8_word_1 mlX8_97 kX8_isWord (n_isWord (w := w)) rfl rfl (Nat.le_of_ble_eq_true rfl) (fit hX (by decide)) ?_
  refine r_if_ne (tgt := 9) C dX8_word_4 (by decide) (fun hc4 => ?_) (fun hc4 => ?_)
  rotate_left
  · have hno := zb_0.mp hc4
    have hv : aWord pn pf vs mn tx w = (-1, pn, mn, tx) := if_pos (by omega)
    rw [hv]
    refine r_iconst C dX8_word_7 (by decide) ?_
    exact r_iret C dX8_word_8 (by decide) (by decide) ⟨_, rfl, rfl, hm, Kp.rf⟩
  have hww := zb_n0.mp hc4
  have hgo : ∀ (h1 : Pic) (rs1 : Int → Int), MP h1 m A vs pg pd us gi op th la lv sl T S M tL dU rs1 pA pS pH bV be dO hB sA nO mI mK → Kp SM h h1 → (0 < pn → flt pn pf = -6) → Go X (Qm X (pX (fun z h' => z = (aWord pn pf vs mn tx w).1 ∧ RM h' m (aWord pn pf vs mn tx w).2.1 pf vs pg (aWord pn pf vs mn tx w).2.2.1 (aWord pn pf vs mn tx w).2.2.2 tl du kp im ∧ Kp SM h h')) 0 0) 0 0 h1 29 [some (vR m), some (vI w), none] [] := by
    intro h1 rs1 hp1 k1 hfl
    have hv : aWord pn pf vs mn tx w = (pn, 0, fu mn (8 * (vs - 1) + w) pn, fu tx (8 * (vs - 1) + w) pf) := (if_neg (by omega)).trans (if_neg (fun q => q.2 (hfl q.1)))
    rw [hv]
    have hpe : pn = 0 ∨ pe pn pf 6 0 = pn := by
      rcases Int.lt_or_le 0 pn with q | q
      · exact Or.inr (flt_ok hpn0 (hfl q))
      · exact Or.inl (by omega)
    have hpe2 : M 60 = 0 ∨ pe (M 60) (sx T 60) 6 0 = M 60 := by
      rw [hM60, sx60]
      rcases hpe with q | q
      · exact Or.inl q
      · exact Or.inr (by rw [pe_congr (f' := pf) (fun k k0 k1 => hpf k k0 k1) 6]; exact q)
    refine r_aload_n C dX8_word_29 rfl ?_
    refine r_get C dX8_word_30 flX8_16 hp1.o rfl ?_
    refine r_bipush C dX8_word_33 (by decide) ?_
    refine r_iald C dX8_word_35 hp1.aM (by omega) (by omega) ?_
    refine r_istore_n C dX8_word_36 (by decide) ?_
    refine r_aload_n C dX8_word_37 rfl ?_
    refine r_bipush C dX8_word_38 (by decide) ?_
    refine r_bipush C dX8_word_40 (by decide) ?_
    refine r_aload_n C dX8_word_42 rfl ?_
    refine r_get C dX8_word_43 flX8_62 hp1.o rfl ?_
    refine r_iconst C dX8_word_46 (by decide) ?_
    refine r_isub C dX8_word_47 (by omega) ?_
    refine r_imul C dX8_word_48 (by omega) ?_
    refine r_iload_n C dX8_word_49 rfl ?_
    refine r_iadd C dX8_word_50 (by omega) ?_
    refine r_cVv C dX8_word_51 mlX8_89 kX8_copyText (n_copyText (a := 60) (b := 8 * (vs - 1) + w) hp1 (by omega) (by omega) (by omega) (by omega) (by omega) (by omega) (by omega) hpe2) hp1.o rfl rfl rfl (Nat.le_of_ble_eq_true rfl) (fit hX (by decide)) ?_
    rintro h2 ⟨T2, S2, hp2, k2, c1, c2, c3, c4⟩
    rw [hM60] at hp2 c1 c3
    refine r_aload_n C dX8_word_54 rfl ?_
    refine r_get C dX8_word_55 flX8_16 hp2.o rfl ?_
    refine r_bipush C dX8_word_58 (by decide) ?_
    refine r_iconst C dX8_word_60 (by decide) ?_
    refine w_M C dX8_word_61 hp2 (by omega) (by omega) (fun h3 hp3 k3 => ?_)
    refine r_aload_n C dX8_word_62 rfl ?_
    refine r_iconst C dX8_word_63 (by decide) ?_
    refine w_la C dX8_word_64 hp3 (by omega) (fun h4 hp4 k4 => ?_)
    refine r_iload_n C dX8_word_67 rfl ?_
    have hb2 : BA vs pg (fu mn (8 * (vs - 1) + w) pn) (fu tx (8 * (vs - 1) + w) pf) tl du (fu M (8 * (vs - 1) + w) pn) T2 tL dU := hba.slot (by omega) (by omega) hpn0 hpn1 hpe (fun k k0 k1 => (c1 k k0 k1).trans (by rw [sx60]; exact hpf k k0 k1)) c2 (Or.inr (by omega))
    have hs2 := hsz.slot hba.m40 c3 c2 c4
    exact r_iret C dX8_word_68 (by decide) (by decide) ⟨_, rfl, hM60, ⟨A, pd, us, gi, op, th, 0, lv, sl, T2, S2, fu (fu M (8 * (vs - 1) + w) pn) 60 0, tL, dU, rs1, pA, pS, pH, bV, be, dO, hB, sA, nO, mI, mK, hp4, ⟨fu_s, by show (0 : Int) ≤ 0; omega, by show (0 : Int) ≤ 40; omega, fun k k0 k1 => absurd (show k < 0 from k1) (by omega)⟩, hb2.same (fun t t0 t1 => fu_n (by omega)) (fun _ _ _ => rfl) (fun _ _ _ => rfl) (fun _ _ _ => rfl), hs2.same hb2.m40 (fun t t0 t1 => fu_n (by omega)) (fun _ _ _ => rfl) (fun _ _ _ => rfl), Or.inl rfl, him⟩, k1.tr (k2.tr ((k3.mono (fun t q => by omega)).tr (k4.mono (fun t q => by omega))))⟩
  refine r_aload_n C dX8_word_9 rfl ?_
  refine r_get C dX8_word_10 flX8_16 hp.o rfl ?_
  refine r_bipush C dX8_word_13 (by decide) ?_
  refine r_iald C dX8_word_15 hp.aM (by omega) (by omega) ?_
  refine r_if_le (tgt := 29) C dX8_word_16 (by decide) (fun hc16 => ?_) (fun hc16 => ?_)
  · exact hgo h rs hp Kp.rf (fun q => by omega)
  refine r_aload_n C dX8_word_19 rfl ?_
  refine r_cVx C dX8_word_20 mlX8_81 kX8_faultOf (n_faultOf hp (by omega) (by omega)) hp.o rfl rfl rfl (Nat.le_of_ble_eq_true rfl) (fit hX (by decide)) ?_
  rintro z h1 ⟨hz, rs1, hp1, k1⟩
  rw [hM60, flt_congr hpf] at hz
  have hfr := flt_rng (n := pn) (f := pf) hpn0
  refine r_if_lt (tgt := 29) C dX8_word_23 (by decide) (fun hc23 => ?_) (fun hc23 => ?_)
  · exact hgo h1 rs1 hp1 (k1.mono (fun t q => by omega)) (fun _ => by omega)
  have hv : aWord pn pf vs mn tx w = (-5, pn, mn, tx) := (if_neg (by omega)).trans (if_pos ⟨by omega, by omega⟩)
  rw [hv]
  refine r_bipush C dX8_word_26 (by decide) ?_
  exact r_iret C dX8_word_28 (by decide) (by decide) ⟨_, rfl, rfl, ⟨A, pd, us, gi, op, th, la, lv, sl, T, S, M, tL, dU, rs1, pA, pS, pH, bV, be, dO, hB, sA, nO, mI, mK, hp1, hpt, hba, hsz, hld, him⟩, k1.mono (fun t q => by omega)⟩
theorem N_comes {v g : Int} (hm : RM h m pn pf vs pg mn tx tl du kp im) : Meets yX8_comes cX8_comes 3 (some .int) 10 0 0 [vR m, vI v, vI g] h (pX (fun z h' => z = aComes pn pf vs mn tx v g ∧ RM h' m pn pf vs pg mn tx tl du kp im ∧ Kp SM h h')) := by
  obtain ⟨A, pd, us, gi, op, th, la, lv, sl, T, S, M, tL, dU, rs, pA, pS, pH, bV, be, dO, hB, sA, nO, mI, mK, hp, hpt, hba, hsz, hld, him⟩ := id hm
  obtain ⟨hM60, hpn0, hpn1, hpf⟩ := id hpt
  obtain ⟨⟨hv1, hv6, hp0, hp12⟩, -⟩ := id hba
  refine Meets.of (plainFor_of_name (by decide)) (Nat.le_of_ble_eq_true rfl) (fun X C hX hN hA => ?_)
  refine r_aload_n C dX8_comes_0 rfl ?_
  refine r_iload_n C dX8_comes_1 rfl ?_
  refine r_cVi C dX8_comes_2 mlX8_100 kX8_isVersion (n_isVersion (v := v) hp (by omega)) hp.o rfl rfl rfl (Nat.le_of_ble_eq_true rfl) (fit hX (by decide)) ?_
  refine r_if_ne (tgt := 10) C dX8_comes_5 (by decide) (fun hc5 => ?_) (fun hc5 => ?_)
  rotate_left
  · have hno := zb_0.mp hc5
    have hv : aComes pn pf vs mn tx v g = -1 := by unfold aComes; exact if_pos (by omega)
    rw [hv]
    refine r_iconst C dX8_comes_8 (by decide) ?_
    exact r_iret C dX8_comes_9 (by decide) (by decide) ⟨_, rfl, rfl, hm, Kp.rf⟩
  have hvv := zb_n0.mp hc5
  refine r_iload_n C dX8_comes_10 rfl ?_
  refine r_iconst C dX8_comes_11 (by decide) ?_
  refine r_sipush C dX8_comes_12 (by decide) ?_
  refine r_cSi C dX8_comes_15 mlX8_66 kX8_in (n_in (v := g) (lo := 0) (hi := 999)) rfl rfl (Nat.le_of_ble_eq_true rfl) (fit hX (by decide)) ?_
  refine r_if_ne (tgt := 24) C dX8_comes_18 (by decide) (fun hc18 => ?_) (fun hc18 => ?_)
  rotate_left
  · have hno := zb_0.mp hc18
    have hv : aComes pn pf vs mn tx v g = -2 := by unfold aComes; exact (if_neg (by omega)).trans (if_pos (by omega))
    rw [hv]
    refine r_bipush C dX8_comes_21 (by decide) ?_
    exact r_iret C dX8_comes_23 (by decide) (by decide) ⟨_, rfl, rfl, hm, Kp.rf⟩
  have hgg := zb_n0.mp hc18
  refine r_aload_n C dX8_comes_24 rfl ?_
  refine r_cVx C dX8_comes_25 mlX8_81 kX8_faultOf (n_faultOf hp (by omega) (by omega)) hp.o rfl rfl rfl (Nat.le_of_ble_eq_true rfl) (fit hX (by decide)) ?_
  rintro z h1 ⟨hz, rs1, hp1, k1⟩
  rw [hM60, flt_congr hpf] at hz
  have hfr := flt_rng (n := pn) (f := pf) hpn0
  refine r_if_lt (tgt := 34) C dX8_comes_28 (by decide) (fun hc28 => ?_) (fun hc28 => ?_)
  rotate_left
  · have hv : aComes pn pf vs mn tx v g = -5 := by unfold aComes; exact (if_neg (by omega)).trans ((if_neg (by omega)).trans (if_pos (by omega)))
    rw [hv]
    refine r_bipush C dX8_comes_31 (by decide) ?_
    exact r_iret C dX8_comes_33 (by decide) (by decide) ⟨_, rfl, rfl, ⟨A, pd, us, gi, op, th, la, lv, sl, T, S, M, tL, dU, rs1, pA, pS, pH, bV, be, dO, hB, sA, nO, mI, mK, hp1, hpt, hba, hsz, hld, him⟩, k1.mono (fun t q => by omega)⟩
  have hfl : flt pn pf = -6 := by omega
  have hv : aComes pn pf vs mn tx v g = (evT (fun w => mn (8 * v + w)) (fun w => tx (8 * v + w)) pn pf g).1 := by unfold aComes; exact (if_neg (by omega)).trans ((if_neg (by omega)).trans (if_neg (by omega)))
  rw [hv]
  have hpe := flt_ok hpn0 hfl
  have hpos : 0 < pn := by
    rcases Int.lt_or_le 0 pn with q | q
    · exact q
    · rw [pe_out (by omega)] at hpe; omega
  have hpe2 : pe (M 60) (sx T 60) 6 0 = M 60 := by
    rw [hM60, sx60, pe_congr (f' := pf) (fun k k0 k1 => hpf k k0 k1) 6]; exact hpe
  refine r_aload_n C dX8_comes_34 rfl ?_
  refine r_bipush C dX8_comes_35 (by decide) ?_
  refine r_cVv C dX8_comes_37 mlX8_85 kX8_measure (n_measure (t := 60) hp1 (by omega) (by omega) (by omega) (by omega) (Or.inr hpe2)) hp1.o rfl rfl rfl (Nat.le_of_ble_eq_true rfl) (fit hX (by decide)) ?_
  rintro h2 ⟨S2, hp2, k2, hz2, ho2⟩
  have hsz2 : SZA M T S2 := hsz.same hba.m40 (fun _ _ _ => rfl) (fun _ _ _ => rfl) (fun i i0 i1 => ho2 i (by omega))
  refine r_aload_n C dX8_comes_40 rfl ?_
  refine r_iload_n C dX8_comes_41 rfl ?_
  refine r_cVv C dX8_comes_42 mlX8_119 kX8_byVersion (n_byVersion (v := v) hp2) hp2.o rfl rfl rfl (Nat.le_of_ble_eq_true rfl) (fit hX (by decide)) ?_
  rintro h3 ⟨bV3, hp3, k3, hb3⟩
  refine r_aload_n C dX8_comes_45 rfl ?_
  refine r_bipush C dX8_comes_46 (by decide) ?_
  refine r_iload_n C dX8_comes_48 rfl ?_
  refine r_cVx C dX8_comes_49 mlX8_122 kX8_comeTo (n_come (t := 60) (x := g) (n := pn) (f := pf) (wn := fun w => mn (8 * v + w)) (wt := fun w => tx (8 * v + w)) hp3 (by omega) (by omega) ⟨by omega, by omega, hpe2, hz2⟩ hgg.1 hgg.2 (fun w w0 w1 => by rw [hb3 w w0 w1]; obtain ⟨a1, -, -, -, a5⟩ := hba.t (t := 8 * v + w) (by omega) (by omega); exact ⟨by omega, by omega, hba.gt hsz2 (by omega) (by omega), a1, a5⟩) hM60 (fun k k0 k1 => by rw [sx60]; exact hpf k k0 k1)) hp3.o rfl rfl rfl (Nat.le_of_ble_eq_true rfl) (fit hX (by decide)) ?_
  rintro z4 h4 ⟨hz4, pd4, gi4, op4, pA4, pS4, pH4, hp4, k4⟩
  exact r_iret C dX8_comes_52 (by decide) (by decide) ⟨_, rfl, hz4, ⟨A, pd4, _, gi4, op4, th, la, lv, sl, T, S2, M, tL, dU, rs1, pA4, pS4, pH4, bV3, be, dO, hB, sA, nO, mI, mK, hp4, hpt, hba, hsz2, hld, him⟩, (k1.mono (fun t q => by omega)).tr ((k2.mono (fun t q => by omega)).tr ((k3.mono (fun t q => by omega)).tr k4))⟩
theorem N_tells {w : Int} (hm : RM h m pn pf vs pg mn tx tl du kp im) : Meets yX8_tells cX8_tells 2 (some .int) 10 0 0 [vR m, vI w] h (pX (fun z h' => z = (aTells pg mn tx tl du w).1 ∧ RM h' m pn pf vs (aTells pg mn tx tl du w).2.1 (aTells pg mn tx tl du w).2.2.1 (aTells pg mn tx tl du w).2.2.2.1 (aTells pg mn tx tl du w).2.2.2.2.1 (aTells pg mn tx tl du w).2.2.2.2.2 kp im ∧ Kp SM h h')) := by
  obtain ⟨A, pd, us, gi, op, th, la, lv, sl, T, S, M, tL, dU, rs, pA, pS, pH, bV, be, dO, hB, sA, nO, mI, mK, hp, hpt, hba, hsz, hld, him⟩ := id hm
  obtain ⟨hM60, hpn0, hpn1, hpf⟩ := id hpt
  obtain ⟨⟨hv1, hv6, hp0, hp12⟩, -⟩ := id hba
  refine Meets.of (plainFor_of_name (by decide)) (Nat.le_of_ble_eq_true rfl) (fun X C hX hN hA => ?_)
  refine r_iload_n C dX8_tells_0 rfl ?_
  refine r_cSi C dX8_tells_1 mlX8_97 kX8_isWord (n_isWord (w := w)) rfl rfl (Nat.le_of_ble_eq_true rfl) (fit hX (by decide)) ?_
  refine r_if_ne (tgt := 9) C dX8_tells_4 (by decide) (fun hc4 => ?_) (fun hc4 => ?_)
  rotate_left
  · have hno := zb_0.mp hc4
    have hv : aTells pg mn tx tl du w = (-1, pg, mn, tx, tl, du) := if_pos (by omega)
    rw [hv]
    refine r_iconst C dX8_tells_7 (by decide) ?_
    exact r_iret C dX8_tells_8 (by decide) (by decide) ⟨_, rfl, rfl, hm, Kp.rf⟩
  have hww := zb_n0.mp hc4
  refine r_aload_n C dX8_tells_9 rfl ?_
  refine r_get C dX8_tells_10 flX8_70 hp.o rfl ?_
  refine r_bipush C dX8_tells_13 (by decide) ?_
  refine r_icmp_ne (tgt := 21) C dX8_tells_15 (by decide) (fun hc15 => ?_) (fun hc15 => ?_)
  rotate_left
  · have hv : aTells pg mn tx tl du w = (-4, pg, mn, tx, tl, du) := (if_neg (by omega)).trans (if_pos (by omega))
    rw [hv]
    refine r_bipush C dX8_tells_18 (by decide) ?_
    exact r_iret C dX8_tells_20 (by decide) (by decide) ⟨_, rfl, rfl, hm, Kp.rf⟩
  have hv : aTells pg mn tx tl du w = (pg, pg + 1, fu mn (48 + pg) 0, fu tx (48 + pg) (fun _ => 0), fu tl pg w, fu du pg 0) := (if_neg (by omega)).trans (if_neg (by omega))
  rw [hv]
  refine r_aload_n C dX8_tells_21 rfl ?_
  refine r_get C dX8_tells_22 flX8_19 hp.o rfl ?_
  refine r_aload_n C dX8_tells_25 rfl ?_
  refine r_get C dX8_tells_26 flX8_70 hp.o rfl ?_
  refine r_iload_n C dX8_tells_29 rfl ?_
  refine w_tL C dX8_tells_30 hp (by omega) (by omega) (fun h1 hp1 k1 => ?_)
  refine r_aload_n C dX8_tells_31 rfl ?_
  refine r_get C dX8_tells_32 flX8_16 hp1.o rfl ?_
  refine r_bipush C dX8_tells_35 (by decide) ?_
  refine r_aload_n C dX8_tells_37 rfl ?_
  refine r_get C dX8_tells_38 flX8_70 hp1.o rfl ?_
  refine r_iadd C dX8_tells_41 (by omega) ?_
  refine r_iconst C dX8_tells_42 (by decide) ?_
  refine w_M C dX8_tells_43 hp1 (by omega) (by omega) (fun h2 hp2 k2 => ?_)
  refine r_aload_n C dX8_tells_44 rfl ?_
  refine r_dup C dX8_tells_45 ?_
  refine r_get C dX8_tells_46 flX8_70 hp2.o rfl ?_
  refine r_iconst C dX8_tells_49 (by decide) ?_
  refine r_iadd C dX8_tells_50 (by omega) ?_
  refine w_pg C dX8_tells_51 hp2 (fun h3 hp3 k3 => ?_)
  refine r_aload_n C dX8_tells_54 rfl ?_
  refine r_iconst C dX8_tells_55 (by decide) ?_
  refine w_la C dX8_tells_56 hp3 (by omega) (fun h4 hp4 k4 => ?_)
  refine r_aload_n C dX8_tells_59 rfl ?_
  refine r_get C dX8_tells_60 flX8_70 hp4.o rfl ?_
  refine r_iconst C dX8_tells_63 (by decide) ?_
  refine r_isub C dX8_tells_64 (by omega) ?_
  have hb1 : BA vs pg (fu mn (48 + pg) 0) (fu tx (48 + pg) (fun _ => 0)) tl du (fu M (48 + pg) 0) T tL dU := hba.slot (by omega) (by omega) (by omega) (by omega) (Or.inl rfl) (fun k k0 k1 => by omega) (fun _ _ => rfl) (Or.inl (by omega))
  exact r_iret C dX8_tells_65 (by decide) (by decide) ⟨_, rfl, by show pg + 1 - 1 = pg; omega, ⟨A, pd, us, gi, op, th, 0, lv, sl, T, S, fu M (48 + pg) 0, fu tL pg w, dU, rs, pA, pS, pH, bV, be, dO, hB, sA, nO, mI, mK, hp4, ⟨by rw [fu_n (by omega)]; exact hM60, hpn0, hpn1, hpf⟩, hb1.page (by omega) (fun _ _ _ => rfl) (Or.inr ⟨hww.1, by omega, fu_s⟩), hsz.slot hba.m40 (fun d q q0 q1 => by rw [pe_out q0] at q1; omega) (fun _ _ => rfl) (fun _ _ => rfl), Or.inl rfl, him⟩, (k1.mono (fun t q => by omega)).tr ((k2.mono (fun t q => by omega)).tr ((k3.mono (fun t q => by omega)).tr (k4.mono (fun t q => by omega))))⟩
theorem N_shows {d : Int} (hm : RM h m pn pf vs pg mn tx tl du kp im) : Meets yX8_shows cX8_shows 4 (some .int) 10 0 0 [vR m, vI d] h (pX (fun z h' => z = (aShows pn pf pg mn tx tl du d).1 ∧ RM h' m (aShows pn pf pg mn tx tl du d).2.1 pf vs (aShows pn pf pg mn tx tl du d).2.2.1 (aShows pn pf pg mn tx tl du d).2.2.2.1 (aShows pn pf pg mn tx tl du d).2.2.2.2.1 (aShows pn pf pg mn tx tl du d).2.2.2.2.2.1 (aShows pn pf pg mn tx tl du d).2.2.2.2.2.2 kp im ∧ Kp SM h h')) := by
  obtain ⟨A, pd, us, gi, op, th, la, lv, sl, T, S, M, tL, dU, rs, pA, pS, pH, bV, be, dO, hB, sA, nO, mI, mK, hp, hpt, hba, hsz, hld, him⟩ := id hm
  obtain ⟨hM60, hpn0, hpn1, hpf⟩ := id hpt
  obtain ⟨⟨hv1, hv6, hp0, hp12⟩, -⟩ := id hba
  refine Meets.of (plainFor_of_name (by decide)) (Nat.le_of_ble_eq_true rfl) (fun X C hX hN hA => ?_)
  refine r_iload_n C dX8_shows_0 rfl ?_
  refine r_iconst C dX8_shows_1 (by decide) ?_
  refine r_sipush C dX8_shows_2 (by decide) ?_
  refine r_cSi C dX8_shows_5 mlX8_66 kX8_in (n_in (v := d) (lo := 0) (hi := 999)) rfl rfl (Nat.le_of_ble_eq_true rfl) (fit hX (by decide)) ?_
  refine r_if_ne (tgt := 14) C dX8_shows_8 (by decide) (fun hc8 => ?_) (fun hc8 => ?_)
  rotate_left
  · have hno := zb_0.mp hc8
    rw [aShows_1 (by omega)]
    refine r_bipush C dX8_shows_11 (by decide) ?_
    exact r_iret C dX8_shows_13 (by decide) (by decide) ⟨_, rfl, rfl, hm, Kp.rf⟩
  have hdd := zb_n0.mp hc8
  refine r_aload_n C dX8_shows_14 rfl ?_
  refine r_get C dX8_shows_15 flX8_70 hp.o rfl ?_
  refine r_bipush C dX8_shows_18 (by decide) ?_
  refine r_icmp_ne (tgt := 26) C dX8_shows_20 (by decide) (fun hc20 => ?_) (fun hc20 => ?_)
  rotate_left
  · rw [aShows_2 (by omega) (by omega)]
    refine r_bipush C dX8_shows_23 (by decide) ?_
    exact r_iret C dX8_shows_25 (by decide) (by decide) ⟨_, rfl, rfl, hm, Kp.rf⟩
  have loop : ∀ (j : Nat) (i : Int), 0 ≤ i → i ≤ pn → pn - i < j → Go X (Qm X (pX (fun z h' => z = (aShows pn pf pg mn tx tl du d).1 ∧ RM h' m (aShows pn pf pg mn tx tl du d).2.1 pf vs (aShows pn pf pg mn tx tl du d).2.2.1 (aShows pn pf pg mn tx tl du d).2.2.2.1 (aShows pn pf pg mn tx tl du d).2.2.2.2.1 (aShows pn pf pg mn tx tl du d).2.2.2.2.2.1 (aShows pn pf pg mn tx tl du d).2.2.2.2.2.2 kp im ∧ Kp SM h h')) 0 0) 0 0 h 30 [some (vR m), some (vI d), some (vI (zb (hasX i pf))), some (vI i)] [] := by
    intro j
    induction j with
    | zero => intro i g1 g2 g3; exact absurd g3 (by omega)
    | succ j ih =>
      intro i g1 g2 g3
      refine r_iload_n C dX8_shows_30 rfl ?_
      refine r_aload_n C dX8_shows_31 rfl ?_
      refine r_get C dX8_shows_32 flX8_16 hp.o rfl ?_
      refine r_bipush C dX8_shows_35 (by decide) ?_
      refine r_iald C dX8_shows_37 hp.aM (by omega) (by omega) ?_
      refine r_icmp_ge (tgt := 72) C dX8_shows_38 (by decide) (fun hc38 => ?_) (fun hc38 => ?_)
      · have hi : i = pn := by omega
        rw [hi]
        refine r_iload_n C dX8_shows_72 rfl ?_
        refine r_if_ne (tgt := 83) C dX8_shows_73 (by decide) (fun hc73 => ?_) (fun hc73 => ?_)
        · rw [aShows_3 (by omega) (by omega) (Or.inr (zb_n0.mp hc73))]
          refine r_bipush C dX8_shows_83 (by decide) ?_
          exact r_iret C dX8_shows_85 (by decide) (by decide) ⟨_, rfl, rfl, hm, Kp.rf⟩
        have hnx := zb_0.mp hc73
        refine r_aload_n C dX8_shows_76 rfl ?_
        refine r_cVx C dX8_shows_77 mlX8_81 kX8_faultOf (n_faultOf hp (by omega) (by omega)) hp.o rfl rfl rfl (Nat.le_of_ble_eq_true rfl) (fit hX (by decide)) ?_
        rintro z h1 ⟨hz, rs1, hp1, k1⟩
        rw [hM60, flt_congr hpf] at hz
        have hfr := flt_rng (n := pn) (f := pf) hpn0
        refine r_if_lt (tgt := 86) C dX8_shows_80 (by decide) (fun hc80 => ?_) (fun hc80 => ?_)
        rotate_left
        · rw [aShows_3 (by omega) (by omega) (Or.inl (by omega))]
          refine r_bipush C dX8_shows_83 (by decide) ?_
          exact r_iret C dX8_shows_85 (by decide) (by decide) ⟨_, rfl, rfl, ⟨A, pd, us, gi, op, th, la, lv, sl, T, S, M, tL, dU, rs1, pA, pS, pH, bV, be, dO, hB, sA, nO, mI, mK, hp1, hpt, hba, hsz, hld, him⟩, k1.mono (fun t q => by omega)⟩
        have hfl : flt pn pf = -6 := by omega
        rw [aShows_4 (by omega) (by omega) (fun q => q.elim (fun z => z hfl) hnx)]
        have hpe := flt_ok hpn0 hfl
        have hpos : 0 < pn := by
          rcases Int.lt_or_le 0 pn with q | q
          · exact q
          · rw [pe_out (by omega)] at hpe; omega
        have hpe2 : M 60 = 0 ∨ pe (M 60) (sx T 60) 6 0 = M 60 := by
          rw [hM60, sx60, pe_congr (f' := pf) (fun k k0 k1 => hpf k k0 k1) 6]; exact Or.inr hpe
        refine r_aload_n C dX8_shows_86 rfl ?_
        refine r_bipush C dX8_shows_87 (by decide) ?_
        refine r_bipush C dX8_shows_89 (by decide) ?_
        refine r_aload_n C dX8_shows_91 rfl ?_
        refine r_get C dX8_shows_92 flX8_70 hp1.o rfl ?_
        refine r_iadd C dX8_shows_95 (by omega) ?_
        refine r_cVv C dX8_shows_96 mlX8_89 kX8_copyText (n_copyText (a := 60) (b := 48 + pg) hp1 (by omega) (by omega) (by omega) (by omega) (by omega) (by omega) (by omega) hpe2) hp1.o rfl rfl rfl (Nat.le_of_ble_eq_true rfl) (fit hX (by decide)) ?_
        rintro h2 ⟨T2, S2, hp2, k2, c1, c2, c3, c4⟩
        rw [hM60] at hp2 c1 c3
        refine r_aload_n C dX8_shows_99 rfl ?_
        refine r_get C dX8_shows_100 flX8_16 hp2.o rfl ?_
        refine r_bipush C dX8_shows_103 (by decide) ?_
        refine r_iconst C dX8_shows_105 (by decide) ?_
        refine w_M C dX8_shows_106 hp2 (by omega) (by omega) (fun h3 hp3 k3 => ?_)
        refine r_aload_n C dX8_shows_107 rfl ?_
        refine r_get C dX8_shows_108 flX8_19 hp3.o rfl ?_
        refine r_aload_n C dX8_shows_111 rfl ?_
        refine r_get C dX8_shows_112 flX8_70 hp3.o rfl ?_
        refine r_bipush C dX8_shows_115 (by decide) ?_
        refine w_tL C dX8_shows_117 hp3 (by omega) (by omega) (fun h4 hp4 k4 => ?_)
        refine r_aload_n C dX8_shows_118 rfl ?_
        refine r_get C dX8_shows_119 flX8_22 hp4.o rfl ?_
        refine r_aload_n C dX8_shows_122 rfl ?_
        refine r_get C dX8_shows_123 flX8_70 hp4.o rfl ?_
        refine r_iload_n C dX8_shows_126 rfl ?_
        refine w_dU C dX8_shows_127 hp4 (by omega) (by omega) (fun h5 hp5 k5 => ?_)
        refine r_aload_n C dX8_shows_128 rfl ?_
        refine r_dup C dX8_shows_129 ?_
        refine r_get C dX8_shows_130 flX8_70 hp5.o rfl ?_
        refine r_iconst C dX8_shows_133 (by decide) ?_
        refine r_iadd C dX8_shows_134 (by omega) ?_
        refine w_pg C dX8_shows_135 hp5 (fun h6 hp6 k6 => ?_)
        refine r_aload_n C dX8_shows_138 rfl ?_
        refine r_iconst C dX8_shows_139 (by decide) ?_
        refine w_la C dX8_shows_140 hp6 (by omega) (fun h7 hp7 k7 => ?_)
        refine r_aload_n C dX8_shows_143 rfl ?_
        refine r_get C dX8_shows_144 flX8_70 hp7.o rfl ?_
        refine r_iconst C dX8_shows_147 (by decide) ?_
        refine r_isub C dX8_shows_148 (by omega) ?_
        have hb2 : BA vs pg (fu mn (48 + pg) pn) (fu tx (48 + pg) pf) tl du (fu M (48 + pg) pn) T2 tL dU := hba.slot (by omega) (by omega) hpn0 hpn1 (Or.inr hpe) (fun k k0 k1 => (c1 k k0 k1).trans (by rw [sx60]; exact hpf k k0 k1)) c2 (Or.inl (by omega))
        have hs2 := hsz.slot hba.m40 c3 c2 c4
        have hb3 : BA vs (pg + 1) (fu mn (48 + pg) pn) (fu tx (48 + pg) pf) (fu tl pg (-6)) (fu du pg d) (fu M (48 + pg) pn) T2 (fu tL pg (-6)) (fu dU pg d) := hb2.page (by omega) (fun p p0 p1 => fu_n (by omega)) (Or.inl ⟨rfl, fu_s, hdd.1, hdd.2, by rw [fu_s]; exact hpos⟩)
        exact r_iret C dX8_shows_149 (by decide) (by decide) ⟨_, rfl, by show pg + 1 - 1 = pg; omega, ⟨A, pd, us, gi, op, th, 0, lv, sl, T2, S2, fu (fu M (48 + pg) pn) 60 0, fu tL pg (-6), fu dU pg d, rs1, pA, pS, pH, bV, be, dO, hB, sA, nO, mI, mK, hp7, ⟨fu_s, by show (0 : Int) ≤ 0; omega, by show (0 : Int) ≤ 40; omega, fun k k0 k1 => absurd (show k < 0 from k1) (by omega)⟩, hb3.same (fun t t0 t1 => fu_n (by omega)) (fun _ _ _ => rfl) (fun _ _ _ => rfl) (fun _ _ _ => rfl), hs2.same hb2.m40 (fun t t0 t1 => fu_n (by omega)) (fun _ _ _ => rfl) (fun _ _ _ => rfl), Or.inl rfl, him⟩, (k1.mono (fun t q => by omega)).tr (k2.tr ((k3.mono (fun t q => by omega)).tr ((k4.mono (fun t q => by omega)).tr ((k5.mono (fun t q => by omega)).tr ((k6.mono (fun t q => by omega)).tr (k7.mono (fun t q => by omega)))))))⟩
      have hz := ih (i + 1) (by omega) (by omega) (by omega)
      refine r_iload_n C dX8_shows_41 rfl ?_
      refine r_if_ne (tgt := 60) C dX8_shows_42 (by decide) (fun hc42 => ?_) (fun hc42 => ?_)
      · have hx := zb_n0.mp hc42
        rw [zb_t (show hasX (i + 1) pf from by obtain ⟨q, q0, q1, q2⟩ := hx; exact ⟨q, q0, by omega, q2⟩)] at hz
        refine r_iconst C dX8_shows_60 (by decide) ?_
        refine r_goto (tgt := 65) C dX8_shows_61 (by decide) ?_
        refine r_istore_n C dX8_shows_65 (by decide) ?_
        refine r_iinc C dX8_shows_66 rfl (by decide) (by omega) ?_
        refine r_goto (tgt := 30) C dX8_shows_69 (by decide) ?_
        exact hz
      have hx := zb_0.mp hc42
      have hTi := hpf i g1 (by omega)
      refine r_aload_n C dX8_shows_45 rfl ?_
      refine r_get C dX8_shows_46 flX8_7 hp.o rfl ?_
      refine r_sipush C dX8_shows_49 (by decide) ?_
      refine r_iload_n C dX8_shows_52 rfl ?_
      refine r_iadd C dX8_shows_53 (by omega) ?_
      refine r_iald C dX8_shows_54 hp.aT (by omega) (by omega) ?_
      rw [hTi]
      refine r_bipush C dX8_shows_55 (by decide) ?_
      refine r_icmp_ne (tgt := 64) C dX8_shows_57 (by decide) (fun hc57 => ?_) (fun hc57 => ?_)
      · rw [zb_f (show ¬ hasX (i + 1) pf from fun ⟨q, q0, q1, q2⟩ => by
          rcases (show q < i ∨ q = i by omega) with q3 | rfl
          · exact hx ⟨q, q0, q3, q2⟩
          · exact hc57 q2)] at hz
        refine r_iconst C dX8_shows_64 (by decide) ?_
        refine r_istore_n C dX8_shows_65 (by decide) ?_
        refine r_iinc C dX8_shows_66 rfl (by decide) (by omega) ?_
        refine r_goto (tgt := 30) C dX8_shows_69 (by decide) ?_
        exact hz
      · rw [zb_t (show hasX (i + 1) pf from ⟨i, g1, by omega, hc57⟩)] at hz
        refine r_iconst C dX8_shows_60 (by decide) ?_
        refine r_goto (tgt := 65) C dX8_shows_61 (by decide) ?_
        refine r_istore_n C dX8_shows_65 (by decide) ?_
        refine r_iinc C dX8_shows_66 rfl (by decide) (by omega) ?_
        refine r_goto (tgt := 30) C dX8_shows_69 (by decide) ?_
        exact hz
  have hz := loop 41 0 (by omega) (by omega) (by omega)
  rw [zb_f (show ¬ hasX 0 pf from fun ⟨q, q0, q1, q2⟩ => by omega)] at hz
  refine r_iconst C dX8_shows_26 (by decide) ?_
  refine r_istore_n C dX8_shows_27 (by decide) ?_
  refine r_iconst C dX8_shows_28 (by decide) ?_
  refine r_istore_n C dX8_shows_29 (by decide) ?_
  exact hz
theorem N_page {p what : Int} (hm : RM h m pn pf vs pg mn tx tl du kp im) : Meets yX8_page cX8_page 4 (some .int) 10 0 0 [vR m, vI p, vI what] h (pI (aPage pg mn tx tl du p what) h) := by
  obtain ⟨A, pd, us, gi, op, th, la, lv, sl, T, S, M, tL, dU, rs, pA, pS, pH, bV, be, dO, hB, sA, nO, mI, mK, hp, hpt, hba, hsz, hld, him⟩ := id hm
  obtain ⟨⟨hv1, hv6, hp0, hp12⟩, -⟩ := id hba
  refine Meets.of (plainFor_of_name (by decide)) (Nat.le_of_ble_eq_true rfl) (fun X C hX hN hA => ?_)
  refine r_aload_n C dX8_page_0 rfl ?_
  refine r_iload_n C dX8_page_1 rfl ?_
  refine r_cVi C dX8_page_2 mlX8_73 kX8_isPage (n_isPage (p := p) hp (by omega)) hp.o rfl rfl rfl (Nat.le_of_ble_eq_true rfl) (fit hX (by decide)) ?_
  refine r_if_ne (tgt := 10) C dX8_page_5 (by decide) (fun hc5 => ?_) (fun hc5 => ?_)
  rotate_left
  · have hno := zb_0.mp hc5
    have hv : aPage pg mn tx tl du p what = -1 := if_pos (by omega)
    rw [hv]
    refine r_iconst C dX8_page_8 (by decide) ?_
    exact r_iret C dX8_page_9 (by decide) (by decide) ⟨rfl, rfl⟩
  have hpp := zb_n0.mp hc5
  have hv0 : aPage pg mn tx tl du p what = if what = 0 then tl p else if what = 1 then (if tl p = -6 then du p else -6) else if what = 2 then nmd (mn (48 + p)) (tx (48 + p)) else if what = 3 then mn (48 + p) else -2 := if_neg (by omega)
  rw [hv0]
  obtain ⟨b1, b2⟩ := hba.p (p := p) (by omega) (by omega)
  obtain ⟨a1, a2, a3, -, a5⟩ := hba.t (t := 48 + p) (by omega) (by omega)
  have go : ∀ (z3 : Int), (z3 = 0 → ¬ tl p = -6) → (¬ z3 = 0 → tl p = -6) → Go X (Qm X (pI (if what = 0 then tl p else if what = 1 then (if tl p = -6 then du p else -6) else if what = 2 then nmd (mn (48 + p)) (tx (48 + p)) else if what = 3 then mn (48 + p) else -2) h) 0 0) 0 0 h 25 [some (vR m), some (vI p), some (vI what), some (vI z3)] [] := by
    intro z3 z0 z1
    refine r_iload_n C dX8_page_25 rfl ?_
    refine r_if_ne (tgt := 38) C dX8_page_26 (by decide) (fun hc26 => ?_) (fun hc26 => ?_)
    rotate_left
    · rw [if_pos hc26]
      refine r_aload_n C dX8_page_29 rfl ?_
      refine r_get C dX8_page_30 flX8_19 hp.o rfl ?_
      refine r_iload_n C dX8_page_33 rfl ?_
      refine r_iald C dX8_page_34 hp.atL (by omega) (by omega) ?_
      refine r_goto (tgt := 93) C dX8_page_35 (by decide) ?_
      exact r_iret C dX8_page_93 (by decide) (by decide) ⟨some_I b1, rfl⟩
    rw [if_neg hc26]
    refine r_iload_n C dX8_page_38 rfl ?_
    refine r_iconst C dX8_page_39 (by decide) ?_
    refine r_icmp_ne (tgt := 61) C dX8_page_40 (by decide) (fun hc40 => ?_) (fun hc40 => ?_)
    rotate_left
    · rw [if_pos hc40]
      refine r_iload_n C dX8_page_43 rfl ?_
      refine r_if_eq (tgt := 56) C dX8_page_44 (by decide) (fun hc44 => ?_) (fun hc44 => ?_)
      · rw [if_neg (z0 hc44)]
        refine r_bipush C dX8_page_56 (by decide) ?_
        refine r_goto (tgt := 93) C dX8_page_58 (by decide) ?_
        exact r_iret C dX8_page_93 (by decide) (by decide) ⟨rfl, rfl⟩
      · rw [if_pos (z1 hc44)]
        have := z1 hc44
        refine r_aload_n C dX8_page_47 rfl ?_
        refine r_get C dX8_page_48 flX8_22 hp.o rfl ?_
        refine r_iload_n C dX8_page_51 rfl ?_
        refine r_iald C dX8_page_52 hp.adU (by omega) (by omega) ?_
        refine r_goto (tgt := 93) C dX8_page_53 (by decide) ?_
        exact r_iret C dX8_page_93 (by decide) (by decide) ⟨some_I (by omega), rfl⟩
    rw [if_neg hc40]
    refine r_iload_n C dX8_page_61 rfl ?_
    refine r_iconst C dX8_page_62 (by decide) ?_
    refine r_icmp_ne (tgt := 74) C dX8_page_63 (by decide) (fun hc63 => ?_) (fun hc63 => ?_)
    rotate_left
    · rw [if_pos hc63]
      refine r_aload_n C dX8_page_66 rfl ?_
      refine r_iload_n C dX8_page_67 rfl ?_
      refine r_cVi C dX8_page_68 mlX8_126 kX8_namedIn (n_namedIn (p := p) hp (by omega) (by omega) (by omega) (by omega)) hp.o rfl rfl rfl (Nat.le_of_ble_eq_true rfl) (fit hX (by decide)) ?_
      refine r_goto (tgt := 93) C dX8_page_71 (by decide) ?_
      exact r_iret C dX8_page_93 (by decide) (by decide) ⟨some_I (by rw [a1]; exact nmd_congr a5), rfl⟩
    rw [if_neg hc63]
    refine r_iload_n C dX8_page_74 rfl ?_
    refine r_iconst C dX8_page_75 (by decide) ?_
    refine r_icmp_ne (tgt := 91) C dX8_page_76 (by decide) (fun hc76 => ?_) (fun hc76 => ?_)
    rotate_left
    · rw [if_pos hc76]
      refine r_aload_n C dX8_page_79 rfl ?_
      refine r_get C dX8_page_80 flX8_16 hp.o rfl ?_
      refine r_bipush C dX8_page_83 (by decide) ?_
      refine r_iload_n C dX8_page_85 rfl ?_
      refine r_iadd C dX8_page_86 (by omega) ?_
      refine r_iald C dX8_page_87 hp.aM (by omega) (by omega) ?_
      refine r_goto (tgt := 93) C dX8_page_88 (by decide) ?_
      exact r_iret C dX8_page_93 (by decide) (by decide) ⟨some_I a1, rfl⟩
    rw [if_neg hc76]
    refine r_bipush C dX8_page_91 (by decide) ?_
    exact r_iret C dX8_page_93 (by decide) (by decide) ⟨rfl, rfl⟩
  refine r_aload_n C dX8_page_10 rfl ?_
  refine r_get C dX8_page_11 flX8_19 hp.o rfl ?_
  refine r_iload_n C dX8_page_14 rfl ?_
  refine r_iald C dX8_page_15 hp.atL (by omega) (by omega) ?_
  rw [b1]
  refine r_if_ge (tgt := 23) C dX8_page_16 (by decide) (fun hc16 => ?_) (fun hc16 => ?_)
  · refine r_iconst C dX8_page_23 (by decide) ?_
    refine r_istore_n C dX8_page_24 (by decide) ?_
    exact go 0 (fun _ => by omega) (fun q => absurd rfl q)
  · refine r_iconst C dX8_page_19 (by decide) ?_
    refine r_goto (tgt := 24) C dX8_page_20 (by decide) ?_
    refine r_istore_n C dX8_page_24 (by decide) ?_
    exact go 1 (fun q => by omega) (fun _ => by omega)
end
