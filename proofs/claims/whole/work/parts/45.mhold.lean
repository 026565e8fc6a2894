/-! the model: what examples come to -/
theorem zb_congr {p q : Prop} (h : p ↔ q) : zb p = zb q := by rw [propext h]
theorem GT.congr {M T S T' : Int → Int} {t : Int} (hg : GT M T S t) (h : ∀ k, 0 ≤ k → k < M t → nd (sx T' t k) = nd (sx T t k)) : GT M T' S t := by
  obtain ⟨g1, g2, g3, g4⟩ := hg
  exact ⟨g1, g2, by rw [pe_nd h 6]; exact g3, g4.congr h (fun _ _ _ => rfl)⟩
section
variable {h : Pic} {m : Nat} {A : Nat → Nat} {vs pg pd us gi op th la lv sl : Int} {T S M tL dU rs pA pS pH bV be dO hB sA nO mI mK : Int → Int}
theorem n_holds {p n d : Int} {f wn : Int → Int} {wt : Int → Int → Int} (hp : MP h m A vs pg pd us gi op th la lv sl T S M tL dU rs pA pS pH bV be dO hB sA nO mI mK) (hp0 : 0 ≤ p) (hp1 : p < 12) (hgt : GT M T S (48 + p)) (hw : ∀ w, 0 ≤ w → w < 8 → 0 ≤ bV w ∧ bV w ≤ 5 ∧ (M (8 * bV w + w) = 0 ∨ GT M T S (8 * bV w + w)) ∧ M (8 * bV w + w) = wn w ∧ ∀ k, 0 ≤ k → k < wn w → sx T (8 * bV w + w) k = wt w k) (hn : M (48 + p) = n) (hf : ∀ k, 0 ≤ k → k < n → sx T (48 + p) k = f k) (hd : dU p = d) :
    Meets yX8_holds cX8_holds 2 (some .boolean) 4 0 0 [vR m, vI p] h (pX (fun z h' => z = zb ((evT wn wt n f 0).1 = d) ∧ (∃ pd us gi op pA pS pH, MP h' m A vs pg pd us gi op th la lv sl T S M tL dU rs pA pS pH bV be dO hB sA nO mI mK) ∧ Kp SM h h')) := by
  refine Meets.of (plainFor_of_name (by decide)) (Nat.le_of_ble_eq_true rfl) (fun X C hX hN hA => ?_)
  refine r_aload_n C dX8_holds_0 rfl ?_
  refine r_bipush C dX8_holds_1 (by decide) ?_
  refine r_iload_n C dX8_holds_3 rfl ?_
  refine r_iadd C dX8_holds_4 (by omega) ?_
  refine r_iconst C dX8_holds_5 (by decide) ?_
  refine r_cVx C dX8_holds_6 mlX8_122 kX8_comeTo (n_come (t := 48 + p) (x := 0) (n := n) (f := f) (wn := wn) (wt := wt) hp (by omega) (by omega) hgt (by omega) (by omega) hw hn hf) hp.o rfl rfl rfl (Nat.le_of_ble_eq_true rfl) (fit hX (by decide)) ?_
  rintro z h1 ⟨hz, pd1, gi1, op1, pA1, pS1, pH1, hp1', k1⟩
  refine r_aload_n C dX8_holds_9 rfl ?_
  refine r_get C dX8_holds_10 flX8_22 hp1'.o rfl ?_
  refine r_iload_n C dX8_holds_13 rfl ?_
  refine r_iald C dX8_holds_14 hp1'.adU (by omega) (by omega) ?_
  rw [hd]
  refine r_icmp_ne (tgt := 22) C dX8_holds_15 (by decide) (fun hc15 => ?_) (fun hc15 => ?_)
  · refine r_iconst C dX8_holds_22 (by decide) ?_
    exact r_zret C dX8_holds_23 (by omega) (by decide) (by decide) ⟨_, rfl, (zb_f (by rw [← hz]; exact hc15)).symm, ⟨_, _, _, _, _, _, _, hp1'⟩, k1⟩
  · refine r_iconst C dX8_holds_18 (by decide) ?_
    refine r_goto (tgt := 23) C dX8_holds_19 (by decide) ?_
    exact r_zret C dX8_holds_23 (by omega) (by decide) (by decide) ⟨_, rfl, (zb_t (by rw [← hz]; exact hc15)).symm, ⟨_, _, _, _, _, _, _, hp1'⟩, k1⟩
variable {mn : Int → Int} {tx : Int → Int → Int} {tl du : Int → Int}
theorem n_wds {v : Int} (hba : BA vs pg mn tx tl du M T tL dU) (hsz : SZA M T S) (hv0 : 0 ≤ v) (hv1 : v < vs) (hbv : ∀ w, 0 ≤ w → w < 8 → bV w = v) : ∀ w, 0 ≤ w → w < 8 → 0 ≤ bV w ∧ bV w ≤ 5 ∧ (M (8 * bV w + w) = 0 ∨ GT M T S (8 * bV w + w)) ∧ M (8 * bV w + w) = mn (8 * v + w) ∧ ∀ k, 0 ≤ k → k < mn (8 * v + w) → sx T (8 * bV w + w) k = tx (8 * v + w) k := fun w w0 w1 => by
  have := hba.1
  rw [hbv w w0 w1]
  obtain ⟨a1, -, -, -, a5⟩ := hba.t (t := 8 * v + w) (by omega) (by omega)
  exact ⟨by omega, by omega, hba.gt hsz (by omega) (by omega), a1, a5⟩
theorem n_pgt {p : Int} (hba : BA vs pg mn tx tl du M T tL dU) (hsz : SZA M T S) (hp0 : 0 ≤ p) (hp1 : p < pg) (hex : tl p = -6) : GT M T S (48 + p) ∧ M (48 + p) = mn (48 + p) ∧ (∀ k, 0 ≤ k → k < mn (48 + p) → sx T (48 + p) k = tx (48 + p) k) ∧ dU p = du p ∧ 0 ≤ du p ∧ du p ≤ 999 := by
  have := hba.1
  obtain ⟨a1, -, -, -, a5⟩ := hba.t (t := 48 + p) (by omega) (by omega)
  obtain ⟨b1, b2⟩ := hba.p hp0 hp1
  rcases b2 with b2 | b2
  · exact ⟨(hba.gt hsz (by omega) (by omega)).resolve_left (by omega), a1, a5, b2.2.1, b2.2.2.1, b2.2.2.2.1⟩
  · omega
theorem n_comeV {p v : Int} (hp : MP h m A vs pg pd us gi op th la lv sl T S M tL dU rs pA pS pH bV be dO hB sA nO mI mK) (hba : BA vs pg mn tx tl du M T tL dU) (hsz : SZA M T S) (hp0 : 0 ≤ p) (hp1 : p < pg) (hex : tl p = -6) (hv0 : 0 ≤ v) (hv1 : v < vs) (hbv : ∀ w, 0 ≤ w → w < 8 → bV w = v) :
    Meets yX8_comeTo cX8_comeTo 13 (some .int) 3 0 0 [vR m, vI (48 + p), vI 0] h (pX (fun z h' => z = (evV mn tx v p).1 ∧ (∃ pd' gi' op' pA' pS' pH', MP h' m A vs pg pd' ((evV mn tx v p).2.2) gi' op' th la lv sl T S M tL dU rs pA' pS' pH' bV be dO hB sA nO mI mK) ∧ Kp SM h h')) := by
  have := hba.1
  obtain ⟨c1, c2, c3, -⟩ := n_pgt hba hsz hp0 hp1 hex
  refine Meets.mono (n_come (t := 48 + p) (x := 0) hp (by omega) (by omega) c1 (by omega) (by omega) (n_wds hba hsz hv0 hv1 hbv) c2 c3) (fun r h' q => ?_)
  obtain ⟨z, rfl, hz, pd1, gi1, op1, pA1, pS1, pH1, hp1', k1⟩ := q
  exact ⟨z, rfl, hz, ⟨pd1, gi1, op1, pA1, pS1, pH1, hp1'⟩, k1⟩
theorem n_holdsV {p v : Int} (hp : MP h m A vs pg pd us gi op th la lv sl T S M tL dU rs pA pS pH bV be dO hB sA nO mI mK) (hba : BA vs pg mn tx tl du M T tL dU) (hsz : SZA M T S) (hp0 : 0 ≤ p) (hp1 : p < pg) (hex : tl p = -6) (hv0 : 0 ≤ v) (hv1 : v < vs) (hbv : ∀ w, 0 ≤ w → w < 8 → bV w = v) :
    Meets yX8_holds cX8_holds 2 (some .boolean) 4 0 0 [vR m, vI p] h (pX (fun z h' => z = zb (hold mn tx tl du v p) ∧ (∃ pd us gi op pA pS pH, MP h' m A vs pg pd us gi op th la lv sl T S M tL dU rs pA pS pH bV be dO hB sA nO mI mK) ∧ Kp SM h h')) := by
  have := hba.1
  obtain ⟨c1, c2, c3, c4, -⟩ := n_pgt hba hsz hp0 hp1 hex
  refine Meets.mono (n_holds hp hp0 (by omega) c1 (n_wds hba hsz hv0 hv1 hbv) c2 c3 c4) (fun r h' q => ?_)
  obtain ⟨z, rfl, hz, q⟩ := q
  exact ⟨z, rfl, hz.trans (zb_congr ⟨fun z => ⟨hex, z⟩, fun z => z.2⟩), q⟩
theorem n_holdsIn {p v : Int} (hp : MP h m A vs pg pd us gi op th la lv sl T S M tL dU rs pA pS pH bV be dO hB sA nO mI mK) (hba : BA vs pg mn tx tl du M T tL dU) (hsz : SZA M T S) (hp0 : 0 ≤ p) (hp1 : p < pg) (hex : tl p = -6) (hv0 : 0 ≤ v) (hv1 : v < vs) :
    Meets yX8_holdsIn cX8_holdsIn 3 (some .boolean) 5 0 0 [vR m, vI p, vI v] h (pX (fun z h' => z = zb (hold mn tx tl du v p) ∧ (∃ pd us gi op pA pS pH bV, MP h' m A vs pg pd us gi op th la lv sl T S M tL dU rs pA pS pH bV be dO hB sA nO mI mK) ∧ Kp SM h h')) := by
  refine Meets.of (plainFor_of_name (by decide)) (Nat.le_of_ble_eq_true rfl) (fun X C hX hN hA => ?_)
  refine r_aload_n C dX8_holdsIn_0 rfl ?_
  refine r_iload_n C dX8_holdsIn_1 rfl ?_
  refine r_cVv C dX8_holdsIn_2 mlX8_119 kX8_byVersion (n_byVersion (v := v) hp) hp.o rfl rfl rfl (Nat.le_of_ble_eq_true rfl) (fit hX (by decide)) ?_
  rintro h1 ⟨bV1, hp1', k1, hb1⟩
  refine r_aload_n C dX8_holdsIn_5 rfl ?_
  refine r_iload_n C dX8_holdsIn_6 rfl ?_
  refine r_cVx C dX8_holdsIn_7 mlX8_129 kX8_holds (n_holdsV (p := p) (v := v) hp1' hba hsz hp0 hp1 hex hv0 hv1 hb1) hp1'.o rfl rfl rfl (Nat.le_of_ble_eq_true rfl) (fit hX (by decide)) ?_
  rintro z h2 ⟨rfl, ⟨pd2, us2, gi2, op2, pA2, pS2, pH2, hp2⟩, k2⟩
  exact r_zret C dX8_holdsIn_10 (zb_01 _) (by decide) (by decide) ⟨_, rfl, rfl, ⟨_, _, _, _, _, _, _, _, hp2⟩, (k1.mono (fun t q => by omega)).tr k2⟩
theorem BA.ex {p : Int} (hba : BA vs pg mn tx tl du M T tL dU) : (0 ≤ p ∧ p < pg ∧ tL p < 0) ↔ (0 ≤ p ∧ p < pg ∧ tl p = -6) := by
  refine ⟨fun q => ?_, fun q => ?_⟩
  · obtain ⟨b1, b2⟩ := hba.p q.1 q.2.1
    exact ⟨q.1, q.2.1, by omega⟩
  · obtain ⟨b1, b2⟩ := hba.p q.1 q.2.1
    exact ⟨q.1, q.2.1, by omega⟩
theorem BA.due {p d : Int} (hba : BA vs pg mn tx tl du M T tL dU) (hp0 : 0 ≤ p) (hp1 : p < pg) (hex : tl p = -6) (h0 : 0 ≤ d) (h1 : d ≤ 999) : BA vs pg mn tx tl (fu du p d) M T tL (fu dU p d) := by
  obtain ⟨hv, ht, hp⟩ := hba
  refine ⟨hv, ht, fun q q0 q1 => ?_⟩
  obtain ⟨b1, b2⟩ := hp q q0 q1
  by_cases e : q = p
  · rw [e] at b1 b2 ⊢
    rw [fu_s, fu_s]
    rcases b2 with b2 | b2
    · exact ⟨b1, Or.inl ⟨hex, rfl, h0, h1, b2.2.2.2.2⟩⟩
    · omega
  · rw [fu_n e, fu_n e]
    exact ⟨b1, b2⟩
end
section
variable {h : Pic} {m : Nat} {pn : Int} {pf : Int → Int} {vs pg : Int} {mn : Int → Int} {tx : Int → Int → Int} {tl du kp : Int → Int} {im : Int → Bs}
theorem N_held {p v what : Int} (hm : RM h m pn pf vs pg mn tx tl du kp im) : Meets yX8_held cX8_held 5 (some .int) 10 0 0 [vR m, vI p, vI v, vI what] h (pX (fun z h' => z = aHeld vs pg mn tx tl du p v what ∧ RM h' m pn pf vs pg mn tx tl du kp im ∧ Kp SM h h')) := by
  obtain ⟨A, pd, us, gi, op, th, la, lv, sl, T, S, M, tL, dU, rs, pA, pS, pH, bV, be, dO, hB, sA, nO, mI, mK, hp, hpt, hba, hsz, hld, him⟩ := id hm
  obtain ⟨⟨hv1, hv6, hp0, hp12⟩, -⟩ := id hba
  refine Meets.of (plainFor_of_name (by decide)) (Nat.le_of_ble_eq_true rfl) (fun X C hX hN hA => ?_)
  refine r_aload_n C dX8_held_0 rfl ?_
  refine r_iload_n C dX8_held_1 rfl ?_
  refine r_cVi C dX8_held_2 mlX8_132 kX8_isExample (n_isExample (p := p) hp (by omega)) hp.o rfl rfl rfl (Nat.le_of_ble_eq_true rfl) (fit hX (by decide)) ?_
  refine r_if_eq (tgt := 16) C dX8_held_5 (by decide) (fun hc5 => ?_) (fun hc5 => ?_)
  · have hno := (not_congr hba.ex).mp (zb_0.mp hc5)
    have hv : aHeld vs pg mn tx tl du p v what = -1 := by unfold aHeld; exact if_pos (by omega)
    rw [hv]
    refine r_iconst C dX8_held_16 (by decide) ?_
    exact r_iret C dX8_held_17 (by decide) (by decide) ⟨_, rfl, rfl, hm, Kp.rf⟩
  obtain ⟨x0, x1, x2⟩ := hba.ex.mp (zb_n0.mp hc5)
  refine r_aload_n C dX8_held_8 rfl ?_
  refine r_iload_n C dX8_held_9 rfl ?_
  refine r_cVi C dX8_held_10 mlX8_100 kX8_isVersion (n_isVersion (v := v) hp (by omega)) hp.o rfl rfl rfl (Nat.le_of_ble_eq_true rfl) (fit hX (by decide)) ?_
  refine r_if_ne (tgt := 18) C dX8_held_13 (by decide) (fun hc13 => ?_) (fun hc13 => ?_)
  rotate_left
  · have hno := zb_0.mp hc13
    have hv : aHeld vs pg mn tx tl du p v what = -1 := by unfold aHeld; exact if_pos (by omega)
    rw [hv]
    refine r_iconst C dX8_held_16 (by decide) ?_
    exact r_iret C dX8_held_17 (by decide) (by decide) ⟨_, rfl, rfl, hm, Kp.rf⟩
  have hvv := zb_n0.mp hc13
  have hv0 : aHeld vs pg mn tx tl du p v what = if what = 0 then (evV mn tx v p).1 else if what = 1 then zb (hold mn tx tl du v p) else if what = 2 then (evV mn tx v p).2.2 else -2 := by unfold aHeld; exact if_neg (by omega)
  rw [hv0]
  refine r_iload_n C dX8_held_18 rfl ?_
  refine r_iconst C dX8_held_19 (by decide) ?_
  refine r_iconst C dX8_held_20 (by decide) ?_
  refine r_cSi C dX8_held_21 mlX8_66 kX8_in (n_in (v := what) (lo := 0) (hi := 2)) rfl rfl (Nat.le_of_ble_eq_true rfl) (fit hX (by decide)) ?_
  refine r_if_ne (tgt := 30) C dX8_held_24 (by decide) (fun hc24 => ?_) (fun hc24 => ?_)
  rotate_left
  · have hno := zb_0.mp hc24
    refine r_bipush C dX8_held_27 (by decide) ?_
    exact r_iret C dX8_held_29 (by decide) (by decide) ⟨_, rfl, by rw [if_neg (by omega), if_neg (by omega), if_neg (by omega)], hm, Kp.rf⟩
  have hwh := zb_n0.mp hc24
  refine r_aload_n C dX8_held_30 rfl ?_
  refine r_iload_n C dX8_held_31 rfl ?_
  refine r_cVv C dX8_held_32 mlX8_119 kX8_byVersion (n_byVersion (v := v) hp) hp.o rfl rfl rfl (Nat.le_of_ble_eq_true rfl) (fit hX (by decide)) ?_
  rintro h1 ⟨bV1, hp1, k1, hb1⟩
  refine r_aload_n C dX8_held_35 rfl ?_
  refine r_bipush C dX8_held_36 (by decide) ?_
  refine r_iload_n C dX8_held_38 rfl ?_
  refine r_iadd C dX8_held_39 (by omega) ?_
  refine r_iconst C dX8_held_40 (by decide) ?_
  refine r_cVx C dX8_held_41 mlX8_122 kX8_comeTo (n_comeV (p := p) (v := v) hp1 hba hsz x0 x1 x2 (by omega) (by omega) hb1) hp1.o rfl rfl rfl (Nat.le_of_ble_eq_true rfl) (fit hX (by decide)) ?_
  rintro z h2 ⟨hz, ⟨pd2, gi2, op2, pA2, pS2, pH2, hp2⟩, k2⟩
  have hM : RM h2 m pn pf vs pg mn tx tl du kp im := ⟨A, pd2, _, gi2, op2, th, la, lv, sl, T, S, M, tL, dU, rs, pA2, pS2, pH2, bV1, be, dO, hB, sA, nO, mI, mK, hp2, hpt, hba, hsz, hld, him⟩
  have hK : Kp SM h h2 := (k1.mono (fun t q => by omega)).tr k2
  refine r_istore C dX8_held_44 (by decide) ?_
  refine r_iload_n C dX8_held_46 rfl ?_
  refine r_if_ne (tgt := 55) C dX8_held_47 (by decide) (fun hc47 => ?_) (fun hc47 => ?_)
  rotate_left
  · rw [if_pos hc47]
    refine r_iload C dX8_held_50 rfl ?_
    refine r_goto (tgt := 83) C dX8_held_52 (by decide) ?_
    exact r_iret C dX8_held_83 (by decide) (by decide) ⟨_, rfl, hz, hM, hK⟩
  rw [if_neg hc47]
  obtain ⟨-, -, -, c4, -⟩ := n_pgt hba hsz x0 x1 x2
  refine r_iload_n C dX8_held_55 rfl ?_
  refine r_iconst C dX8_held_56 (by decide) ?_
  refine r_icmp_ne (tgt := 79) C dX8_held_57 (by decide) (fun hc57 => ?_) (fun hc57 => ?_)
  rotate_left
  · rw [if_pos hc57]
    refine r_iload C dX8_held_60 rfl ?_
    refine r_aload_n C dX8_held_62 rfl ?_
    refine r_get C dX8_held_63 flX8_22 hp2.o rfl ?_
    refine r_iload_n C dX8_held_66 rfl ?_
    refine r_iald C dX8_held_67 hp2.adU (by omega) (by omega) ?_
    rw [c4]
    refine r_icmp_ne (tgt := 75) C dX8_held_68 (by decide) (fun hc68 => ?_) (fun hc68 => ?_)
    · refine r_iconst C dX8_held_75 (by decide) ?_
      refine r_goto (tgt := 83) C dX8_held_76 (by decide) ?_
      exact r_iret C dX8_held_83 (by decide) (by decide) ⟨_, rfl, (zb_f (fun q => hc68 (hz.trans q.2))).symm, hM, hK⟩
    · refine r_iconst C dX8_held_71 (by decide) ?_
      refine r_goto (tgt := 83) C dX8_held_72 (by decide) ?_
      exact r_iret C dX8_held_83 (by decide) (by decide) ⟨_, rfl, (zb_t ⟨x2, hz.symm.trans hc68⟩).symm, hM, hK⟩
  rw [if_neg hc57, if_pos (by omega)]
  refine r_aload_n C dX8_held_79 rfl ?_
  refine r_get C dX8_held_80 flX8_106 hp2.o rfl ?_
  exact r_iret C dX8_held_83 (by decide) (by decide) ⟨_, rfl, rfl, hM, hK⟩
theorem N_stale {p : Int} (hm : RM h m pn pf vs pg mn tx tl du kp im) : Meets yX8_stale cX8_stale 5 (some .int) 10 0 0 [vR m, vI p] h (pX (fun z h' => z = aStale vs pg mn tx tl du p ∧ RM h' m pn pf vs pg mn tx tl du kp im ∧ Kp SM h h')) := by
  obtain ⟨A, pd, us, gi, op, th, la, lv, sl, T, S, M, tL, dU, rs, pA, pS, pH, bV, be, dO, hB, sA, nO, mI, mK, hp, hpt, hba, hsz, hld, him⟩ := id hm
  obtain ⟨⟨hv1, hv6, hp0, hp12⟩, -⟩ := id hba
  refine Meets.of (plainFor_of_name (by decide)) (Nat.le_of_ble_eq_true rfl) (fun X C hX hN hA => ?_)
  refine r_aload_n C dX8_stale_0 rfl ?_
  refine r_iload_n C dX8_stale_1 rfl ?_
  refine r_cVi C dX8_stale_2 mlX8_132 kX8_isExample (n_isExample (p := p) hp (by omega)) hp.o rfl rfl rfl (Nat.le_of_ble_eq_true rfl) (fit hX (by decide)) ?_
  refine r_if_ne (tgt := 10) C dX8_stale_5 (by decide) (fun hc5 => ?_) (fun hc5 => ?_)
  rotate_left
  · have hno := (not_congr hba.ex).mp (zb_0.mp hc5)
    have hv : aStale vs pg mn tx tl du p = -1 := by unfold aStale; exact if_pos hno
    rw [hv]
    refine r_iconst C dX8_stale_8 (by decide) ?_
    exact r_iret C dX8_stale_9 (by decide) (by decide) ⟨_, rfl, rfl, hm, Kp.rf⟩
  obtain ⟨x0, x1, x2⟩ := hba.ex.mp (zb_n0.mp hc5)
  have hv0 : aStale vs pg mn tx tl du p = stN (fun v => hold mn tx tl du v p) vs 7 0 0 := by unfold aStale; exact if_neg (fun q => q ⟨x0, x1, x2⟩)
  rw [hv0]
  generalize hR : stN (fun v => hold mn tx tl du v p) vs 7 0 0 = R
  have loop : ∀ (j : Nat) (i had : Int) (h' : Pic) (o4 : Option Va), 0 ≤ i → i ≤ vs → vs - i < j → (had = 0 ∨ had = 1) → stN (fun v => hold mn tx tl du v p) vs j i had = R → (∃ pd us gi op pA pS pH bV, MP h' m A vs pg pd us gi op th la lv sl T S M tL dU rs pA pS pH bV be dO hB sA nO mI mK) → Kp SM h h' → Go X (Qm X (pX (fun z h' => z = R ∧ RM h' m pn pf vs pg mn tx tl du kp im ∧ Kp SM h h')) 0 0) 0 0 h' 14 [some (vR m), some (vI p), some (vI had), some (vI i), o4] [] := by
    intro j
    induction j with
    | zero => intro i had h' o4 g1 g2 g3; exact absurd g3 (by omega)
    | succ j ih =>
      intro i had h' o4 g1 g2 g3 g4 g5 g6 k'
      obtain ⟨pd', us', gi', op', pA', pS', pH', bV', hp'⟩ := g6
      refine r_iload_n C dX8_stale_14 rfl ?_
      refine r_aload_n C dX8_stale_15 rfl ?_
      refine r_get C dX8_stale_16 flX8_62 hp'.o rfl ?_
      refine r_icmp_ge (tgt := 62) C dX8_stale_19 (by decide) (fun hc19 => ?_) (fun hc19 => ?_)
      · rw [stN_e hc19] at g5
        refine r_bipush C dX8_stale_62 (by decide) ?_
        exact r_iret C dX8_stale_64 (by decide) (by decide) ⟨_, rfl, g5, ⟨A, pd', us', gi', op', th, la, lv, sl, T, S, M, tL, dU, rs, pA', pS', pH', bV', be, dO, hB, sA, nO, mI, mK, hp', hpt, hba, hsz, hld, him⟩, k'⟩
      refine r_aload_n C dX8_stale_22 rfl ?_
      refine r_iload_n C dX8_stale_23 rfl ?_
      refine r_iload_n C dX8_stale_24 rfl ?_
      refine r_cVx C dX8_stale_25 mlX8_135 kX8_holdsIn (n_holdsIn (p := p) (v := i) hp' hba hsz x0 x1 x2 g1 hc19) hp'.o rfl rfl rfl (Nat.le_of_ble_eq_true rfl) (fit hX (by decide)) ?_
      rintro z h2 ⟨hz, g7, k2⟩
      obtain ⟨pd2, us2, gi2, op2, pA2, pS2, pH2, bV2, hp2⟩ := id g7
      have hM : RM h2 m pn pf vs pg mn tx tl du kp im := ⟨A, pd2, us2, gi2, op2, th, la, lv, sl, T, S, M, tL, dU, rs, pA2, pS2, pH2, bV2, be, dO, hB, sA, nO, mI, mK, hp2, hpt, hba, hsz, hld, him⟩
      have hzr := zb_01 (hold mn tx tl du i p)
      have hnext : ¬ (¬ had = 0 ∧ ¬ hold mn tx tl du i p) → Go X (Qm X (pX (fun z h' => z = R ∧ RM h' m pn pf vs pg mn tx tl du kp im ∧ Kp SM h h')) 0 0) 0 0 h2 14 [some (vR m), some (vI p), some (vI z), some (vI (i + 1)), some (vI z)] [] := by
        intro hn
        rw [stN_n (H := fun v => hold mn tx tl du v p) (vs := vs) (i := i) (by omega) hn, ← hz] at g5
        exact ih (i + 1) z h2 _ (by omega) (by omega) (by omega) (by omega) g5 g7 (k'.tr k2)
      refine r_istore C dX8_stale_28 (by decide) ?_
      refine r_iload_n C dX8_stale_30 rfl ?_
      refine r_if_eq (tgt := 41) C dX8_stale_31 (by decide) (fun hc31 => ?_) (fun hc31 => ?_)
      · have hnx := hnext (fun q => q.1 hc31)
        refine r_iload_n C dX8_stale_41 rfl ?_
        refine r_if_ne (tgt := 50) C dX8_stale_42 (by decide) (fun hc42 => ?_) (fun hc42 => ?_)
        · exact absurd hc31 hc42
        refine r_iload C dX8_stale_45 rfl ?_
        refine r_if_eq (tgt := 54) C dX8_stale_47 (by decide) (fun hc47 => ?_) (fun hc47 => ?_)
        · rw [hc47] at hnx ⊢
          refine r_iconst C dX8_stale_54 (by decide) ?_
          refine r_istore_n C dX8_stale_55 (by decide) ?_
          refine r_iinc C dX8_stale_56 rfl (by decide) (by omega) ?_
          refine r_goto (tgt := 14) C dX8_stale_59 (by decide) ?_
          exact hnx
        · have hz1 : z = 1 := by omega
          rw [hz1] at hnx ⊢
          refine r_iconst C dX8_stale_50 (by decide) ?_
          refine r_goto (tgt := 55) C dX8_stale_51 (by decide) ?_
          refine r_istore_n C dX8_stale_55 (by decide) ?_
          refine r_iinc C dX8_stale_56 rfl (by decide) (by omega) ?_
          refine r_goto (tgt := 14) C dX8_stale_59 (by decide) ?_
          exact hnx
      refine r_iload C dX8_stale_34 rfl ?_
      refine r_if_ne (tgt := 41) C dX8_stale_36 (by decide) (fun hc36 => ?_) (fun hc36 => ?_)
      · have hh : hold mn tx tl du i p := by rw [hz] at hc36; exact zb_n0.mp hc36
        have hnx := hnext (fun q => q.2 hh)
        have hz1 : z = 1 := by omega
        rw [hz1] at hnx ⊢
        refine r_iload_n C dX8_stale_41 rfl ?_
        refine r_if_ne (tgt := 50) C dX8_stale_42 (by decide) (fun hc42 => ?_) (fun hc42 => ?_)
        · refine r_iconst C dX8_stale_50 (by decide) ?_
          refine r_goto (tgt := 55) C dX8_stale_51 (by decide) ?_
          refine r_istore_n C dX8_stale_55 (by decide) ?_
          refine r_iinc C dX8_stale_56 rfl (by decide) (by omega) ?_
          refine r_goto (tgt := 14) C dX8_stale_59 (by decide) ?_
          exact hnx
        · exact absurd hc42 hc31
      · have hh : ¬ hold mn tx tl du i p := by rw [hz] at hc36; exact zb_0.mp hc36
        rw [stN_r (H := fun v => hold mn tx tl du v p) (vs := vs) (i := i) (by omega) ⟨hc31, hh⟩] at g5
        refine r_iload_n C dX8_stale_39 rfl ?_
        exact r_iret C dX8_stale_40 (by decide) (by decide) ⟨_, rfl, g5, hM, k'.tr k2⟩
  refine r_iconst C dX8_stale_10 (by decide) ?_
  refine r_istore_n C dX8_stale_11 (by decide) ?_
  refine r_iconst C dX8_stale_12 (by decide) ?_
  refine r_istore_n C dX8_stale_13 (by decide) ?_
  exact loop 7 0 0 h none (by omega) (by omega) (by omega) (Or.inl rfl) hR ⟨_, _, _, _, _, _, _, _, hp⟩ Kp.rf
theorem N_mend {p v : Int} (hm : RM h m pn pf vs pg mn tx tl du kp im) : Meets yX8_mend cX8_mend 5 (some .int) 10 0 0 [vR m, vI p, vI v] h (pX (fun z h' => z = (aMend vs pg mn tx tl du p v).1 ∧ RM h' m pn pf vs pg mn tx tl (aMend vs pg mn tx tl du p v).2 kp im ∧ Kp SM h h')) := by
  obtain ⟨A, pd, us, gi, op, th, la, lv, sl, T, S, M, tL, dU, rs, pA, pS, pH, bV, be, dO, hB, sA, nO, mI, mK, hp, hpt, hba, hsz, hld, him⟩ := id hm
  obtain ⟨⟨hv1, hv6, hp0, hp12⟩, -⟩ := id hba
  refine Meets.of (plainFor_of_name (by decide)) (Nat.le_of_ble_eq_true rfl) (fun X C hX hN hA => ?_)
  refine r_aload_n C dX8_mend_0 rfl ?_
  refine r_iload_n C dX8_mend_1 rfl ?_
  refine r_cVi C dX8_mend_2 mlX8_132 kX8_isExample (n_isExample (p := p) hp (by omega)) hp.o rfl rfl rfl (Nat.le_of_ble_eq_true rfl) (fit hX (by decide)) ?_
  refine r_if_eq (tgt := 16) C dX8_mend_5 (by decide) (fun hc5 => ?_) (fun hc5 => ?_)
  · have hno := (not_congr hba.ex).mp (zb_0.mp hc5)
    have hv : aMend vs pg mn tx tl du p v = (-1, du) := if_pos (by omega)
    rw [hv]
    refine r_iconst C dX8_mend_16 (by decide) ?_
    exact r_iret C dX8_mend_17 (by decide) (by decide) ⟨_, rfl, rfl, hm, Kp.rf⟩
  obtain ⟨x0, x1, x2⟩ := hba.ex.mp (zb_n0.mp hc5)
  refine r_aload_n C dX8_mend_8 rfl ?_
  refine r_iload_n C dX8_mend_9 rfl ?_
  refine r_cVi C dX8_mend_10 mlX8_100 kX8_isVersion (n_isVersion (v := v) hp (by omega)) hp.o rfl rfl rfl (Nat.le_of_ble_eq_true rfl) (fit hX (by decide)) ?_
  refine r_if_ne (tgt := 18) C dX8_mend_13 (by decide) (fun hc13 => ?_) (fun hc13 => ?_)
  rotate_left
  · have hno := zb_0.mp hc13
    have hv : aMend vs pg mn tx tl du p v = (-1, du) := if_pos (by omega)
    rw [hv]
    refine r_iconst C dX8_mend_16 (by decide) ?_
    exact r_iret C dX8_mend_17 (by decide) (by decide) ⟨_, rfl, rfl, hm, Kp.rf⟩
  have hvv := zb_n0.mp hc13
  have hrg := evV_rng hba.IB (show okPV vs pg tl p v from ⟨x0, x1, x2, hvv.1, by omega⟩)
  obtain ⟨-, -, -, c4, -⟩ := n_pgt hba hsz x0 x1 x2
  refine r_aload_n C dX8_mend_18 rfl ?_
  refine r_iload_n C dX8_mend_19 rfl ?_
  refine r_cVv C dX8_mend_20 mlX8_119 kX8_byVersion (n_byVersion (v := v) hp) hp.o rfl rfl rfl (Nat.le_of_ble_eq_true rfl) (fit hX (by decide)) ?_
  rintro h1 ⟨bV1, hp1, k1, hb1⟩
  refine r_aload_n C dX8_mend_23 rfl ?_
  refine r_bipush C dX8_mend_24 (by decide) ?_
  refine r_iload_n C dX8_mend_26 rfl ?_
  refine r_iadd C dX8_mend_27 (by omega) ?_
  refine r_iconst C dX8_mend_28 (by decide) ?_
  refine r_cVx C dX8_mend_29 mlX8_122 kX8_comeTo (n_comeV (p := p) (v := v) hp1 hba hsz x0 x1 x2 (by omega) (by omega) hb1) hp1.o rfl rfl rfl (Nat.le_of_ble_eq_true rfl) (fit hX (by decide)) ?_
  rintro z h2 ⟨hz, ⟨pd2, gi2, op2, pA2, pS2, pH2, hp2⟩, k2⟩
  have hK : Kp SM h h2 := (k1.mono (fun t q => by omega)).tr k2
  refine r_istore_n C dX8_mend_32 (by decide) ?_
  refine r_iload_n C dX8_mend_33 rfl ?_
  refine r_if_ge (tgt := 40) C dX8_mend_34 (by decide) (fun hc34 => ?_) (fun hc34 => ?_)
  rotate_left
  · have hv : aMend vs pg mn tx tl du p v = (-5, du) := (if_neg (by omega)).trans (if_pos (by omega))
    rw [hv]
    refine r_bipush C dX8_mend_37 (by decide) ?_
    exact r_iret C dX8_mend_39 (by decide) (by decide) ⟨_, rfl, rfl, ⟨A, pd2, _, gi2, op2, th, la, lv, sl, T, S, M, tL, dU, rs, pA2, pS2, pH2, bV1, be, dO, hB, sA, nO, mI, mK, hp2, hpt, hba, hsz, hld, him⟩, hK⟩
  have hv : aMend vs pg mn tx tl du p v = (du p, fu du p (evV mn tx v p).1) := (if_neg (by omega)).trans (if_neg (by omega))
  rw [hv, ← hz]
  refine r_aload_n C dX8_mend_40 rfl ?_
  refine r_get C dX8_mend_41 flX8_22 hp2.o rfl ?_
  refine r_iload_n C dX8_mend_44 rfl ?_
  refine r_iald C dX8_mend_45 hp2.adU (by omega) (by omega) ?_
  refine r_istore C dX8_mend_46 (by decide) ?_
  refine r_aload_n C dX8_mend_48 rfl ?_
  refine r_get C dX8_mend_49 flX8_22 hp2.o rfl ?_
  refine r_iload_n C dX8_mend_52 rfl ?_
  refine r_iload_n C dX8_mend_53 rfl ?_
  refine w_dU C dX8_mend_54 hp2 (by omega) (by omega) (fun h3 hp3 k3 => ?_)
  refine r_aload_n C dX8_mend_55 rfl ?_
  refine r_iconst C dX8_mend_56 (by decide) ?_
  refine w_la C dX8_mend_57 hp3 (by omega) (fun h4 hp4 k4 => ?_)
  refine r_iload C dX8_mend_60 rfl ?_
  exact r_iret C dX8_mend_62 (by decide) (by decide) ⟨_, rfl, c4, ⟨A, pd2, _, gi2, op2, th, 0, lv, sl, T, S, M, tL, _, rs, pA2, pS2, pH2, bV1, be, dO, hB, sA, nO, mI, mK, hp4, hpt, hba.due x0 x1 x2 hc34 (by omega), hsz, Or.inl rfl, him⟩, hK.tr ((k3.mono (fun t q => by omega)).tr (k4.mono (fun t q => by omega)))⟩
end
