/-! BookShows: blame -/
/-- the text slot of word w in version v, a set of words taken back -/
def bkS (v s w : Int) : Int := 8 * (v - bAnd (bShr s w) 1) + w
def evB (mn : Int → Int) (tx : Int → Int → Int) (v s p : Int) : Sv := evT (fun w => mn (bkS v s w)) (fun w => tx (bkS v s w)) (mn (48 + p)) (tx (48 + p)) 0
theorem okW_B {vs pg v s : Int} {mn : Int → Int} {tx : Int → Int → Int} {tl : Int → Int} (hok : okB vs pg mn tx tl) (h1 : 1 ≤ v) (h2 : v < vs) : okW (fun w => mn (bkS v s w)) (fun w => tx (bkS v s w)) := by
  intro w w0 w1
  show mn (bkS v s w) = 0 ∨ (0 < mn (bkS v s w) ∧ pe (mn (bkS v s w)) (tx (bkS v s w)) 6 0 = mn (bkS v s w))
  unfold bkS
  rcases bit_01 (x := s) w0 (by omega) with e | e
  · rw [e]; exact hok.1 (v - 0) (by omega) (by omega) w w0 w1
  · rw [e]; exact hok.1 (v - 1) (by omega) (by omega) w w0 w1
section
variable {h : Pic} {x : Nat} {pn : Int} {pf : Int → Int} {vs pg : Int} {mn : Int → Int} {tx : Int → Int → Int} {tl du kp : Int → Int} {im : Int → Bs}
variable {pad pb tr bk ims kpa rk ao al ne i0 i1 nb z1 z2 z3 xw : Nat} {gp kf kn kn' cs kn2 no f : Int → Int} {fi fw : Int → Option Nat} {c pl gv op us : Int}
theorem m_htb {p v s : Int} (hra : RA h x pad pb tr bk ims kpa rk ao al ne i0 i1 pn pf gp kf kp fi im) (hb : BkR h bk 10 vs pg mn tx tl du) (hr : RkR h rk xw fw pl gv op us) (hI : IB vs pg mn tx tl du) (hp0 : 0 ≤ p) (hp1 : p < pg) (hex : tl p = -6) (hv : 1 ≤ v) (hv1 : v < vs) : Meets yX7_holdsTakenBack cX7_holdsTakenBack 5 (some .boolean) 190 0 0 [vR x, vI p, vI v, vI s] h (pX (fun z h' => z = zb ((evB mn tx v s p).1 = du p) ∧ (∃ fw' pl' gv' op' us', RkR h' rk xw fw' pl' gv' op' us') ∧ Kp (fun t => t = 42 ∨ t = 43) h h')) := by
  obtain ⟨⟨e0, e1, e2, e3, e4⟩, him, hp⟩ := id hra
  obtain ⟨nt, x1, x2, x3, x4, x5, ft, fs, f2, f4, f5, ⟨hbs, -⟩, -, hvs, hpg, -⟩ := id hb
  refine Meets.of (plainFor_of_name (by decide)) (Nat.le_of_ble_eq_true rfl) (fun X C hX hN hA => ?_)
  refine r_aload_n C dX7_holdsTakenBack_0 rfl ?_
  refine r_get C dX7_holdsTakenBack_1 flX7_41 e0 rfl ?_
  refine r_aload_n C dX7_holdsTakenBack_4 rfl ?_
  refine r_get C dX7_holdsTakenBack_5 flX7_26 e0 rfl ?_
  refine r_iload_n C dX7_holdsTakenBack_8 rfl ?_
  refine r_cVv C dX7_holdsTakenBack_9 mlX7_120 kX3_take (m_take hr hb (by decide) (by decide) (show 0 ≤ v by omega) hv1) hr.1 rfl rfl rfl (Nat.le_of_ble_eq_true rfl) (fit hX (by decide)) ?_
  rintro h1 ⟨fw1, hr1, k1, hww⟩
  have loop : ∀ (j : Nat) (i : Int) (h' : Pic) (fw' : Int → Option Nat), 0 ≤ i → i ≤ 8 → 8 - i < j → RkR h' rk xw fw' pl gv op us → Kp (fun t => t = 43) h h' → (∀ w, 0 ≤ w → w < 8 → w < i → TxP h' (fw' w) (mn (bkS v s w)) (tx (bkS v s w))) → (∀ w, 0 ≤ w → w < 8 → i ≤ w → TxP h' (fw' w) (mn (8 * v + w)) (tx (8 * v + w))) →
      Go X (Qm X (pX (fun z h' => z = zb ((evB mn tx v s p).1 = du p) ∧ (∃ fw' pl' gv' op' us', RkR h' rk xw fw' pl' gv' op' us') ∧ Kp (fun t => t = 42 ∨ t = 43) h h')) 0 0) 0 0 h' 15 [some (vR x), some (vI p), some (vI v), some (vI s), some (vI i)] [] := by
    intro j
    induction j with
    | zero => intro i h' fw' g3 g4 g5; exact absurd g5 (by omega)
    | succ j ih =>
      intro i h' fw' g3 g4 g5 hr' k' ha hbk
      have e0' := k' _ _ _ e0 (by omega)
      have hbs' := k' _ _ _ hbs (by omega)
      have hb' : BkR h' bk 10 vs pg mn tx tl du := hb.kp k' (by omega) (by omega) (fun t q1 q2 => by omega)
      refine r_iload C dX7_holdsTakenBack_15 rfl ?_
      refine r_bipush C dX7_holdsTakenBack_17 (by decide) ?_
      refine r_icmp_ge (tgt := 59) C dX7_holdsTakenBack_19 (by decide) (fun hc19 => ?_) (fun hc19 => ?_)
      · refine r_aload_n C dX7_holdsTakenBack_59 rfl ?_
        refine r_get C dX7_holdsTakenBack_60 flX7_41 e0' rfl ?_
        refine r_aload_n C dX7_holdsTakenBack_63 rfl ?_
        refine r_get C dX7_holdsTakenBack_64 flX7_26 e0' rfl ?_
        refine r_iload_n C dX7_holdsTakenBack_67 rfl ?_
        refine r_cVy C dX7_holdsTakenBack_68 mlX7_155 kX0_example (m_example (p := p) hb' hp0 hp1) hbs' rfl rfl rfl (Nat.le_of_ble_eq_true rfl) (fit hX (by decide)) ?_
        rintro q h2 ⟨rfl, htq⟩
        refine r_iconst C dX7_holdsTakenBack_71 (by decide) ?_
        refine r_cVx C dX7_holdsTakenBack_72 mlX7_124 kX3_outcome (m_outcome (okW_B (s := s) hI.1 hv hv1) hr' (WdR.of (fun w w0 w1 => ha w w0 w1 (by omega))) htq.R (hI.1.2 p hp0 hp1 hex).2 (Int.le_refl 0) (by omega)) hr'.1 rfl rfl rfl (Nat.le_of_ble_eq_true rfl) (fit hX (by decide)) ?_
        rintro z h3 ⟨hz, pl3, gv3, op3, hr3, o3⟩
        have k3 : Kp (fun t => t = 42 ∨ t = 43) h2 h3 := o3.kp hr'.1 (Or.inl rfl)
        have kk : Kp (fun t => t = 42 ∨ t = 43) h h3 := (k'.mono (fun t q => Or.inr q)).tr k3
        have hb3 : BkR h3 bk 10 vs pg mn tx tl du := hb.kp kk (by omega) (by omega) (fun t q1 q2 => by omega)
        have e03 := kk _ _ _ e0 (by omega)
        refine r_aload_n C dX7_holdsTakenBack_75 rfl ?_
        refine r_get C dX7_holdsTakenBack_76 flX7_26 e03 rfl ?_
        refine r_iload_n C dX7_holdsTakenBack_79 rfl ?_
        refine r_cVi C dX7_holdsTakenBack_80 mlX7_149 kX0_due (m_due (p := p) hb3 hp0 hp1) (kk _ _ _ hbs (by omega)) rfl rfl rfl (Nat.le_of_ble_eq_true rfl) (fit hX (by decide)) ?_
        have hzz : z = (evB mn tx v s p).1 := hz
        refine r_icmp_ne (tgt := 90) C dX7_holdsTakenBack_83 (by decide) (fun hc83 => ?_) (fun hc83 => ?_)
        · refine r_iconst C dX7_holdsTakenBack_90 (by decide) ?_
          exact r_zret C dX7_holdsTakenBack_91 (by omega) (by decide) (by decide) ⟨_, rfl, (zb_f (fun q => hc83 (hzz.trans q))).symm, ⟨_, _, _, _, _, hr3⟩, kk⟩
        · refine r_iconst C dX7_holdsTakenBack_86 (by decide) ?_
          refine r_goto (tgt := 91) C dX7_holdsTakenBack_87 (by decide) ?_
          exact r_zret C dX7_holdsTakenBack_91 (by omega) (by decide) (by decide) ⟨_, rfl, (zb_t (hzz.symm.trans hc83)).symm, ⟨_, _, _, _, _, hr3⟩, kk⟩
      · refine r_iload_n C dX7_holdsTakenBack_22 rfl ?_
        refine r_iload C dX7_holdsTakenBack_23 rfl ?_
        refine r_ishr C dX7_holdsTakenBack_25 ?_
        refine r_iconst C dX7_holdsTakenBack_26 (by decide) ?_
        refine r_iand C dX7_holdsTakenBack_27 ?_
        refine r_iconst C dX7_holdsTakenBack_28 (by decide) ?_
        refine r_icmp_ne (tgt := 53) C dX7_holdsTakenBack_29 (by decide) (fun hc29 => ?_) (fun hc29 => ?_)
        · have hb0 : bAnd (bShr s i) 1 = 0 := by rcases bit_01 (x := s) g3 (show i < 32 by omega) with q | q; exact q; exact absurd q hc29
          refine r_iinc C dX7_holdsTakenBack_53 rfl (by decide) (by omega) ?_
          refine r_goto (tgt := 15) C dX7_holdsTakenBack_56 (by decide) ?_
          refine ih (i + 1) h' fw' (by omega) (by omega) (by omega) hr' k' (fun w w0 w1 w2 => ?_) (fun w w0 w1 w2 => hbk w w0 w1 (by omega))
          by_cases hw : w = i
          · have hz := hbk w w0 w1 (by omega)
            have e : bkS v s w = 8 * v + w := by unfold bkS; rw [hw, hb0]; omega
            rw [e]; exact hz
          · exact ha w w0 w1 (by omega)
        · refine r_aload_n C dX7_holdsTakenBack_32 rfl ?_
          refine r_get C dX7_holdsTakenBack_33 flX7_41 e0' rfl ?_
          refine r_iload C dX7_holdsTakenBack_36 rfl ?_
          refine r_aload_n C dX7_holdsTakenBack_38 rfl ?_
          refine r_get C dX7_holdsTakenBack_39 flX7_26 e0' rfl ?_
          refine r_iload_n C dX7_holdsTakenBack_42 rfl ?_
          refine r_iconst C dX7_holdsTakenBack_43 (by decide) ?_
          refine r_isub C dX7_holdsTakenBack_44 (by omega) ?_
          refine r_iload C dX7_holdsTakenBack_45 rfl ?_
          refine r_cVy C dX7_holdsTakenBack_47 mlX7_109 kX0_text (m_text (v := v - 1) (w := i) hb' (by omega) (by omega) g3 hc19) hbs' rfl rfl rfl (Nat.le_of_ble_eq_true rfl) (fit hX (by decide)) ?_
          rintro q h2 ⟨rfl, htq⟩
          obtain ⟨q', bq, mq, gq, eqq, hq1', -⟩ := id htq
          cases eqq
          refine r_cVv C dX7_holdsTakenBack_50 mlX7_243 kX3_replace (m_replace (w := i) hr' hq1' g3 hc19) hr'.1 rfl rfl rfl (Nat.le_of_ble_eq_true rfl) (fit hX (by decide)) ?_
          rintro h3 ⟨hr3, k3⟩
          refine r_iinc C dX7_holdsTakenBack_53 rfl (by decide) (by omega) ?_
          refine r_goto (tgt := 15) C dX7_holdsTakenBack_56 (by decide) ?_
          refine ih (i + 1) h3 _ (by omega) (by omega) (by omega) hr3 (k'.tr k3) (fun w w0 w1 w2 => ?_) (fun w w0 w1 w2 => ?_)
          · by_cases hw : w = i
            · have e : bkS v s w = 8 * (v - 1) + i := by unfold bkS; rw [hw, hc29]
              rw [e, hw, fu_s]
              exact htq.kp k3 (by omega) (by omega)
            · rw [fu_n hw]
              exact (ha w w0 w1 (by omega)).kp k3 (by omega) (by omega)
          · rw [fu_n (by omega)]
            exact (hbk w w0 w1 (by omega)).kp k3 (by omega) (by omega)
  refine r_iconst C dX7_holdsTakenBack_12 (by decide) ?_
  refine r_istore C dX7_holdsTakenBack_13 (by decide) ?_
  exact loop 9 0 h1 fw1 (by omega) (by omega) (by omega) hr1 k1 (fun w w0 w1 w2 => by omega) (fun w w0 w1 w2 => hww w w0 w1)
end
/-- taking back, of a set, only what has changed is as good -/
theorem evB_sub {vs pg v s p : Int} {mn : Int → Int} {tx : Int → Int → Int} {tl du : Int → Int} (hI : IB vs pg mn tx tl du) (h1 : 1 ≤ v) (h2 : v < vs) (hp0 : 0 ≤ p) (hp1 : p < pg) (hex : tl p = -6) : evB mn tx v (bAnd s (bt (fun w => ¬ like mn tx (8 * v + w) (8 * (v - 1) + w)) 8)) p = evB mn tx v s p := by
  have hpp := hI.1.2 p hp0 hp1 hex
  refine (evT_congr (okW_B (s := s) hI.1 h1 h2) (fun w w0 w1 => ?_) (fun _ _ _ => rfl) hpp.2 (by omega)).symm
  show mn (bkS v s w) = mn (bkS v _ w) ∧ ∀ k, 0 ≤ k → k < mn (bkS v s w) → tx (bkS v s w) k = tx (bkS v _ w) k
  obtain ⟨wn, rfl⟩ := Int.eq_ofNat_of_zero_le w0
  unfold bkS
  rw [tb_bit (by omega), tb_bit (by omega), tb_and]
  cases hs : tb s wn with
  | false => simp
  | true =>
    cases hc : tb (bt (fun w => ¬ like mn tx (8 * v + w) (8 * (v - 1) + w)) 8) wn with
    | true => simp
    | false =>
      have hl : like mn tx (8 * v + wn) (8 * (v - 1) + wn) := Classical.byContradiction (fun q => by
        have := (tb_bt (P := fun w => ¬ like mn tx (8 * v + w) (8 * (v - 1) + w)) (n := 8) (i := wn) (by omega) (by omega)).mpr ⟨w1, q⟩
        rw [hc] at this
        cases this)
      simp only [Bool.and_false, Bool.false_eq_true, if_false, if_true, Int.sub_zero]
      exact ⟨hl.1.symm, fun k k0 k1 => (hl.2 k k0 (by rw [hl.1]; exact k1)).symm⟩
theorem evB_0 {v p : Int} {mn : Int → Int} {tx : Int → Int → Int} {tl du : Int → Int} {vs pg : Int} (hI : IB vs pg mn tx tl du) (h1 : 1 ≤ v) (h2 : v < vs) (hp0 : 0 ≤ p) (hp1 : p < pg) (hex : tl p = -6) : evB mn tx v 0 p = evV mn tx v p := by
  have hpp := hI.1.2 p hp0 hp1 hex
  refine evT_congr (okW_B (s := 0) hI.1 h1 h2) (fun w w0 w1 => ?_) (fun _ _ _ => rfl) hpp.2 (by omega)
  have e : bkS v 0 w = 8 * v + w := by unfold bkS; rw [bz w0 w1]; omega
  show mn (bkS v 0 w) = mn (8 * v + w) ∧ ∀ k, 0 ≤ k → k < mn (bkS v 0 w) → tx (bkS v 0 w) k = tx (8 * v + w) k
  rw [e]
  exact ⟨rfl, fun _ _ _ => rfl⟩
section
variable {h : Pic} {x : Nat} {pn : Int} {pf : Int → Int} {vs pg : Int} {mn : Int → Int} {tx : Int → Int → Int} {tl du kp : Int → Int} {im : Int → Bs}
noncomputable def aBlame (vs pg : Int) (mn : Int → Int) (tx : Int → Int → Int) (tl du : Int → Int) (p v : Int) : Int := by
  classical exact if ¬ okPV vs pg tl p v then -1 else if v = 0 ∨ hold mn tx tl du v p then -3 else (blN (fun s => (evB mn tx v s p).1 = du p) 255).1
theorem aBlame_1 {p v : Int} (h1 : ¬ okPV vs pg tl p v) : aBlame vs pg mn tx tl du p v = -1 := by unfold aBlame; exact if_pos h1
theorem aBlame_2 {p v : Int} (h1 : okPV vs pg tl p v) (h2 : v = 0 ∨ hold mn tx tl du v p) : aBlame vs pg mn tx tl du p v = -3 := by unfold aBlame; rw [if_neg (fun q => q h1)]; exact if_pos h2
theorem aBlame_3 {p v : Int} (h1 : okPV vs pg tl p v) (h2 : ¬ (v = 0 ∨ hold mn tx tl du v p)) : aBlame vs pg mn tx tl du p v = (blN (fun s => (evB mn tx v s p).1 = du p) 255).1 := by unfold aBlame; rw [if_neg (fun q => q h1)]; exact if_neg h2
theorem C_blame {p v : Int} (hc : RC h x pn pf vs pg mn tx tl du kp im) (hI : IB vs pg mn tx tl du) : Meets yX7_blame cX7_blame 8 (some .int) 200 0 0 [vR x, vI p, vI v] h (pX (fun z h' => z = aBlame vs pg mn tx tl du p v ∧ RC h' x pn pf vs pg mn tx tl du kp im ∧ Kp SC h h')) := by
  obtain ⟨pad, pb, tr, bk, ims, kpa, rk, ao, al, ne, i0, i1, nb, z1, z2, z3, gp, kf, kn, cs, kn2, no, f, fi, c, hra, htr, hb, ho, hl, hos, hne⟩ := id hc
  obtain ⟨⟨e0, e1, e2, e3, e4⟩, him, hp⟩ := id hra
  obtain ⟨nt, x1, x2, x3, x4, x5, ft, fs, f2, f4, f5, ⟨hbs, -⟩, -, hvs, hpg, -⟩ := id hb
  obtain ⟨y1, y2, y3, xw, ca, us, fw, pl, gv, op, uu, ⟨hots, -⟩, -⟩ := id ho
  refine Meets.of (plainFor_of_name (by decide)) (Nat.le_of_ble_eq_true rfl) (fun X C hX hN hA => ?_)
  refine r_aload_n C dX7_blame_0 rfl ?_
  refine r_get C dX7_blame_1 flX7_26 e0 rfl ?_
  refine r_iload_n C dX7_blame_4 rfl ?_
  refine r_cVi C dX7_blame_5 mlX7_146 kX0_isExample (m_isExample (p := p) hb) hbs rfl rfl rfl (Nat.le_of_ble_eq_true rfl) (fit hX (by decide)) ?_
  refine r_if_eq (tgt := 22) C dX7_blame_8 (by decide) (fun hc8 => ?_) (fun hc8 => ?_)
  · have hn := zb_0.mp hc8
    rw [aBlame_1 (fun z => hn ⟨z.1, z.2.1, z.2.2.1⟩)]
    refine r_iconst C dX7_blame_22 (by decide) ?_
    exact r_iret C dX7_blame_23 (by decide) (by decide) ⟨_, rfl, rfl, hc, Kp.rf⟩
  obtain ⟨hp0, hp1, hex⟩ := zb_n0.mp hc8
  refine r_aload_n C dX7_blame_11 rfl ?_
  refine r_get C dX7_blame_12 flX7_26 e0 rfl ?_
  refine r_iload_n C dX7_blame_15 rfl ?_
  refine r_cVi C dX7_blame_16 mlX7_106 kX0_hasVersion (m_hasVersion (v := v) hb) hbs rfl rfl rfl (Nat.le_of_ble_eq_true rfl) (fit hX (by decide)) ?_
  refine r_if_ne (tgt := 24) C dX7_blame_19 (by decide) (fun hc19 => ?_) (fun hc19 => ?_)
  rotate_left
  · have hn := zb_0.mp hc19
    rw [aBlame_1 (fun z => hn ⟨z.2.2.2.1, z.2.2.2.2⟩)]
    refine r_iconst C dX7_blame_22 (by decide) ?_
    exact r_iret C dX7_blame_23 (by decide) (by decide) ⟨_, rfl, rfl, hc, Kp.rf⟩
  obtain ⟨hv0, hv1⟩ := zb_n0.mp hc19
  have hpv : okPV vs pg tl p v := ⟨hp0, hp1, hex, hv0, hv1⟩
  refine r_aload_n C dX7_blame_24 rfl ?_
  refine r_get C dX7_blame_25 flX7_50 e0 rfl ?_
  refine r_iload_n C dX7_blame_28 rfl ?_
  refine r_iload_n C dX7_blame_29 rfl ?_
  refine r_cVv C dX7_blame_30 mlX7_159 kX2_learn (m_Olearn (p := p) (v := v) ho hb hI.1 hp0 hp1 hv0 hv1) hots rfl rfl rfl (Nat.le_of_ble_eq_true rfl) (fit hX (by decide)) ?_
  rintro h1 ⟨kn1, ho1, k1, hm1, hd1⟩
  have hb1 : BkR h1 bk 10 vs pg mn tx tl du := hb.kp k1 (by omega) (by omega) (fun t q1 q2 => by omega)
  have hRC := RC_so hra htr hb hl hos hne k1 ho1
  have hKC : Kp SC h h1 := k1.mono (fun t q => by omega)
  have e01 := k1 _ _ _ e0 (by omega)
  have hbs1 := k1 _ _ _ hbs (by omega)
  have hots1 := k1 _ _ _ hots (by omega)
  refine r_iload_n C dX7_blame_33 rfl ?_
  refine r_if_eq (tgt := 49) C dX7_blame_34 (by decide) (fun hc34 => ?_) (fun hc34 => ?_)
  · rw [aBlame_2 hpv (Or.inl hc34)]
    refine r_bipush C dX7_blame_49 (by decide) ?_
    exact r_iret C dX7_blame_51 (by decide) (by decide) ⟨_, rfl, rfl, hRC, hKC⟩
  refine r_aload_n C dX7_blame_37 rfl ?_
  refine r_get C dX7_blame_38 flX7_50 e01 rfl ?_
  refine r_iload_n C dX7_blame_41 rfl ?_
  refine r_iload_n C dX7_blame_42 rfl ?_
  refine r_cVi C dX7_blame_43 mlX7_167 kX2_holds (m_holds (p := p) (v := v) ho1 hb1 hp0 hp1 hv0 hv1 hd1) hots1 rfl rfl rfl (Nat.le_of_ble_eq_true rfl) (fit hX (by decide)) ?_
  refine r_if_eq (tgt := 52) C dX7_blame_46 (by decide) (fun hc46 => ?_) (fun hc46 => ?_)
  rotate_left
  · rw [aBlame_2 hpv (Or.inr (zb_n0.mp hc46))]
    refine r_bipush C dX7_blame_49 (by decide) ?_
    exact r_iret C dX7_blame_51 (by decide) (by decide) ⟨_, rfl, rfl, hRC, hKC⟩
  have hnh := zb_0.mp hc46
  rw [aBlame_3 hpv (fun q => q.elim hc34 hnh)]
  refine r_aload_n C dX7_blame_52 rfl ?_
  refine r_get C dX7_blame_53 flX7_26 e01 rfl ?_
  refine r_iload_n C dX7_blame_56 rfl ?_
  refine r_cVi C dX7_blame_57 mlX7_174 kX0_changed (m_changed (v := v) hb1 (by omega) hv1) hbs1 rfl rfl rfl (Nat.le_of_ble_eq_true rfl) (fit hX (by decide)) ?_
  have hch0 : Rg (bt (fun w => ¬ like mn tx (8 * v + w) (8 * (v - 1) + w)) 8) := bt_rg _ _
  have hsub := fun s => evB_sub (s := s) hI (show 1 ≤ v by omega) hv1 hp0 hp1 hex
  generalize bt (fun w => ¬ like mn tx (8 * v + w) (8 * (v - 1) + w)) 8 = ch at hch0 hsub ⊢
  have hkey : ∀ j : Nat, j ≤ 255 → blN (fun s => bAnd s (bXor ch (-1)) = 0 ∧ (evB mn tx v s p).1 = du p) j = blN (fun s => (evB mn tx v s p).1 = du p) j := blN_eq (S := fun s => bAnd s (bXor ch (-1)) = 0) (P := fun s => (evB mn tx v s p).1 = du p) (fun s s0 s1 hP hS => by
    have hle := and_rng ch (show 0 ≤ s by omega) (show Rg s by omega)
    have hPs : (evB mn tx v (bAnd s ch) p).1 = du p := by rw [hsub s]; exact hP
    refine ⟨bAnd s ch, ?_, ?_, cnt_mono (fun i _ q => by rw [tb_and, Bool.and_eq_true] at q; exact q.1), hPs⟩
    · rcases (show 1 ≤ bAnd s ch ∨ bAnd s ch = 0 by omega) with q | q
      · exact q
      · rw [q] at hPs
        rw [evB_0 hI (by omega) hv1 hp0 hp1 hex] at hPs
        exact absurd ⟨hex, hPs⟩ hnh
    · rcases (show bAnd s ch < s ∨ bAnd s ch = s by omega) with q | q
      · exact q
      · refine absurd (and_0.mpr (fun i hi z => ?_)) hS
        rw [tb_xor, tb_m1 i hi] at z
        have z1 := z.1
        rw [← q, tb_and, Bool.and_eq_true] at z1
        rw [z1.2] at z
        exact absurd z.2 (by decide))
  have loop : ∀ (j : Nat) (i : Nat) (h' : Pic) (xw' : Nat) (fw' : Int → Option Nat) (pl' gv' op' us' : Int) (o7 : Option Va), i ≤ 255 → 255 - i < j → RkR h' rk xw' fw' pl' gv' op' us' → Kp (fun t => t = 42 ∨ t = 43) h1 h' →
      Go X (Qm X (pX (fun z h' => z = (blN (fun s => (evB mn tx v s p).1 = du p) 255).1 ∧ RC h' x pn pf vs pg mn tx tl du kp im ∧ Kp SC h h')) 0 0) 0 0 h' 72 [some (vR x), some (vI p), some (vI v), some (vI ch), some (vI (blN (fun s => bAnd s (bXor ch (-1)) = 0 ∧ (evB mn tx v s p).1 = du p) i).1), some (vI (blN (fun s => bAnd s (bXor ch (-1)) = 0 ∧ (evB mn tx v s p).1 = du p) i).2), some (vI ((i : Int) + 1)), o7] [] := by
    intro j
    induction j with
    | zero => intro i h' xw' fw' pl' gv' op' us' o7 g4 g5; exact absurd g5 (by omega)
    | succ j ih =>
      intro i h' xw' fw' pl' gv' op' us' o7 g4 g5 hr' k'
      have kk : Kp SO h h' := k1.tr (k'.mono (fun t q => by omega))
      refine r_iload C dX7_blame_72 rfl ?_
      refine r_sipush C dX7_blame_74 (by decide) ?_
      refine r_icmp_ge (tgt := 128) C dX7_blame_77 (by decide) (fun hc77 => ?_) (fun hc77 => ?_)
      · have hi : i = 255 := by omega
        refine r_iload C dX7_blame_128 rfl ?_
        exact r_iret C dX7_blame_130 (by decide) (by decide) ⟨_, rfl, by rw [hkey i g4, hi], RC_so hra htr hb hl hos hne kk (ho1.rk k' hr'), kk.mono (fun t q => by omega)⟩
      have hnext : ∀ (h2 : Pic) (fw2 : Int → Option Nat) (pl2 gv2 op2 us2 : Int) (b1 b2 : Int) (o7 : Option Va), RkR h2 rk xw' fw2 pl2 gv2 op2 us2 → Kp (fun t => t = 42 ∨ t = 43) h1 h2 → blN (fun s => bAnd s (bXor ch (-1)) = 0 ∧ (evB mn tx v s p).1 = du p) (i + 1) = (b1, b2) →
          Go X (Qm X (pX (fun z h' => z = (blN (fun s => (evB mn tx v s p).1 = du p) 255).1 ∧ RC h' x pn pf vs pg mn tx tl du kp im ∧ Kp SC h h')) 0 0) 0 0 h2 122 [some (vR x), some (vI p), some (vI v), some (vI ch), some (vI b1), some (vI b2), some (vI ((i : Int) + 1)), o7] [] := by
        intro h2 fw2 pl2 gv2 op2 us2 b1 b2 o7 hr2 k2 hbl
        have hz := ih (i + 1) h2 xw' fw2 pl2 gv2 op2 us2 o7 (by omega) (by omega) hr2 k2
        rw [hbl] at hz
        refine r_iinc C dX7_blame_122 rfl (by decide) (by omega) ?_
        refine r_goto (tgt := 72) C dX7_blame_125 (by decide) ?_
        exact hz
      refine r_iload C dX7_blame_80 rfl ?_
      refine r_cSi C dX7_blame_82 mlX7_177 kJ6_bitCount_0f7a4 (m_bitCount (x := (i : Int) + 1) (by omega) (by omega)) rfl rfl (Nat.le_of_ble_eq_true rfl) (fit hX (by decide)) ?_
      refine r_istore C dX7_blame_85 (by decide) ?_
      refine r_iload C dX7_blame_87 rfl ?_
      refine r_iload_n C dX7_blame_89 rfl ?_
      refine r_iconst C dX7_blame_90 (by decide) ?_
      refine r_ixor C dX7_blame_91 ?_
      refine r_iand C dX7_blame_92 ?_
      refine r_if_ne (tgt := 122) C dX7_blame_93 (by decide) (fun hc93 => ?_) (fun hc93 => ?_)
      · exact hnext h' fw' pl' gv' op' us' _ _ _ hr' k' (blN_f (fun q => hc93 q.2.1))
      refine r_iload C dX7_blame_96 rfl ?_
      refine r_iload C dX7_blame_98 rfl ?_
      refine r_icmp_ge (tgt := 122) C dX7_blame_100 (by decide) (fun hc100 => ?_) (fun hc100 => ?_)
      · exact hnext h' fw' pl' gv' op' us' _ _ _ hr' k' (blN_f (fun q => absurd q.1 (by omega)))
      refine r_aload_n C dX7_blame_103 rfl ?_
      refine r_iload_n C dX7_blame_104 rfl ?_
      refine r_iload_n C dX7_blame_105 rfl ?_
      refine r_iload C dX7_blame_106 rfl ?_
      refine r_cVx C dX7_blame_108 mlX7_182 kX7_holdsTakenBack (m_htb (p := p) (v := v) (s := (i : Int) + 1) (hra.kp kk (fun t q => by omega) (fun t q1 q2 => by omega) (fun t q1 q2 => by omega)) (hb1.kp k' (by omega) (by omega) (fun t q1 q2 => by omega)) hr' hI hp0 hp1 hex (by omega) hv1) (kk _ _ _ e0 (by omega)) rfl rfl rfl (Nat.le_of_ble_eq_true rfl) (fit hX (by decide)) ?_
      rintro z h2 ⟨hz, ⟨fw2, pl2, gv2, op2, us2, hr2⟩, k2⟩
      have k12 := k'.tr k2
      refine r_if_eq (tgt := 122) C dX7_blame_111 (by decide) (fun hc111 => ?_) (fun hc111 => ?_)
      · rw [hz] at hc111
        exact hnext h2 fw2 pl2 gv2 op2 us2 _ _ _ hr2 k12 (blN_f (fun q => (zb_0.mp hc111) q.2.2))
      · rw [hz] at hc111
        refine r_iload C dX7_blame_114 rfl ?_
        refine r_istore C dX7_blame_116 (by decide) ?_
        refine r_iload C dX7_blame_118 rfl ?_
        refine r_istore C dX7_blame_120 (by decide) ?_
        exact hnext h2 fw2 pl2 gv2 op2 us2 _ _ _ hr2 k12 (blN_t ⟨hc100, hc93, zb_n0.mp hc111⟩)
  refine r_istore_n C dX7_blame_60 (by decide) ?_
  refine r_bipush C dX7_blame_61 (by decide) ?_
  refine r_istore C dX7_blame_63 (by decide) ?_
  refine r_bipush C dX7_blame_65 (by decide) ?_
  refine r_istore C dX7_blame_67 (by decide) ?_
  refine r_iconst C dX7_blame_69 (by decide) ?_
  refine r_istore C dX7_blame_70 (by decide) ?_
  obtain ⟨y1', y2', y3', xw', ca', us', fw', pl', gv', op', uu', -, hr1, -⟩ := id ho1
  exact loop 256 0 h1 xw' fw' pl' gv' op' uu' none (by omega) (by omega) hr1 Kp.rf
end
