/-! Reckoner: what a text comes to, by the class -/
def RkR (h : Pic) (a xw : Nat) (fw : Int → Option Nat) (pl gv op us : Int) : Prop := h a = some (ob 42 3 [vR xw, vI pl, vI gv, vI op, vI us]) ∧ h xw = some (ra 43 0 8 fw)
def WdR (h : Pic) (fw : Int → Option Nat) (wn : Int → Int) (wt : Int → Int → Int) : Prop := ∀ w, 0 ≤ w → w < 8 → ∃ q, fw w = some q ∧ TxR h q (wn w) (wt w)
theorem RkR.off {h h' : Pic} {a xw : Nat} {fw : Int → Option Nat} {pl gv op us pl' gv' op' us' : Int} (hr : RkR h a xw fw pl gv op us) (x : Off [a] h h') (e : h' a = some (ob 42 3 [vR xw, vI pl', vI gv', vI op', vI us'])) : RkR h' a xw fw pl' gv' op' us' := ⟨e, x.a1 hr.1 hr.2 (fun q => by cases q)⟩
theorem WdR.off {h h' : Pic} {a t c : Nat} {fs : List Va} {fw : Int → Option Nat} {wn : Int → Int} {wt : Int → Int → Int} (hw : WdR h fw wn wt) (x : Off [a] h h') (ha : h a = some (t, .inl (c, fs))) (hc : c ≠ 6) : WdR h' fw wn wt := fun w h0 h1 => by
  obtain ⟨q, e, ht⟩ := hw w h0 h1
  exact ⟨q, e, ht.a1 x ha hc⟩
/-- what part and give leave behind -/
def evP (r : Sv) (a xw : Nat) (fw : Int → Option Nat) (op e : Int) (h : Pic) : Int → Pic → Prop := fun v h' => v = r.1 ∧ ∃ pl', RkR h' a xw fw pl' r.2.1 op r.2.2 ∧ Off [a] h h' ∧ (0 ≤ v → pl' = e) ∧ 0 ≤ pl' ∧ pl' ≤ 41
def GiveOk (wn : Int → Int) (wt : Int → Int → Int) (o : Nat) : Prop := ∀ (h : Pic) (a xw : Nat) (fw : Int → Option Nat) (pl gv us w v : Int), RkR h a xw fw pl gv (20 - o) us → WdR h fw wn wt → 0 ≤ w → w < 8 → 0 ≤ v → v ≤ 999 → 0 ≤ gv → gv ≤ 300 → 0 ≤ pl → pl ≤ 41 →
  Meets yX3_give cX3_give 6 (some .int) (9 * o + 1) 0 0 [vR a, vI w, vI v] h (pX (evP (gvN wn wt o w v (gv, us)) a xw fw (20 - o) pl h))
def PartOk (wn : Int → Int) (wt : Int → Int → Int) (o d : Nat) : Prop := ∀ (h : Pic) (a xw at' : Nat) (fw : Int → Option Nat) (pl gv us n x e : Int) (f : Int → Int), RkR h a xw fw pl gv (20 - o) us → WdR h fw wn wt → TxR h at' n f → 0 ≤ pl → pe n f d pl = e → 0 ≤ e → 0 ≤ x → x ≤ 999 → 0 ≤ gv → gv ≤ 300 →
  Meets yX3_part cX3_part 7 (some .int) (9 * o + d + 2) 0 0 [vR a, vR at', vI x, vI (6 - d)] h (pX (evP (ev (gvN wn wt o) n f d pl x (gv, us)) a xw fw (20 - o) e h))
theorem m_part0 {wn : Int → Int} {wt : Int → Int → Int} {o : Nat} : PartOk wn wt o 0 := by
  intro h a xw at' fw pl gv us n x e f hr hw ht hp he h1 hx hx2 hg hg2
  obtain ⟨b, t, t', m, g, hts, hta, h0, hnm, h40, hgf⟩ := id ht
  obtain ⟨hpn, hz, he2⟩ := pe_0 hp he h1
  have hc := nd0 hz
  refine Meets.of (plainFor_of_name (by decide)) (Nat.le_of_ble_eq_true rfl) (fun X C hX hN hA => ?_)
  refine r_iload_n C dX3_part_0 rfl ?_
  refine r_bipush C dX3_part_1 (by decide) ?_
  refine r_icmp_le (tgt := 9) C dX3_part_3 (by decide) (fun _ => ?_) (fun q => absurd q (by omega))
  refine r_aload_n C dX3_part_9 rfl ?_
  refine r_aload_n C dX3_part_10 rfl ?_
  refine r_get C dX3_part_11 flX3_27 hr.1 rfl ?_
  refine r_cVi C dX3_part_14 mlX3_44 kX6_sign (m_sign ht (p := pl)) hts rfl rfl rfl (Nat.le_of_ble_eq_true rfl) (fit hX (by omega)) ?_
  rw [sgn_in hp hpn]
  refine r_istore C dX3_part_17 (by decide) ?_
  refine r_aload_n C dX3_part_19 rfl ?_
  refine r_dup C dX3_part_20 ?_
  refine r_get C dX3_part_21 flX3_27 hr.1 rfl ?_
  refine r_iconst C dX3_part_24 (by decide) ?_
  refine r_iadd C dX3_part_25 (by omega) ?_
  refine r_putA C dX3_part_26 flX3_27 hr.1 rfl rfl (fs2 := [vR xw, vI (pl + 1), vI gv, vI (20 - o), vI us]) rfl (fun h1' e1 o1 => ?_)
  have hr1 : RkR h1' a xw fw (pl + 1) gv (20 - o) us := hr.off o1 e1
  refine r_iload C dX3_part_29 rfl ?_
  refine r_bipush C dX3_part_31 (by decide) ?_
  refine r_icmp_ne (tgt := 38) C dX3_part_33 (by decide) (fun hc3 => ?_) (fun hc3 => ?_)
  · have h3 : isD (f pl) := by omega
    refine r_iload C dX3_part_38 rfl ?_
    refine r_cSi C dX3_part_40 mlX3_48 kX4_isDigit (m_SD (c := f pl)) rfl rfl (Nat.le_of_ble_eq_true rfl) (fit hX (by omega)) ?_
    rw [zb_t h3]
    refine r_if_eq (tgt := 52) C dX3_part_43 (by decide) (fun q => absurd q (by decide)) (fun _ => ?_)
    refine r_iload C dX3_part_46 rfl ?_
    refine r_bipush C dX3_part_48 (by decide) ?_
    refine r_isub C dX3_part_50 (by omega) ?_
    exact r_iret C dX3_part_51 (by decide) (by decide) ⟨f pl - 48, rfl, by show f pl - 48 = (if f pl = 120 then (x, (gv, us)) else (f pl - 48, (gv, us))).1; rw [if_neg hc3], pl + 1, by show RkR h1' a xw fw (pl + 1) (if f pl = 120 then (x, (gv, us)) else (f pl - 48, (gv, us))).2.1 _ (if f pl = 120 then (x, (gv, us)) else (f pl - 48, (gv, us))).2.2; rw [if_neg hc3]; exact hr1, o1, fun _ => by omega, by omega, by omega⟩
  · refine r_iload_n C dX3_part_36 rfl ?_
    exact r_iret C dX3_part_37 (by decide) (by decide) ⟨x, rfl, by show x = (if f pl = 120 then (x, (gv, us)) else (f pl - 48, (gv, us))).1; rw [if_pos hc3], pl + 1, by show RkR h1' a xw fw (pl + 1) (if f pl = 120 then (x, (gv, us)) else (f pl - 48, (gv, us))).2.1 _ (if f pl = 120 then (x, (gv, us)) else (f pl - 48, (gv, us))).2.2; rw [if_pos hc3]; exact hr1, o1, fun _ => by omega, by omega, by omega⟩
