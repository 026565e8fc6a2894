/-! Outcomes: what EXAMPLES come to, kept -/
/-- what the example on page p comes to in version v, and what it used -/
def evV (mn : Int → Int) (tx : Int → Int → Int) (v p : Int) : Sv := evT (fun w => mn (8 * v + w)) (fun w => tx (8 * v + w)) (mn (48 + p)) (tx (48 + p)) 0
def okB (vs pg : Int) (mn : Int → Int) (tx : Int → Int → Int) (tl : Int → Int) : Prop := (∀ v, 0 ≤ v → v < vs → okW (fun w => mn (8 * v + w)) (fun w => tx (8 * v + w))) ∧ (∀ p, 0 ≤ p → p < pg → tl p = -6 → 0 < mn (48 + p) ∧ pe (mn (48 + p)) (tx (48 + p)) 6 0 = mn (48 + p))
def OtR (h : Pic) (ao bk rk y1 y2 y3 : Nat) (kn ca us : Int → Int) : Prop := h ao = some (ob 44 2 [vR bk, vR rk, vR y1, vR y2, vR y3]) ∧ h y1 = some (ia 45 2 72 kn) ∧ h y2 = some (ia 46 0 72 ca) ∧ h y3 = some (ia 47 0 72 us)
def OkO (vs pg : Int) (mn : Int → Int) (tx : Int → Int → Int) (tl kn ca us : Int → Int) : Prop := ∀ v p, 0 ≤ v → v < 6 → 0 ≤ p → p < 12 → ¬ kn (v * 12 + p) = 0 → (v < vs ∧ p < pg ∧ tl p = -6) ∧ ca (v * 12 + p) = (evV mn tx v p).1 ∧ us (v * 12 + p) = (evV mn tx v p).2.2
def OS (h : Pic) (ao bk rk : Nat) (vs pg : Int) (mn : Int → Int) (tx : Int → Int → Int) (tl kn : Int → Int) : Prop := ∃ (y1 y2 y3 xw : Nat) (ca us : Int → Int) (fw : Int → Option Nat) (pl gv op uu : Int), OtR h ao bk rk y1 y2 y3 kn ca us ∧ RkR h rk xw fw pl gv op uu ∧ OkO vs pg mn tx tl kn ca us
abbrev SO : Nat → Prop := fun t => t = 42 ∨ t = 43 ∨ (45 ≤ t ∧ t ≤ 47)
theorem RkR.kp {h h' : Pic} {S : Nat → Prop} {a xw : Nat} {fw : Int → Option Nat} {pl gv op us : Int} (hr : RkR h a xw fw pl gv op us) (x : Kp S h h') (h1 : ¬ S 42) (h2 : ¬ S 43) : RkR h' a xw fw pl gv op us := ⟨x _ _ _ hr.1 h1, x _ _ _ hr.2 h2⟩
theorem OS.kp {h h' : Pic} {S : Nat → Prop} {ao bk rk : Nat} {vs pg : Int} {mn : Int → Int} {tx : Int → Int → Int} {tl kn : Int → Int} (ho : OS h ao bk rk vs pg mn tx tl kn) (x : Kp S h h') (hs : ∀ t, 42 ≤ t → t ≤ 47 → ¬ S t) : OS h' ao bk rk vs pg mn tx tl kn := by
  obtain ⟨y1, y2, y3, xw, ca, us, fw, pl, gv, op, uu, ⟨e0, e1, e2, e3⟩, hr, hk⟩ := ho
  exact ⟨y1, y2, y3, xw, ca, us, fw, pl, gv, op, uu, ⟨x _ _ _ e0 (hs _ (by omega) (by omega)), x _ _ _ e1 (hs _ (by omega) (by omega)), x _ _ _ e2 (hs _ (by omega) (by omega)), x _ _ _ e3 (hs _ (by omega) (by omega))⟩, hr.kp x (hs _ (by omega) (by omega)) (hs _ (by omega) (by omega)), hk⟩
theorem WdR.of {h : Pic} {fw : Int → Option Nat} {wn : Int → Int} {wt : Int → Int → Int} (hw : ∀ w, 0 ≤ w → w < 8 → TxP h (fw w) (wn w) (wt w)) : WdR h fw wn wt := fun w h0 h1 => by
  obtain ⟨q, b, m, g, e, r⟩ := hw w h0 h1
  exact ⟨q, e, b, 5, 6, m, g, r⟩
section
variable {h : Pic} {ao bk rk : Nat} {vs pg : Int} {mn : Int → Int} {tx : Int → Int → Int} {tl du kn : Int → Int}
theorem m_Olearn {p v : Int} (ho : OS h ao bk rk vs pg mn tx tl kn) (hb : BkR h bk 10 vs pg mn tx tl du) (hok : okB vs pg mn tx tl) (hp : 0 ≤ p) (hp2 : p < pg) (hv : 0 ≤ v) (hv2 : v < vs) :
    Meets yX2_learn cX2_learn 4 none 190 0 0 [vR ao, vI p, vI v] h (pV (fun h' => ∃ kn', OS h' ao bk rk vs pg mn tx tl kn' ∧ Kp SO h h' ∧ (∀ c, ¬ kn c = 0 → ¬ kn' c = 0) ∧ (tl p = -6 → ¬ kn' (v * 12 + p) = 0))) := by
  obtain ⟨y1, y2, y3, xw, ca, us, fw, pl, gv, op, uu, ⟨hs, e1, e2, e3⟩, hr, hk⟩ := id ho
  obtain ⟨nt, x1, x2, x3, x4, x5, ft, fs, f2, f4, f5, ⟨hbs, -⟩, -, hvs, hpg, -⟩ := id hb
  refine Meets.of (plainFor_of_name (by decide)) (Nat.le_of_ble_eq_true rfl) (fun X C hX hN hA => ?_)
  refine r_aload_n C dX2_learn_0 rfl ?_
  refine r_get C dX2_learn_1 flX2_9 hs rfl ?_
  refine r_iload_n C dX2_learn_4 rfl ?_
  refine r_cVi C dX2_learn_5 mlX2_34 kX0_isExample (m_isExample (p := p) hb) hbs rfl rfl rfl (Nat.le_of_ble_eq_true rfl) (fit hX (by decide)) ?_
  refine r_if_eq (tgt := 22) C dX2_learn_8 (by decide) (fun hc8 => ?_) (fun hc8 => ?_)
  · exact r_vret C dX2_learn_22 (by decide) (by decide) ⟨rfl, kn, ho, Kp.rf, fun _ z => z, fun z => absurd ⟨hp, hp2, z⟩ (zb_0.mp hc8)⟩
  have hex := (zb_n0.mp hc8).2.2
  refine r_aload_n C dX2_learn_11 rfl ?_
  refine r_get C dX2_learn_12 flX2_9 hs rfl ?_
  refine r_iload_n C dX2_learn_15 rfl ?_
  refine r_cVi C dX2_learn_16 mlX2_40 kX0_hasVersion (m_hasVersion (v := v) hb) hbs rfl rfl rfl (Nat.le_of_ble_eq_true rfl) (fit hX (by decide)) ?_
  rw [zb_t ⟨hv, hv2⟩]
  refine r_if_ne (tgt := 23) C dX2_learn_19 (by decide) (fun _ => ?_) (fun q => absurd q (by decide))
  refine r_iload_n C dX2_learn_23 rfl ?_
  refine r_bipush C dX2_learn_24 (by decide) ?_
  refine r_imul C dX2_learn_26 (by omega) ?_
  refine r_iload_n C dX2_learn_27 rfl ?_
  refine r_iadd C dX2_learn_28 (by omega) ?_
  refine r_istore_n C dX2_learn_29 (by decide) ?_
  refine r_aload_n C dX2_learn_30 rfl ?_
  refine r_get C dX2_learn_31 flX2_19 hs rfl ?_
  refine r_iload_n C dX2_learn_34 rfl ?_
  refine r_zald C dX2_learn_35 e1 (by omega) (by omega) ?_
  refine r_if_ne (tgt := 93) C dX2_learn_36 (by decide) (fun hc36 => ?_) (fun hc36 => ?_)
  · exact r_vret C dX2_learn_93 (by decide) (by decide) ⟨rfl, kn, ho, Kp.rf, fun _ z => z, fun _ => hc36⟩
  refine r_aload_n C dX2_learn_39 rfl ?_
  refine r_get C dX2_learn_40 flX2_15 hs rfl ?_
  refine r_aload_n C dX2_learn_43 rfl ?_
  refine r_get C dX2_learn_44 flX2_9 hs rfl ?_
  refine r_iload_n C dX2_learn_47 rfl ?_
  refine r_cVv C dX2_learn_48 mlX2_43 kX3_take (m_take hr hb (by decide) (by decide) hv hv2) hr.1 rfl rfl rfl (Nat.le_of_ble_eq_true rfl) (fit hX (by decide)) ?_
  rintro h1 ⟨fw', hr1, k1, hww⟩
  have hb1 : BkR h1 bk 10 vs pg mn tx tl du := hb.kp k1 (by omega) (by omega) (fun t q1 q2 => by omega)
  have hs1 := k1 _ _ _ hs (by omega)
  have hbs1 := k1 _ _ _ hbs (by omega)
  refine r_aload_n C dX2_learn_51 rfl ?_
  refine r_get C dX2_learn_52 flX2_23 hs1 rfl ?_
  refine r_iload_n C dX2_learn_55 rfl ?_
  refine r_aload_n C dX2_learn_56 rfl ?_
  refine r_get C dX2_learn_57 flX2_15 hs1 rfl ?_
  refine r_aload_n C dX2_learn_60 rfl ?_
  refine r_get C dX2_learn_61 flX2_9 hs1 rfl ?_
  refine r_iload_n C dX2_learn_64 rfl ?_
  refine r_cVy C dX2_learn_65 mlX2_49 kX0_example (m_example (p := p) hb1 hp hp2) hbs1 rfl rfl rfl (Nat.le_of_ble_eq_true rfl) (fit hX (by decide)) ?_
  rintro q h' ⟨rfl, htq⟩
  refine r_iconst C dX2_learn_68 (by decide) ?_
  refine r_cVx C dX2_learn_69 mlX2_53 kX3_outcome (m_outcome (hok.1 v hv hv2) hr1 (WdR.of hww) htq.R (hok.2 p hp hp2 hex).2 (Int.le_refl 0) (by omega)) hr1.1 rfl rfl rfl (Nat.le_of_ble_eq_true rfl) (fit hX (by decide)) ?_
  rintro v1 h2 ⟨hv1, pl2, gv2, op2, hr2, o2⟩
  have k2 : Kp (fun t => t = 42) h' h2 := o2.kp hr1.1 rfl
  have e22 := k2 _ _ _ (k1 _ _ _ e2 (by omega)) (by omega)
  refine r_iastA C dX2_learn_72 e22 (by omega) (by omega) (fun h3 g2 o3 => ?_)
  have k3 : Kp (fun t => t = 46) h2 h3 := o3.kp e22 rfl
  have k13 : Kp (fun t => t = 42 ∨ t = 43 ∨ t = 46) h h3 := ((k1.mono (fun t z => by omega)).tr (k2.mono (fun t z => by omega))).tr (k3.mono (fun t z => by omega))
  have hs3 := k13 _ _ _ hs (by omega)
  have hr3 := hr2.kp k3 (by omega) (by omega)
  refine r_aload_n C dX2_learn_73 rfl ?_
  refine r_get C dX2_learn_74 flX2_27 hs3 rfl ?_
  refine r_iload_n C dX2_learn_77 rfl ?_
  refine r_aload_n C dX2_learn_78 rfl ?_
  refine r_get C dX2_learn_79 flX2_15 hs3 rfl ?_
  refine r_cVi C dX2_learn_82 mlX2_57 kX3_used (m_Rused hr3) hr3.1 rfl rfl rfl (Nat.le_of_ble_eq_true rfl) (fit hX (by decide)) ?_
  have e33 := k13 _ _ _ e3 (by omega)
  refine r_iastA C dX2_learn_85 e33 (by omega) (by omega) (fun h4 g3 o4 => ?_)
  have k4 : Kp (fun t => t = 47) h3 h4 := o4.kp e33 rfl
  have k14 : Kp (fun t => t = 42 ∨ t = 43 ∨ t = 46 ∨ t = 47) h h4 := (k13.mono (fun t z => by omega)).tr (k4.mono (fun t z => by omega))
  have hs4 := k14 _ _ _ hs (by omega)
  have e14 := k14 _ _ _ e1 (by omega)
  refine r_aload_n C dX2_learn_86 rfl ?_
  refine r_get C dX2_learn_87 flX2_19 hs4 rfl ?_
  refine r_iload_n C dX2_learn_90 rfl ?_
  refine r_iconst C dX2_learn_91 (by decide) ?_
  refine r_zastA C dX2_learn_92 e14 (by omega) (by omega) (by omega) (fun h5 g1 o5 => ?_)
  have k5 : Kp (fun t => t = 45) h4 h5 := o5.kp e14 rfl
  have kk : Kp SO h h5 := (k14.mono (fun t z => by omega)).tr (k5.mono (fun t z => by omega))
  refine r_vret C dX2_learn_93 (by decide) (by decide) ⟨rfl, fu kn (v * 12 + p) 1, ⟨y1, y2, y3, xw, fu ca (v * 12 + p) v1, fu us (v * 12 + p) (evT (fun w => mn (8 * v + w)) (fun w => tx (8 * v + w)) (mn (48 + p)) (tx (48 + p)) 0).2.2, fw', pl2, gv2, op2, _, ⟨k5 _ _ _ hs4 (by omega), g1, k5 _ _ _ (k4 _ _ _ g2 (by omega)) (by omega), k5 _ _ _ g3 (by omega)⟩, (hr3.kp k4 (by omega) (by omega)).kp k5 (by omega) (by omega), fun v' p' q1 q2 q3 q4 q5 => ?_⟩, kk, fun c z => ?_, fun _ => by rw [fu_s]; decide⟩
  · by_cases hcell : v' * 12 + p' = v * 12 + p
    · have hvv : v' = v := by omega
      have hpp : p' = p := by omega
      subst hvv
      subst hpp
      rw [fu_s, fu_s]
      exact ⟨⟨hv2, hp2, hex⟩, hv1, rfl⟩
    · rw [fu_n hcell] at q5
      rw [fu_n hcell, fu_n hcell]
      exact hk v' p' q1 q2 q3 q4 q5
  · by_cases hcell : c = v * 12 + p
    · rw [hcell, fu_s]; decide
    · rw [fu_n hcell]; exact z
theorem m_OlearnAll {v : Int} (ho : OS h ao bk rk vs pg mn tx tl kn) (hb : BkR h bk 10 vs pg mn tx tl du) (hok : okB vs pg mn tx tl) (hv : 0 ≤ v) (hv2 : v < vs) :
    Meets yX2_learnAll cX2_learnAll 3 none 191 0 0 [vR ao, vI v] h (pV (fun h' => ∃ kn', OS h' ao bk rk vs pg mn tx tl kn' ∧ Kp SO h h' ∧ (∀ c, ¬ kn c = 0 → ¬ kn' c = 0) ∧ (∀ p, 0 ≤ p → p < pg → tl p = -6 → ¬ kn' (v * 12 + p) = 0))) := by
  refine Meets.of (plainFor_of_name (by decide)) (Nat.le_of_ble_eq_true rfl) (fun X C hX hN hA => ?_)
  have loop : ∀ (j : Nat) (i : Int) (h' : Pic) (kn' : Int → Int), 0 ≤ i → i ≤ pg → pg - i < j → OS h' ao bk rk vs pg mn tx tl kn' → Kp SO h h' → (∀ c, ¬ kn c = 0 → ¬ kn' c = 0) → (∀ p, 0 ≤ p → p < i → tl p = -6 → ¬ kn' (v * 12 + p) = 0) →
      Go X (Qm X (pV (fun h' => ∃ kn', OS h' ao bk rk vs pg mn tx tl kn' ∧ Kp SO h h' ∧ (∀ c, ¬ kn c = 0 → ¬ kn' c = 0) ∧ (∀ p, 0 ≤ p → p < pg → tl p = -6 → ¬ kn' (v * 12 + p) = 0))) 0 0) 0 0 h' 2 [some (vR ao), some (vI v), some (vI i)] [] := by
    intro j
    induction j with
    | zero => intro i h' kn' h3 h4 h5; exact absurd h5 (by omega)
    | succ j ih =>
      intro i h' kn' h3 h4 h5 ho' hk hm hd
      have hb' : BkR h' bk 10 vs pg mn tx tl du := hb.kp hk (by omega) (by omega) (fun t q1 q2 => by omega)
      obtain ⟨nt, x1, x2, x3, x4, x5, ft, fs, f2, f4, f5, ⟨hbs, -⟩, -, hvs, hpg, -⟩ := id hb'
      obtain ⟨y1, y2, y3, xw, ca, us, fw, pl, gv, op, uu, ⟨hs, -⟩, -⟩ := id ho'
      refine r_iload_n C dX2_learnAll_2 rfl ?_
      refine r_aload_n C dX2_learnAll_3 rfl ?_
      refine r_get C dX2_learnAll_4 flX2_9 hs rfl ?_
      refine r_cVi C dX2_learnAll_7 mlX2_61 kX0_pages (m_pages hb') hbs rfl rfl rfl (Nat.le_of_ble_eq_true rfl) (fit hX (by decide)) ?_
      refine r_icmp_ge (tgt := 25) C dX2_learnAll_10 (by decide) (fun hc10 => ?_) (fun hc10 => ?_)
      · exact r_vret C dX2_learnAll_25 (by decide) (by decide) ⟨rfl, kn', ho', hk, hm, fun p q1 q2 => hd p q1 (by omega)⟩
      refine r_aload_n C dX2_learnAll_13 rfl ?_
      refine r_iload_n C dX2_learnAll_14 rfl ?_
      refine r_iload_n C dX2_learnAll_15 rfl ?_
      refine r_cVv C dX2_learnAll_16 mlX2_64 kX2_learn (m_Olearn (p := i) (v := v) ho' hb' hok h3 (by omega) hv hv2) hs rfl rfl rfl (Nat.le_of_ble_eq_true rfl) (fit hX (by decide)) ?_
      rintro h1 ⟨kn1, ho1, k1, hm1, hd1⟩
      refine r_iinc C dX2_learnAll_19 rfl (by decide) (by omega) ?_
      refine r_goto (tgt := 2) C dX2_learnAll_22 (by decide) ?_
      refine ih (i + 1) h1 kn1 (by omega) (by omega) (by omega) ho1 (hk.tr k1) (fun c z => hm1 c (hm c z)) (fun p q1 q2 q3 => ?_)
      by_cases hpi : p = i
      · rw [hpi] at q3 ⊢; exact hd1 q3
      · exact hm1 _ (hd p q1 (by omega) q3)
  obtain ⟨nt, x1, x2, x3, x4, x5, ft, fs, f2, f4, f5, ⟨hbs, -⟩, -, hvs, hpg, -⟩ := id hb
  refine r_iconst C dX2_learnAll_0 (by decide) ?_
  refine r_istore_n C dX2_learnAll_1 (by decide) ?_
  exact loop (pg.toNat + 1) 0 h kn (by omega) (by omega) (by omega) ho Kp.rf (fun _ z => z) (fun p q1 q2 => by omega)
theorem m_of {p v : Int} (ho : OS h ao bk rk vs pg mn tx tl kn) (hb : BkR h bk 10 vs pg mn tx tl du) (hp : 0 ≤ p) (hp2 : p < pg) (hex : tl p = -6) (hv : 0 ≤ v) (hv2 : v < vs) (hkn : ¬ kn (v * 12 + p) = 0) :
    Meets yX2_of cX2_of 3 (some .int) 2 0 0 [vR ao, vI p, vI v] h (pI (evV mn tx v p).1 h) := by
  obtain ⟨y1, y2, y3, xw, ca, us, fw, pl, gv, op, uu, ⟨hs, e1, e2, e3⟩, hr, hk⟩ := id ho
  obtain ⟨nt, x1, x2, x3, x4, x5, ft, fs, f2, f4, f5, ⟨hbs, -⟩, -, hvs, hpg, -⟩ := id hb
  refine Meets.of (plainFor_of_name (by decide)) (Nat.le_of_ble_eq_true rfl) (fun X C hX hN hA => ?_)
  refine r_aload_n C dX2_of_0 rfl ?_
  refine r_get C dX2_of_1 flX2_9 hs rfl ?_
  refine r_iload_n C dX2_of_4 rfl ?_
  refine r_cVi C dX2_of_5 mlX2_34 kX0_isExample (m_isExample (p := p) hb) hbs rfl rfl rfl (Nat.le_of_ble_eq_true rfl) (fit hX (by decide)) ?_
  refine r_if_eq (tgt := 36) C dX2_of_8 (by decide) (fun hc8 => ?_) (fun hc8 => ?_)
  · exact absurd hc8 (by rw [zb_t ⟨hp, hp2, hex⟩]; decide)
  · refine r_aload_n C dX2_of_11 rfl ?_
    refine r_get C dX2_of_12 flX2_9 hs rfl ?_
    refine r_iload_n C dX2_of_15 rfl ?_
    refine r_cVi C dX2_of_16 mlX2_40 kX0_hasVersion (m_hasVersion (v := v) hb) hbs rfl rfl rfl (Nat.le_of_ble_eq_true rfl) (fit hX (by decide)) ?_
    refine r_if_eq (tgt := 36) C dX2_of_19 (by decide) (fun hc19 => ?_) (fun hc19 => ?_)
    · exact absurd hc19 (by rw [zb_t ⟨hv, hv2⟩]; decide)
    · refine r_aload_n C dX2_of_22 rfl ?_
      refine r_get C dX2_of_23 flX2_23 hs rfl ?_
      refine r_iload_n C dX2_of_26 rfl ?_
      refine r_bipush C dX2_of_27 (by decide) ?_
      refine r_imul C dX2_of_29 (by omega) ?_
      refine r_iload_n C dX2_of_30 rfl ?_
      refine r_iadd C dX2_of_31 (by omega) ?_
      refine r_iald C dX2_of_32 e2 (by omega) (by omega) ?_
      refine r_goto (tgt := 38) C dX2_of_33 (by decide) ?_
      exact r_iret C dX2_of_38 (by decide) (by decide) (⟨some_I (hk v p hv (by omega) hp (by omega) hkn).2.1, rfl⟩)
theorem m_Oused {p v : Int} (ho : OS h ao bk rk vs pg mn tx tl kn) (hb : BkR h bk 10 vs pg mn tx tl du) (hp : 0 ≤ p) (hp2 : p < pg) (hv : 0 ≤ v) (hv2 : v < vs) (hkn : tl p = -6 → ¬ kn (v * 12 + p) = 0) :
    Meets yX2_used cX2_used 3 (some .int) 2 0 0 [vR ao, vI p, vI v] h (pI (if tl p = -6 then (evV mn tx v p).2.2 else 0) h) := by
  obtain ⟨y1, y2, y3, xw, ca, us, fw, pl, gv, op, uu, ⟨hs, e1, e2, e3⟩, hr, hk⟩ := id ho
  obtain ⟨nt, x1, x2, x3, x4, x5, ft, fs, f2, f4, f5, ⟨hbs, -⟩, -, hvs, hpg, -⟩ := id hb
  refine Meets.of (plainFor_of_name (by decide)) (Nat.le_of_ble_eq_true rfl) (fun X C hX hN hA => ?_)
  refine r_aload_n C dX2_used_0 rfl ?_
  refine r_get C dX2_used_1 flX2_9 hs rfl ?_
  refine r_iload_n C dX2_used_4 rfl ?_
  refine r_cVi C dX2_used_5 mlX2_34 kX0_isExample (m_isExample (p := p) hb) hbs rfl rfl rfl (Nat.le_of_ble_eq_true rfl) (fit hX (by decide)) ?_
  refine r_if_eq (tgt := 36) C dX2_used_8 (by decide) (fun hc8 => ?_) (fun hc8 => ?_)
  · refine r_iconst C dX2_used_36 (by decide) ?_
    exact r_iret C dX2_used_37 (by decide) (by decide) (⟨some_I (by first | (rw [if_pos (zb_n0.mp hc8).2.2]; exact (hk v p hv (by omega) hp (by omega) (hkn (zb_n0.mp hc8).2.2)).2.2) | (rw [if_neg (fun z => zb_0.mp hc8 ⟨hp, hp2, z⟩)])), rfl⟩)
  · refine r_aload_n C dX2_used_11 rfl ?_
    refine r_get C dX2_used_12 flX2_9 hs rfl ?_
    refine r_iload_n C dX2_used_15 rfl ?_
    refine r_cVi C dX2_used_16 mlX2_40 kX0_hasVersion (m_hasVersion (v := v) hb) hbs rfl rfl rfl (Nat.le_of_ble_eq_true rfl) (fit hX (by decide)) ?_
    refine r_if_eq (tgt := 36) C dX2_used_19 (by decide) (fun hc19 => ?_) (fun hc19 => ?_)
    · exact absurd hc19 (by rw [zb_t ⟨hv, hv2⟩]; decide)
    · refine r_aload_n C dX2_used_22 rfl ?_
      refine r_get C dX2_used_23 flX2_27 hs rfl ?_
      refine r_iload_n C dX2_used_26 rfl ?_
      refine r_bipush C dX2_used_27 (by decide) ?_
      refine r_imul C dX2_used_29 (by omega) ?_
      refine r_iload_n C dX2_used_30 rfl ?_
      refine r_iadd C dX2_used_31 (by omega) ?_
      refine r_iald C dX2_used_32 e3 (by omega) (by omega) ?_
      refine r_goto (tgt := 37) C dX2_used_33 (by decide) ?_
      exact r_iret C dX2_used_37 (by decide) (by decide) (⟨some_I (by first | (rw [if_pos (zb_n0.mp hc8).2.2]; exact (hk v p hv (by omega) hp (by omega) (hkn (zb_n0.mp hc8).2.2)).2.2) | (rw [if_neg (fun z => zb_0.mp hc8 ⟨hp, hp2, z⟩)])), rfl⟩)
/-- the example on page p holds in version v -/
def hold (mn : Int → Int) (tx : Int → Int → Int) (tl du : Int → Int) (v p : Int) : Prop := tl p = -6 ∧ (evV mn tx v p).1 = du p
theorem m_holds {p v : Int} (ho : OS h ao bk rk vs pg mn tx tl kn) (hb : BkR h bk 10 vs pg mn tx tl du) (hp : 0 ≤ p) (hp2 : p < pg) (hv : 0 ≤ v) (hv2 : v < vs) (hkn : tl p = -6 → ¬ kn (v * 12 + p) = 0) :
    Meets yX2_holds cX2_holds 3 (some .boolean) 2 0 0 [vR ao, vI p, vI v] h (pI (zb (hold mn tx tl du v p)) h) := by
  obtain ⟨y1, y2, y3, xw, ca, us, fw, pl, gv, op, uu, ⟨hs, e1, e2, e3⟩, hr, hk⟩ := id ho
  obtain ⟨nt, x1, x2, x3, x4, x5, ft, fs, f2, f4, f5, ⟨hbs, -⟩, -, hvs, hpg, -⟩ := id hb
  refine Meets.of (plainFor_of_name (by decide)) (Nat.le_of_ble_eq_true rfl) (fun X C hX hN hA => ?_)
  refine r_aload_n C dX2_holds_0 rfl ?_
  refine r_get C dX2_holds_1 flX2_9 hs rfl ?_
  refine r_iload_n C dX2_holds_4 rfl ?_
  refine r_cVi C dX2_holds_5 mlX2_34 kX0_isExample (m_isExample (p := p) hb) hbs rfl rfl rfl (Nat.le_of_ble_eq_true rfl) (fit hX (by decide)) ?_
  refine r_if_eq (tgt := 48) C dX2_holds_8 (by decide) (fun hc8 => ?_) (fun hc8 => ?_)
  · refine r_iconst C dX2_holds_48 (by decide) ?_
    exact r_zret C dX2_holds_49 (by omega) (by decide) (by decide) (⟨some_I (by first | (rw [zb_f (fun z => zb_0.mp hc8 ⟨hp, hp2, z.1⟩)]; done) | (rw [zb_t ⟨hx2, by omega⟩]; done) | (rw [zb_f (fun z => hc41 (by rw [hx3]; exact z.2))]; done)), rfl⟩)
  · have hx2 := (zb_n0.mp hc8).2.2
    refine r_aload_n C dX2_holds_11 rfl ?_
    refine r_get C dX2_holds_12 flX2_9 hs rfl ?_
    refine r_iload_n C dX2_holds_15 rfl ?_
    refine r_cVi C dX2_holds_16 mlX2_40 kX0_hasVersion (m_hasVersion (v := v) hb) hbs rfl rfl rfl (Nat.le_of_ble_eq_true rfl) (fit hX (by decide)) ?_
    refine r_if_eq (tgt := 48) C dX2_holds_19 (by decide) (fun hc19 => ?_) (fun hc19 => ?_)
    · exact absurd hc19 (by rw [zb_t ⟨hv, hv2⟩]; decide)
    · refine r_aload_n C dX2_holds_22 rfl ?_
      refine r_get C dX2_holds_23 flX2_23 hs rfl ?_
      refine r_iload_n C dX2_holds_26 rfl ?_
      refine r_bipush C dX2_holds_27 (by decide) ?_
      refine r_imul C dX2_holds_29 (by omega) ?_
      refine r_iload_n C dX2_holds_30 rfl ?_
      refine r_iadd C dX2_holds_31 (by omega) ?_
      refine r_iald C dX2_holds_32 e2 (by omega) (by omega) ?_
      have hx3 := (hk v p hv (by omega) hp (by omega) (hkn hx2)).2.1
      refine r_aload_n C dX2_holds_33 rfl ?_
      refine r_get C dX2_holds_34 flX2_9 hs rfl ?_
      refine r_iload_n C dX2_holds_37 rfl ?_
      refine r_cVi C dX2_holds_38 mlX2_68 kX0_due (m_due (p := p) hb hp hp2) hbs rfl rfl rfl (Nat.le_of_ble_eq_true rfl) (fit hX (by decide)) ?_
      refine r_icmp_ne (tgt := 48) C dX2_holds_41 (by decide) (fun hc41 => ?_) (fun hc41 => ?_)
      · refine r_iconst C dX2_holds_48 (by decide) ?_
        exact r_zret C dX2_holds_49 (by omega) (by decide) (by decide) (⟨some_I (by first | (rw [zb_f (fun z => zb_0.mp hc8 ⟨hp, hp2, z.1⟩)]; done) | (rw [zb_t ⟨hx2, by omega⟩]; done) | (rw [zb_f (fun z => hc41 (by rw [hx3]; exact z.2))]; done)), rfl⟩)
      · refine r_iconst C dX2_holds_44 (by decide) ?_
        refine r_goto (tgt := 49) C dX2_holds_45 (by decide) ?_
        exact r_zret C dX2_holds_49 (by omega) (by decide) (by decide) (⟨some_I (by first | (rw [zb_f (fun z => zb_0.mp hc8 ⟨hp, hp2, z.1⟩)]; done) | (rw [zb_t ⟨hx2, by omega⟩]; done) | (rw [zb_f (fun z => hc41 (by rw [hx3]; exact z.2))]; done)), rfl⟩)
theorem m_holding {v : Int} (ho : OS h ao bk rk vs pg mn tx tl kn) (hb : BkR h bk 10 vs pg mn tx tl du) (hv : 0 ≤ v) (hv2 : v < vs) (hkn : ∀ p, 0 ≤ p → p < pg → tl p = -6 → ¬ kn (v * 12 + p) = 0) :
    Meets yX2_holding cX2_holding 4 (some .int) 3 0 0 [vR ao, vI v] h (pI (bt (hold mn tx tl du v) pg) h) := by
  obtain ⟨y1, y2, y3, xw, ca, us, fw, pl, gv, op, uu, ⟨hs, e1, e2, e3⟩, hr, hk⟩ := id ho
  obtain ⟨nt, x1, x2, x3, x4, x5, ft, fs, f2, f4, f5, ⟨hbs, -⟩, -, hvs, hpg, -⟩ := id hb
  refine Meets.of (plainFor_of_name (by decide)) (Nat.le_of_ble_eq_true rfl) (fun X C hX hN hA => ?_)
  have loop : ∀ (j : Nat) (i : Int), 0 ≤ i → i ≤ pg → pg - i < j → Go X (Qm X (pI (bt (hold mn tx tl du v) pg) h) 0 0) 0 0 h 4 [some (vR ao), some (vI v), some (vI (bt (hold mn tx tl du v) i)), some (vI i)] [] := by
    intro j
    induction j with
    | zero => intro i h3 h4 h5; exact absurd h5 (by omega)
    | succ j ih =>
      intro i h3 h4 h5
      refine r_iload_n C dX2_holding_4 rfl ?_
      refine r_aload_n C dX2_holding_5 rfl ?_
      refine r_get C dX2_holding_6 flX2_9 hs rfl ?_
      refine r_cVi C dX2_holding_9 mlX2_61 kX0_pages (m_pages hb) hbs rfl rfl rfl (Nat.le_of_ble_eq_true rfl) (fit hX (by decide)) ?_
      refine r_icmp_ge (tgt := 36) C dX2_holding_12 (by decide) (fun hc12 => ?_) (fun hc12 => ?_)
      · refine r_iload_n C dX2_holding_36 rfl ?_
        exact r_iret C dX2_holding_37 (by decide) (by decide) ⟨some_I (by rw [show i = pg by omega]), rfl⟩
      · refine r_aload_n C dX2_holding_15 rfl ?_
        refine r_iload_n C dX2_holding_16 rfl ?_
        refine r_iload_n C dX2_holding_17 rfl ?_
        refine r_cVi C dX2_holding_18 mlX2_72 kX2_holds (m_holds (p := i) (v := v) ho hb h3 (by omega) hv hv2 (hkn i h3 (by omega))) hs rfl rfl rfl (Nat.le_of_ble_eq_true rfl) (fit hX (by decide)) ?_
        refine r_if_eq (tgt := 30) C dX2_holding_21 (by decide) (fun hc21 => ?_) (fun hc21 => ?_)
        · refine r_iinc C dX2_holding_30 rfl (by decide) (by omega) ?_
          refine r_goto (tgt := 4) C dX2_holding_33 (by decide) ?_
          have hz := ih (i + 1) (by omega) (by omega) (by omega)
          first | (rw [bt_f h3 (zb_0.mp hc21)] at hz; exact hz) | (rw [bt_t h3 (zb_n0.mp hc21)] at hz; exact hz)
        · refine r_iload_n C dX2_holding_24 rfl ?_
          refine r_iconst C dX2_holding_25 (by decide) ?_
          refine r_iload_n C dX2_holding_26 rfl ?_
          refine r_ishl C dX2_holding_27 ?_
          refine r_ior C dX2_holding_28 ?_
          refine r_istore_n C dX2_holding_29 (by decide) ?_
          refine r_iinc C dX2_holding_30 rfl (by decide) (by omega) ?_
          refine r_goto (tgt := 4) C dX2_holding_33 (by decide) ?_
          have hz := ih (i + 1) (by omega) (by omega) (by omega)
          first | (rw [bt_f h3 (zb_0.mp hc21)] at hz; exact hz) | (rw [bt_t h3 (zb_n0.mp hc21)] at hz; exact hz)
  refine r_iconst C dX2_holding_0 (by decide) ?_
  refine r_istore_n C dX2_holding_1 (by decide) ?_
  refine r_iconst C dX2_holding_2 (by decide) ?_
  refine r_istore_n C dX2_holding_3 (by decide) ?_
  exact loop (pg.toNat + 1) 0 (by omega) (by omega) (by omega)
/-- the example on page p has used word w in version v -/
def uses (mn : Int → Int) (tx : Int → Int → Int) (tl : Int → Int) (v w p : Int) : Prop := tl p = -6 ∧ bAnd (bShr (evV mn tx v p).2.2 w) 1 = 1
theorem bz_all : (List.range 8).all (fun j => decide (bAnd (bShr 0 (j : Int)) 1 = 0)) = true := by decide +kernel
theorem bz {w : Int} (h0 : 0 ≤ w) (h8 : w < 8) : bAnd (bShr 0 w) 1 = 0 := by
  obtain ⟨j, rfl⟩ := Int.eq_ofNat_of_zero_le h0
  exact of_decide_eq_true (List.all_eq_true.mp bz_all j (List.mem_range.mpr (by omega)))
theorem m_users {v w : Int} (ho : OS h ao bk rk vs pg mn tx tl kn) (hb : BkR h bk 10 vs pg mn tx tl du) (hv : 0 ≤ v) (hv2 : v < vs) (hw : 0 ≤ w) (hw8 : w < 8) (hkn : ∀ p, 0 ≤ p → p < pg → tl p = -6 → ¬ kn (v * 12 + p) = 0) :
    Meets yX2_users cX2_users 5 (some .int) 3 0 0 [vR ao, vI w, vI v] h (pI (bt (uses mn tx tl v w) pg) h) := by
  obtain ⟨y1, y2, y3, xw, ca, us, fw, pl, gv, op, uu, ⟨hs, e1, e2, e3⟩, hr, hk⟩ := id ho
  obtain ⟨nt, x1, x2, x3, x4, x5, ft, fs, f2, f4, f5, ⟨hbs, -⟩, -, hvs, hpg, -⟩ := id hb
  refine Meets.of (plainFor_of_name (by decide)) (Nat.le_of_ble_eq_true rfl) (fun X C hX hN hA => ?_)
  have loop : ∀ (j : Nat) (i : Int), 0 ≤ i → i ≤ pg → pg - i < j → Go X (Qm X (pI (bt (uses mn tx tl v w) pg) h) 0 0) 0 0 h 5 [some (vR ao), some (vI w), some (vI v), some (vI (bt (uses mn tx tl v w) i)), some (vI i)] [] := by
    intro j
    induction j with
    | zero => intro i h3 h4 h5; exact absurd h5 (by omega)
    | succ j ih =>
      intro i h3 h4 h5
      have key : ∀ z : Int, z = (if tl i = -6 then (evV mn tx v i).2.2 else 0) → (bAnd (bShr z w) 1 = 1 ↔ uses mn tx tl v w i) := by
        intro z hz
        by_cases ht : tl i = -6
        · rw [if_pos ht] at hz
          rw [hz]
          exact ⟨fun q => ⟨ht, q⟩, fun q => q.2⟩
        · rw [if_neg ht] at hz
          rw [hz, bz hw hw8]
          exact ⟨fun q => absurd q (by decide), fun q => absurd q.1 ht⟩
      have key2 := key _ rfl
      refine r_iload C dX2_users_5 rfl ?_
      refine r_aload_n C dX2_users_7 rfl ?_
      refine r_get C dX2_users_8 flX2_9 hs rfl ?_
      refine r_cVi C dX2_users_11 mlX2_61 kX0_pages (m_pages hb) hbs rfl rfl rfl (Nat.le_of_ble_eq_true rfl) (fit hX (by decide)) ?_
      refine r_icmp_ge (tgt := 45) C dX2_users_14 (by decide) (fun hc14 => ?_) (fun hc14 => ?_)
      · refine r_iload_n C dX2_users_45 rfl ?_
        exact r_iret C dX2_users_46 (by decide) (by decide) ⟨some_I (by rw [show i = pg by omega]), rfl⟩
      · refine r_aload_n C dX2_users_17 rfl ?_
        refine r_iload C dX2_users_18 rfl ?_
        refine r_iload_n C dX2_users_20 rfl ?_
        refine r_cVi C dX2_users_21 mlX2_76 kX2_used (m_Oused (p := i) (v := v) ho hb h3 (by omega) hv hv2 (hkn i h3 (by omega))) hs rfl rfl rfl (Nat.le_of_ble_eq_true rfl) (fit hX (by decide)) ?_
        refine r_iload_n C dX2_users_24 rfl ?_
        refine r_ishr C dX2_users_25 ?_
        refine r_iconst C dX2_users_26 (by decide) ?_
        refine r_iand C dX2_users_27 ?_
        refine r_iconst C dX2_users_28 (by decide) ?_
        refine r_icmp_ne (tgt := 39) C dX2_users_29 (by decide) (fun hc29 => ?_) (fun hc29 => ?_)
        · refine r_iinc C dX2_users_39 rfl (by decide) (by omega) ?_
          refine r_goto (tgt := 5) C dX2_users_42 (by decide) ?_
          have hz := ih (i + 1) (by omega) (by omega) (by omega)
          first | (rw [bt_f h3 (fun q => hc29 (key2.mpr q))] at hz; exact hz) | (rw [bt_t h3 (key2.mp hc29)] at hz; exact hz)
        · refine r_iload_n C dX2_users_32 rfl ?_
          refine r_iconst C dX2_users_33 (by decide) ?_
          refine r_iload C dX2_users_34 rfl ?_
          refine r_ishl C dX2_users_36 ?_
          refine r_ior C dX2_users_37 ?_
          refine r_istore_n C dX2_users_38 (by decide) ?_
          refine r_iinc C dX2_users_39 rfl (by decide) (by omega) ?_
          refine r_goto (tgt := 5) C dX2_users_42 (by decide) ?_
          have hz := ih (i + 1) (by omega) (by omega) (by omega)
          first | (rw [bt_f h3 (fun q => hc29 (key2.mpr q))] at hz; exact hz) | (rw [bt_t h3 (key2.mp hc29)] at hz; exact hz)
  refine r_iconst C dX2_users_0 (by decide) ?_
  refine r_istore_n C dX2_users_1 (by decide) ?_
  refine r_iconst C dX2_users_2 (by decide) ?_
  refine r_istore C dX2_users_3 (by decide) ?_
  exact loop (pg.toNat + 1) 0 (by omega) (by omega) (by omega)
theorem m_Oforget {v : Int} (ho : OS h ao bk rk vs pg mn tx tl kn) (hv : 0 ≤ v) (hv2 : v < 6) :
    Meets yX2_forget cX2_forget 3 none 0 0 0 [vR ao, vI v] h (pV (fun h' => ∃ kn', OS h' ao bk rk vs pg mn tx tl kn' ∧ Kp (fun t => t = 45) h h' ∧ (∀ c, (c < v * 12 ∨ v * 12 + 12 ≤ c) → kn' c = kn c) ∧ (∀ p, 0 ≤ p → p < 12 → kn' (v * 12 + p) = 0))) := by
  obtain ⟨y1, y2, y3, xw, ca, us, fw, pl, gv, op, uu, ⟨hs, e1, e2, e3⟩, hr, hk⟩ := id ho
  refine Meets.of (plainFor_of_name (by decide)) (Nat.le_of_ble_eq_true rfl) (fun X C hX hN hA => ?_)
  have loop : ∀ (j : Nat) (i : Int) (h' : Pic) (kn' : Int → Int), 0 ≤ i → i ≤ 12 → 12 - i < j → h' y1 = some (ia 45 2 72 kn') → Kp (fun t => t = 45) h h' → (∀ c, (c < v * 12 ∨ v * 12 + i ≤ c) → kn' c = kn c) → (∀ p, 0 ≤ p → p < i → kn' (v * 12 + p) = 0) →
      Go X (Qm X (pV (fun h' => ∃ kn', OS h' ao bk rk vs pg mn tx tl kn' ∧ Kp (fun t => t = 45) h h' ∧ (∀ c, (c < v * 12 ∨ v * 12 + 12 ≤ c) → kn' c = kn c) ∧ (∀ p, 0 ≤ p → p < 12 → kn' (v * 12 + p) = 0))) 0 0) 0 0 h' 12 [some (vR ao), some (vI v), some (vI i)] [] := by
    intro j
    induction j with
    | zero => intro i h' kn' h3 h4 h5; exact absurd h5 (by omega)
    | succ j ih =>
      intro i h' kn' h3 h4 h5 c1 hkp hm hd
      have hs' := hkp _ _ _ hs (by omega)
      refine r_iload_n C dX2_forget_12 rfl ?_
      refine r_bipush C dX2_forget_13 (by decide) ?_
      refine r_icmp_ge (tgt := 36) C dX2_forget_15 (by decide) (fun hc15 => ?_) (fun hc15 => ?_)
      · refine r_vret C dX2_forget_36 (by decide) (by decide) ⟨rfl, kn', ⟨y1, y2, y3, xw, ca, us, fw, pl, gv, op, uu, ⟨hs', c1, hkp _ _ _ e2 (by omega), hkp _ _ _ e3 (by omega)⟩, hr.kp hkp (by omega) (by omega), fun v' p' q1 q2 q3 q4 q5 => ?_⟩, hkp, fun c z => hm c (by omega), fun p q1 q2 => hd p q1 (by omega)⟩
        by_cases hcc : v' = v
        · exact absurd (by rw [hcc]; exact hd p' q3 (by omega)) q5
        · rw [hm _ (by omega)] at q5
          exact hk v' p' q1 q2 q3 q4 q5
      refine r_aload_n C dX2_forget_18 rfl ?_
      refine r_get C dX2_forget_19 flX2_19 hs' rfl ?_
      refine r_iload_n C dX2_forget_22 rfl ?_
      refine r_bipush C dX2_forget_23 (by decide) ?_
      refine r_imul C dX2_forget_25 (by omega) ?_
      refine r_iload_n C dX2_forget_26 rfl ?_
      refine r_iadd C dX2_forget_27 (by omega) ?_
      refine r_iconst C dX2_forget_28 (by decide) ?_
      refine r_zastA C dX2_forget_29 c1 (by omega) (by omega) (by omega) (fun h1 g1 o1 => ?_)
      have k1 : Kp (fun t => t = 45) h' h1 := o1.kp c1 rfl
      refine r_iinc C dX2_forget_30 rfl (by decide) (by omega) ?_
      refine r_goto (tgt := 12) C dX2_forget_33 (by decide) ?_
      refine ih (i + 1) h1 (fu kn' (v * 12 + i) 0) (by omega) (by omega) (by omega) g1 (hkp.tr k1) (fun c z => ?_) (fun p q1 q2 => ?_)
      · rw [fu_n (by omega)]; exact hm c (by omega)
      · by_cases hpi : p = i
        · rw [hpi, fu_s]
        · rw [fu_n (by omega)]; exact hd p q1 (by omega)
  refine r_iload_n C dX2_forget_0 rfl ?_
  refine r_if_lt (tgt := 36) C dX2_forget_1 (by decide) (fun q => absurd q (by omega)) (fun _ => ?_)
  refine r_iload_n C dX2_forget_4 rfl ?_
  refine r_bipush C dX2_forget_5 (by decide) ?_
  refine r_icmp_ge (tgt := 36) C dX2_forget_7 (by decide) (fun q => absurd q (by omega)) (fun _ => ?_)
  refine r_iconst C dX2_forget_10 (by decide) ?_
  refine r_istore_n C dX2_forget_11 (by decide) ?_
  exact loop 13 0 h kn (by omega) (by omega) (by omega) e1 Kp.rf (fun _ _ => rfl) (fun p q1 q2 => by omega)
theorem m_OforgetAll (ho : OS h ao bk rk vs pg mn tx tl kn) :
    Meets yX2_forgetAll cX2_forgetAll 2 none 1 0 0 [vR ao] h (pV (fun h' => ∃ kn', OS h' ao bk rk vs pg mn tx tl kn' ∧ Kp (fun t => t = 45) h h' ∧ (∀ c, 0 ≤ c → c < 72 → kn' c = 0))) := by
  refine Meets.of (plainFor_of_name (by decide)) (Nat.le_of_ble_eq_true rfl) (fun X C hX hN hA => ?_)
  have loop : ∀ (j : Nat) (i : Int) (h' : Pic) (kn' : Int → Int), 0 ≤ i → i ≤ 6 → 6 - i < j → OS h' ao bk rk vs pg mn tx tl kn' → Kp (fun t => t = 45) h h' → (∀ c, 0 ≤ c → c < 12 * i → kn' c = 0) →
      Go X (Qm X (pV (fun h' => ∃ kn', OS h' ao bk rk vs pg mn tx tl kn' ∧ Kp (fun t => t = 45) h h' ∧ (∀ c, 0 ≤ c → c < 72 → kn' c = 0))) 0 0) 0 0 h' 2 [some (vR ao), some (vI i)] [] := by
    intro j
    induction j with
    | zero => intro i h' kn' h3 h4 h5; exact absurd h5 (by omega)
    | succ j ih =>
      intro i h' kn' h3 h4 h5 ho' hkp hd
      obtain ⟨y1, y2, y3, xw, ca, us, fw, pl, gv, op, uu, ⟨hs, -⟩, -⟩ := id ho'
      refine r_iload_n C dX2_forgetAll_2 rfl ?_
      refine r_bipush C dX2_forgetAll_3 (by decide) ?_
      refine r_icmp_ge (tgt := 19) C dX2_forgetAll_5 (by decide) (fun hc5 => ?_) (fun hc5 => ?_)
      · exact r_vret C dX2_forgetAll_19 (by decide) (by decide) ⟨rfl, kn', ho', hkp, fun c q1 q2 => hd c q1 (by omega)⟩
      refine r_aload_n C dX2_forgetAll_8 rfl ?_
      refine r_iload_n C dX2_forgetAll_9 rfl ?_
      refine r_cVv C dX2_forgetAll_10 mlX2_30 kX2_forget (m_Oforget (v := i) ho' h3 (by omega)) hs rfl rfl rfl (Nat.le_of_ble_eq_true rfl) (fit hX (by decide)) ?_
      rintro h1 ⟨kn1, ho1, k1, hm1, hd1⟩
      refine r_iinc C dX2_forgetAll_13 rfl (by decide) (by omega) ?_
      refine r_goto (tgt := 2) C dX2_forgetAll_16 (by decide) ?_
      refine ih (i + 1) h1 kn1 (by omega) (by omega) (by omega) ho1 (hkp.tr k1) (fun c q1 q2 => ?_)
      by_cases hci : c < 12 * i
      · rw [hm1 c (by omega)]; exact hd c q1 hci
      · have := hd1 (c - i * 12) (by omega) (by omega)
        rw [show i * 12 + (c - i * 12) = c by omega] at this
        exact this
  refine r_iconst C dX2_forgetAll_0 (by decide) ?_
  refine r_istore_n C dX2_forgetAll_1 (by decide) ?_
  exact loop 7 0 h kn (by omega) (by omega) (by omega) ho Kp.rf (fun c q1 q2 => by omega)
end
