/-! Slips, third part: kept -/
def OkS (vs pg : Int) (mn : Int → Int) (tx : Int → Int → Int) (tl du kn no : Int → Int) : Prop := ∀ v, 0 ≤ v → v < 6 → ¬ kn v = 0 → v < vs ∧ ∀ s, 0 ≤ s → s < sc (isS mn tx v) 320 → no (v * 320 + s) = bt (ntc mn tx tl du v (en (isS mn tx v) 320 s)) pg
abbrev SL : Nat → Prop := fun t => t = 3 ∨ t = 4 ∨ t = 42 ∨ t = 43 ∨ (49 ≤ t ∧ t ≤ 51)
theorem SlR.kp {h h' : Pic} {S : Nat → Prop} {al bk ao rk tr z1 z2 z3 : Nat} {cs kn no : Int → Int} (hl : SlR h al bk ao rk tr z1 z2 z3 cs kn no) (x : Kp S h h') (hs : ∀ t, 48 ≤ t → t ≤ 51 → ¬ S t) : SlR h' al bk ao rk tr z1 z2 z3 cs kn no := ⟨x _ _ _ hl.1 (hs _ (by omega) (by omega)), x _ _ _ hl.2.1 (hs _ (by omega) (by omega)), x _ _ _ hl.2.2.1 (hs _ (by omega) (by omega)), x _ _ _ hl.2.2.2 (hs _ (by omega) (by omega))⟩
section
variable {h : Pic} {al bk ao rk tr z1 z2 z3 : Nat} {vs pg : Int} {mn : Int → Int} {tx : Int → Int → Int} {tl du kn cs kn2 no : Int → Int}
theorem m_Sforget (hl : SlR h al bk ao rk tr z1 z2 z3 cs kn2 no) : Meets yX5_forget cX5_forget 2 none 0 0 0 [vR al] h (pV (fun h' => ∃ kn', SlR h' al bk ao rk tr z1 z2 z3 cs kn' no ∧ (∀ c, 0 ≤ c → c < 6 → kn' c = 0) ∧ Kp (fun t => t = 50) h h')) := by
  refine Meets.of (plainFor_of_name (by decide)) (Nat.le_of_ble_eq_true rfl) (fun X C hX hN hA => ?_)
  have loop : ∀ (j : Nat) (i : Int) (h' : Pic) (kn' : Int → Int), 0 ≤ i → i ≤ 6 → 6 - i < j → SlR h' al bk ao rk tr z1 z2 z3 cs kn' no → (∀ c, 0 ≤ c → c < i → kn' c = 0) → Kp (fun t => t = 50) h h' →
      Go X (Qm X (pV (fun h' => ∃ kn', SlR h' al bk ao rk tr z1 z2 z3 cs kn' no ∧ (∀ c, 0 ≤ c → c < 6 → kn' c = 0) ∧ Kp (fun t => t = 50) h h')) 0 0) 0 0 h' 2 [some (vR al), some (vI i)] [] := by
    intro j
    induction j with
    | zero => intro i h' kn' h3 h4 h5; exact absurd h5 (by omega)
    | succ j ih =>
      intro i h' kn' h3 h4 h5 hl' hd hk
      refine r_iload_n C dX5_forget_2 rfl ?_
      refine r_bipush C dX5_forget_3 (by decide) ?_
      refine r_icmp_ge (tgt := 21) C dX5_forget_5 (by decide) (fun hc5 => ?_) (fun hc5 => ?_)
      · exact r_vret C dX5_forget_21 (by decide) (by decide) ⟨rfl, kn', hl', fun c q1 q2 => hd c q1 (by omega), hk⟩
      refine r_aload_n C dX5_forget_8 rfl ?_
      refine r_get C dX5_forget_9 flX5_31 hl'.1 rfl ?_
      refine r_iload_n C dX5_forget_12 rfl ?_
      refine r_iconst C dX5_forget_13 (by decide) ?_
      refine r_zastA C dX5_forget_14 hl'.2.2.1 (by omega) (by omega) (by omega) (fun h1 g1 o1 => ?_)
      have k1 : Kp (fun t => t = 50) h' h1 := o1.kp hl'.2.2.1 rfl
      refine r_iinc C dX5_forget_15 rfl (by decide) (by omega) ?_
      refine r_goto (tgt := 2) C dX5_forget_18 (by decide) ?_
      refine ih (i + 1) h1 (fu kn' i 0) (by omega) (by omega) (by omega) ⟨k1 _ _ _ hl'.1 (by omega), k1 _ _ _ hl'.2.1 (by omega), g1, k1 _ _ _ hl'.2.2.2 (by omega)⟩ (fun cz q1 q2 => ?_) (hk.tr k1)
      by_cases hci : cz = i
      · rw [hci, fu_s]
      · rw [fu_n hci]; exact hd cz q1 (by omega)
  refine r_iconst C dX5_forget_0 (by decide) ?_
  refine r_istore_n C dX5_forget_1 (by decide) ?_
  exact loop 7 0 h kn2 (by omega) (by omega) (by omega) hl (fun c q1 q2 => by omega) Kp.rf
theorem m_Scode {s : Int} (hl : SlR h al bk ao rk tr z1 z2 z3 cs kn2 no) (h0 : 0 ≤ s) (h1 : s < 320) : Meets yX5_code cX5_code 2 (some .int) 0 0 0 [vR al, vI s] h (pI (cs s) h) := by
  obtain ⟨hs, e1, e2, e3⟩ := hl
  refine Meets.of (plainFor_of_name (by decide)) (Nat.le_of_ble_eq_true rfl) (fun X C hX hN hA => ?_)
  refine r_iload_n C dX5_code_0 rfl ?_
  refine r_if_lt (tgt := 20) C dX5_code_1 (by decide) (fun hc1 => ?_) (fun hc1 => ?_)
  · exact absurd hc1 (by omega)
  · refine r_iload_n C dX5_code_4 rfl ?_
    refine r_sipush C dX5_code_5 (by decide) ?_
    refine r_icmp_ge (tgt := 20) C dX5_code_8 (by decide) (fun hc8 => ?_) (fun hc8 => ?_)
    · exact absurd hc8 (by omega)
    · refine r_aload_n C dX5_code_11 rfl ?_
      refine r_get C dX5_code_12 flX5_27 hs rfl ?_
      refine r_iload_n C dX5_code_15 rfl ?_
      refine r_iald C dX5_code_16 e1 (by omega) (by omega) ?_
      refine r_goto (tgt := 22) C dX5_code_17 (by decide) ?_
      exact r_iret C dX5_code_22 (by decide) (by decide) (⟨rfl, rfl⟩)
theorem m_Snoticers {v s : Int} (hl : SlR h al bk ao rk tr z1 z2 z3 cs kn2 no) (hb : BkR h bk 10 vs pg mn tx tl du) (hv : 0 ≤ v) (hv2 : v < vs) (h0 : 0 ≤ s) (h1 : s < 320) : Meets yX5_noticers cX5_noticers 3 (some .int) 1 0 0 [vR al, vI v, vI s] h (pI (no (v * 320 + s)) h) := by
  obtain ⟨hs, e1, e2, e3⟩ := hl
  obtain ⟨nt, x1, x2, x3, x4, x5, ft, fs, f2, f4, f5, ⟨hbs, -⟩, -, hvs, hpg, -⟩ := id hb
  refine Meets.of (plainFor_of_name (by decide)) (Nat.le_of_ble_eq_true rfl) (fun X C hX hN hA => ?_)
  refine r_aload_n C dX5_noticers_0 rfl ?_
  refine r_get C dX5_noticers_1 flX5_9 hs rfl ?_
  refine r_iload_n C dX5_noticers_4 rfl ?_
  refine r_cVi C dX5_noticers_5 mlX5_59 kX0_hasVersion (m_hasVersion (v := v) hb) hbs rfl rfl rfl (Nat.le_of_ble_eq_true rfl) (fit hX (by decide)) ?_
  refine r_if_eq (tgt := 22) C dX5_noticers_8 (by decide) (fun hc8 => ?_) (fun hc8 => ?_)
  · exact absurd hc8 (by rw [zb_t ⟨hv, hv2⟩]; decide)
  · refine r_iload_n C dX5_noticers_11 rfl ?_
    refine r_if_lt (tgt := 22) C dX5_noticers_12 (by decide) (fun hc12 => ?_) (fun hc12 => ?_)
    · exact absurd hc12 (by omega)
    · refine r_iload_n C dX5_noticers_15 rfl ?_
      refine r_sipush C dX5_noticers_16 (by decide) ?_
      refine r_icmp_lt (tgt := 24) C dX5_noticers_19 (by decide) (fun hc19 => ?_) (fun hc19 => ?_)
      · refine r_aload_n C dX5_noticers_24 rfl ?_
        refine r_get C dX5_noticers_25 flX5_35 hs rfl ?_
        refine r_iload_n C dX5_noticers_28 rfl ?_
        refine r_sipush C dX5_noticers_29 (by decide) ?_
        refine r_imul C dX5_noticers_32 (by omega) ?_
        refine r_iload_n C dX5_noticers_33 rfl ?_
        refine r_iadd C dX5_noticers_34 (by omega) ?_
        refine r_iald C dX5_noticers_35 e3 (by omega) (by omega) ?_
        exact r_iret C dX5_noticers_36 (by decide) (by decide) (⟨rfl, rfl⟩)
      · exact absurd hc19 (by omega)
theorem m_Slearn {v : Int} (hl : SlR h al bk ao rk tr z1 z2 z3 cs kn2 no) (hos : OkS vs pg mn tx tl du kn2 no) (ho : OS h ao bk rk vs pg mn tx tl kn) (hb : BkR h bk 10 vs pg mn tx tl du) (htr : TrR h tr) (hok : okB vs pg mn tx tl) (hdu : ∀ p, 0 ≤ p → p < pg → tl p = -6 → 0 ≤ du p) (hv : 0 ≤ v) (hv2 : v < vs) (hkn : ∀ p, 0 ≤ p → p < pg → tl p = -6 → ¬ kn (v * 12 + p) = 0) :
    Meets yX5_learn cX5_learn 4 (some .int) 191 0 0 [vR al, vI v] h (pX (fun z h' => z = sc (isS mn tx v) 320 ∧ ∃ cs' kn' no', SlR h' al bk ao rk tr z1 z2 z3 cs' kn' no' ∧ OkS vs pg mn tx tl du kn' no' ∧ ¬ kn' v = 0 ∧ OS h' ao bk rk vs pg mn tx tl kn ∧ TrR h' tr ∧ Kp SL h h')) := by
  obtain ⟨nt, x1, x2, x3, x4, x5, ft, fs, f2, f4, f5, ⟨hbs, -⟩, -, hvs, hpg, -⟩ := id hb
  have hsr := sc_rng (isS mn tx v) (i := 320) (by omega)
  refine Meets.of (plainFor_of_name (by decide)) (Nat.le_of_ble_eq_true rfl) (fun X C hX hN hA => ?_)
  refine r_aload_n C dX5_learn_0 rfl ?_
  refine r_get C dX5_learn_1 flX5_9 hl.1 rfl ?_
  refine r_iload_n C dX5_learn_4 rfl ?_
  refine r_cVi C dX5_learn_5 mlX5_59 kX0_hasVersion (m_hasVersion (v := v) hb) hbs rfl rfl rfl (Nat.le_of_ble_eq_true rfl) (fit hX (by decide)) ?_
  rw [zb_t ⟨hv, hv2⟩]
  refine r_if_ne (tgt := 13) C dX5_learn_8 (by decide) (fun _ => ?_) (fun q => absurd q (by decide))
  refine r_aload_n C dX5_learn_13 rfl ?_
  refine r_iload_n C dX5_learn_14 rfl ?_
  refine r_cVx C dX5_learn_15 mlX5_63 kX5_list (m_list (v := v) hl hb hv hv2) hl.1 rfl rfl rfl (Nat.le_of_ble_eq_true rfl) (fit hX (by decide)) ?_
  rintro cnt1 h1 ⟨rfl, cs1, hl1, k1, hC1⟩
  have kSL1 : Kp SL h h1 := k1.mono (fun t z => by omega)
  have ho1 : OS h1 ao bk rk vs pg mn tx tl kn := ho.kp k1 (fun t q1 q2 => by omega)
  have htr1 : TrR h1 tr := htr.kp k1 (by omega) (by omega)
  refine r_istore_n C dX5_learn_18 (by decide) ?_
  refine r_aload_n C dX5_learn_19 rfl ?_
  refine r_get C dX5_learn_20 flX5_31 hl1.1 rfl ?_
  refine r_iload_n C dX5_learn_23 rfl ?_
  refine r_zald C dX5_learn_24 hl1.2.2.1 (by omega) (by omega) ?_
  refine r_if_ne (tgt := 83) C dX5_learn_25 (by decide) (fun hc25 => ?_) (fun hc25 => ?_)
  · refine r_iload_n C dX5_learn_83 rfl ?_
    exact r_iret C dX5_learn_84 (by decide) (by decide) ⟨_, rfl, rfl, cs1, kn2, no, hl1, hos, hc25, ho1, htr1, kSL1⟩
  have loop : ∀ (j : Nat) (i : Int) (h' : Pic) (no' : Int → Int), 0 ≤ i → i ≤ sc (isS mn tx v) 320 → sc (isS mn tx v) 320 - i < j → SlR h' al bk ao rk tr z1 z2 z3 cs1 kn2 no' → (∀ c, (c < v * 320 ∨ v * 320 + 320 ≤ c) → no' c = no c) → (∀ s, 0 ≤ s → s < i → no' (v * 320 + s) = bt (ntc mn tx tl du v (en (isS mn tx v) 320 s)) pg) → OS h' ao bk rk vs pg mn tx tl kn → TrR h' tr → Kp SL h h' →
      Go X (Qm X (pX (fun z h' => z = sc (isS mn tx v) 320 ∧ ∃ cs' kn' no', SlR h' al bk ao rk tr z1 z2 z3 cs' kn' no' ∧ OkS vs pg mn tx tl du kn' no' ∧ ¬ kn' v = 0 ∧ OS h' ao bk rk vs pg mn tx tl kn ∧ TrR h' tr ∧ Kp SL h h')) 0 0) 0 0 h' 30 [some (vR al), some (vI v), some (vI (sc (isS mn tx v) 320)), some (vI i)] [] := by
    intro j
    induction j with
    | zero => intro i h' no' h3 h4 h5; exact absurd h5 (by omega)
    | succ j ih =>
      intro i h' no' h3 h4 h5 hl' hm hd ho' htr' hk
      have hb' : BkR h' bk 10 vs pg mn tx tl du := hb.kp hk (by omega) (by omega) (fun t q1 q2 => by omega)
      refine r_iload_n C dX5_learn_30 rfl ?_
      refine r_iload_n C dX5_learn_31 rfl ?_
      refine r_icmp_ge (tgt := 76) C dX5_learn_32 (by decide) (fun hc32 => ?_) (fun hc32 => ?_)
      · refine r_aload_n C dX5_learn_76 rfl ?_
        refine r_get C dX5_learn_77 flX5_31 hl'.1 rfl ?_
        refine r_iload_n C dX5_learn_80 rfl ?_
        refine r_iconst C dX5_learn_81 (by decide) ?_
        refine r_zastA C dX5_learn_82 hl'.2.2.1 (by omega) (by omega) (by omega) (fun h2 g2 o2 => ?_)
        have k2 : Kp (fun t => t = 50) h' h2 := o2.kp hl'.2.2.1 rfl
        refine r_iload_n C dX5_learn_83 rfl ?_
        refine r_iret C dX5_learn_84 (by decide) (by decide) ⟨_, rfl, rfl, cs1, fu kn2 v 1, no', ⟨k2 _ _ _ hl'.1 (by omega), k2 _ _ _ hl'.2.1 (by omega), g2, k2 _ _ _ hl'.2.2.2 (by omega)⟩, ?_, by rw [fu_s]; decide, ho'.kp k2 (fun t q1 q2 => by omega), htr'.kp k2 (by omega) (by omega), hk.tr (k2.mono (fun t z => by omega))⟩
        intro vz vz0 vz6 hvz
        by_cases hvv : vz = v
        · subst hvv
          exact ⟨hv2, fun s s0 s1 => hd s s0 (by omega)⟩
        · rw [fu_n hvv] at hvz
          obtain ⟨r1, r2⟩ := hos vz vz0 vz6 hvz
          refine ⟨r1, fun s s0 s1 => ?_⟩
          have hsz := sc_rng (isS mn tx vz) (i := 320) (by omega)
          rw [hm _ (by omega)]
          exact r2 s s0 s1
      obtain ⟨hen1, hen2, hen3⟩ := en_ok (isS mn tx v) (i := 320) (s := i) (by omega) h3 (by omega)
      have hcode := hC1 i h3 (by omega)
      refine r_aload_n C dX5_learn_35 rfl ?_
      refine r_get C dX5_learn_36 flX5_35 hl'.1 rfl ?_
      refine r_iload_n C dX5_learn_39 rfl ?_
      refine r_sipush C dX5_learn_40 (by decide) ?_
      refine r_imul C dX5_learn_43 (by omega) ?_
      refine r_iload_n C dX5_learn_44 rfl ?_
      refine r_iadd C dX5_learn_45 (by omega) ?_
      refine r_aload_n C dX5_learn_46 rfl ?_
      refine r_iload_n C dX5_learn_47 rfl ?_
      refine r_aload_n C dX5_learn_48 rfl ?_
      refine r_get C dX5_learn_49 flX5_27 hl'.1 rfl ?_
      refine r_iload_n C dX5_learn_52 rfl ?_
      refine r_iald C dX5_learn_53 hl'.2.1 (by omega) (by omega) ?_
      refine r_bipush C dX5_learn_54 (by decide) ?_
      rw [hcode]
      refine r_idiv C dX5_learn_56 (by omega) ?_
      rw [bDiv_eq (by omega) (by omega) (by omega) (by omega), show (100 * (en (isS mn tx v) 320 i / 40) + en (isS mn tx v) 320 i % 40) / 100 = en (isS mn tx v) 320 i / 40 by omega]
      refine r_aload_n C dX5_learn_57 rfl ?_
      refine r_get C dX5_learn_58 flX5_27 hl'.1 rfl ?_
      refine r_iload_n C dX5_learn_61 rfl ?_
      refine r_iald C dX5_learn_62 hl'.2.1 (by omega) (by omega) ?_
      refine r_bipush C dX5_learn_63 (by decide) ?_
      rw [hcode]
      refine r_irem C dX5_learn_65 (by omega) ?_
      rw [bRem_nn (by omega) (by omega) (by omega) (by omega), show (100 * (en (isS mn tx v) 320 i / 40) + en (isS mn tx v) 320 i % 40) % 100 = en (isS mn tx v) 320 i % 40 by omega]
      refine r_cVx C dX5_learn_66 mlX5_66 kX5_reckonNoticers (m_reckonNoticers (v := v) (q := en (isS mn tx v) 320 i) hl' ho' hb' htr' hok hdu hv hv2 hen2 hen3 hen1 hkn) hl'.1 rfl rfl rfl (Nat.le_of_ble_eq_true rfl) (fit hX (by decide)) ?_
      rintro rn h2 ⟨rfl, ho2, htr2, k2⟩
      have hl2 := hl'.kp k2 (fun t q1 q2 => by omega)
      refine r_iastA C dX5_learn_69 hl2.2.2.2 (by omega) (by omega) (fun h3' g3 o3 => ?_)
      have k3 : Kp (fun t => t = 51) h2 h3' := o3.kp hl2.2.2.2 rfl
      refine r_iinc C dX5_learn_70 rfl (by decide) (by omega) ?_
      refine r_goto (tgt := 30) C dX5_learn_73 (by decide) ?_
      refine ih (i + 1) h3' (fu no' (v * 320 + i) (bt (ntc mn tx tl du v (en (isS mn tx v) 320 i)) pg)) (by omega) (by omega) (by omega) ⟨k3 _ _ _ hl2.1 (by omega), k3 _ _ _ hl2.2.1 (by omega), k3 _ _ _ hl2.2.2.1 (by omega), g3⟩ (fun cz hcz => ?_) (fun s s0 s1 => ?_) (ho2.kp k3 (fun t q1 q2 => by omega)) (htr2.kp k3 (by omega) (by omega)) (hk.tr ((k2.mono (fun t z => by omega)).tr (k3.mono (fun t z => by omega))))
      · rw [fu_n (by omega)]; exact hm cz hcz
      · by_cases hsi : s = i
        · rw [hsi, fu_s]
        · rw [fu_n (by omega)]; exact hd s s0 (by omega)
  refine r_iconst C dX5_learn_28 (by decide) ?_
  refine r_istore_n C dX5_learn_29 (by decide) ?_
  exact loop ((sc (isS mn tx v) 320).toNat + 1) 0 h1 no (by omega) (by omega) (by omega) hl1 (fun _ _ => rfl) (fun s s0 s1 => by omega) ho1 htr1 kSL1
end
