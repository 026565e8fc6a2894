/-! Reckoner, second part: part and give -/
section
variable {gv : Int → Int → (Int × Int) → Sv} {n : Int} {f : Int → Int} {d : Nat} {p x : Int} {s : Int × Int}
theorem ev_x (h1 : f p = 120) : ev gv n f (d + 1) p x s = (x, s) := by
  conv => lhs; unfold ev
  rw [if_pos h1]
theorem ev_d (h1 : ¬ f p = 120) (h2 : isD (f p)) : ev gv n f (d + 1) p x s = (f p - 48, s) := by
  conv => lhs; unfold ev
  rw [if_neg h1, if_pos h2]
theorem ev_neg (h1 : ¬ f p = 120) (h2 : ¬ isD (f p)) (h3 : (ev gv n f d (p + 1) x s).1 < 0) : ev gv n f (d + 1) p x s = ev gv n f d (p + 1) x s := by
  conv => lhs; unfold ev
  rw [if_neg h1, if_neg h2, if_pos h3]
theorem ev_w (h1 : ¬ f p = 120) (h2 : ¬ isD (f p)) (h3 : ¬ (ev gv n f d (p + 1) x s).1 < 0) (h4 : isW (f p)) : ev gv n f (d + 1) p x s = gv (f p - 97) (ev gv n f d (p + 1) x s).1 (ev gv n f d (p + 1) x s).2 := by
  conv => lhs; unfold ev
  rw [if_neg h1, if_neg h2, if_neg h3, if_pos h4]
theorem ev_q0 (h3 : ¬ (ev gv n f d (p + 1) x s).1 < 0) (h4 : f p = 63) (h5 : (ev gv n f d (p + 1) x s).1 = 0) : ev gv n f (d + 1) p x s = ev gv n f d (pe n f d (p + 1)) x (ev gv n f d (p + 1) x s).2 := by
  conv => lhs; unfold ev
  rw [if_neg (by omega), if_neg (by omega), if_neg h3, if_neg (by omega), if_pos h4, if_pos h5]
theorem ev_q1 (h3 : ¬ (ev gv n f d (p + 1) x s).1 < 0) (h4 : f p = 63) (h5 : ¬ (ev gv n f d (p + 1) x s).1 = 0) : ev gv n f (d + 1) p x s = ev gv n f d (pe n f d (pe n f d (p + 1))) x (ev gv n f d (p + 1) x s).2 := by
  conv => lhs; unfold ev
  rw [if_neg (by omega), if_neg (by omega), if_neg h3, if_neg (by omega), if_pos h4, if_neg h5]
theorem ev_jn (h1 : ¬ f p = 120) (h2 : ¬ isD (f p)) (h3 : ¬ (ev gv n f d (p + 1) x s).1 < 0) (h4 : ¬ isW (f p)) (h5 : ¬ f p = 63) (h6 : (ev gv n f d (pe n f d (p + 1)) x (ev gv n f d (p + 1) x s).2).1 < 0) : ev gv n f (d + 1) p x s = ev gv n f d (pe n f d (p + 1)) x (ev gv n f d (p + 1) x s).2 := by
  conv => lhs; unfold ev
  rw [if_neg h1, if_neg h2, if_neg h3, if_neg h4, if_neg h5, if_pos h6]
theorem ev_j (h1 : ¬ f p = 120) (h2 : ¬ isD (f p)) (h3 : ¬ (ev gv n f d (p + 1) x s).1 < 0) (h4 : ¬ isW (f p)) (h5 : ¬ f p = 63) (h6 : ¬ (ev gv n f d (pe n f d (p + 1)) x (ev gv n f d (p + 1) x s).2).1 < 0) : ev gv n f (d + 1) p x s = (jn (f p) (ev gv n f d (p + 1) x s).1 (ev gv n f d (pe n f d (p + 1)) x (ev gv n f d (p + 1) x s).2).1, (ev gv n f d (pe n f d (p + 1)) x (ev gv n f d (p + 1) x s).2).2) := by
  conv => lhs; unfold ev
  rw [if_neg h1, if_neg h2, if_neg h3, if_neg h4, if_neg h5, if_neg h6]
end
theorem m_partS {wn : Int → Int} {wt : Int → Int → Int} {o d : Nat} (hd6 : d + 1 ≤ 6) (hW : okW wn wt) (ihP : PartOk wn wt o d) (hG : GiveOk wn wt o) : PartOk wn wt o (d + 1) := by
  intro h a xw at' fw pl gv us n x e f hr hw ht hp he h1 hx hx2 hg hg2
  obtain ⟨b, t, t', m, g, hts, hta, h0, hnm, h40, hgf⟩ := id ht
  obtain ⟨hpn, hz, hpit⟩ := pe_s hp he h1
  have hnd := nd_rng (f pl)
  have hsum : (6 : Int) - ((d + 1 : Nat) : Int) + 1 = 6 - (d : Int) := by omega
  refine Meets.of (plainFor_of_name (by decide)) (Nat.le_of_ble_eq_true rfl) (fun X C hX hN hA => ?_)
  refine r_iload_n C dX3_part_0 rfl ?_
  refine r_bipush C dX3_part_1 (by decide) ?_
  refine r_icmp_le (tgt := 9) C dX3_part_3 (by decide) (fun _ => ?_) (fun q => absurd q (by omega))
  refine r_aload_n C dX3_part_9 rfl ?_
  refine r_aload_n C dX3_part_10 rfl ?_
  refine r_get C dX3_part_11 flX3_27 hr.1 rfl ?_
  refine r_cVi C dX3_part_14 mlX3_44 kX6_sign (m_sign ht (p := pl)) hts rfl rfl rfl (Nat.le_of_ble_eq_true rfl) (fit hX (by omega)) ?_
  rw [sgn_in hp hpn]
  refine r_istore C dX3_part_17 (by decide) ?_
  refine r_aload_n C dX3_part_19 rfl ?_
  refine r_dup C dX3_part_20 ?_
  refine r_get C dX3_part_21 flX3_27 hr.1 rfl ?_
  refine r_iconst C dX3_part_24 (by decide) ?_
  refine r_iadd C dX3_part_25 (by omega) ?_
  refine r_putA C dX3_part_26 flX3_27 hr.1 rfl rfl (fs2 := [vR xw, vI (pl + 1), vI gv, vI (20 - o), vI us]) rfl (fun h1' e1 o1 => ?_)
  have hr1 : RkR h1' a xw fw (pl + 1) gv (20 - o) us := hr.off o1 e1
  have hw1 : WdR h1' fw wn wt := hw.off o1 hr.1 (by decide)
  have ht1 : TxR h1' at' n f := ht.a1 o1 hr.1 (by decide)
  refine r_iload C dX3_part_29 rfl ?_
  refine r_bipush C dX3_part_31 (by decide) ?_
  refine r_icmp_ne (tgt := 38) C dX3_part_33 (by decide) (fun hc1 => ?_) (fun hc1 => ?_)
  rotate_left
  · refine r_iload_n C dX3_part_36 rfl ?_
    rw [ev_x hc1]
    have hez : e = pl + 1 := by
      have : nd (f pl) = 0 := by rw [hc1]; decide
      rw [this] at hpit
      exact hpit.symm
    exact r_iret C dX3_part_37 (by decide) (by decide) ⟨x, rfl, rfl, pl + 1, hr1, o1, fun _ => by omega, by omega, by omega⟩
  refine r_iload C dX3_part_38 rfl ?_
  refine r_cSi C dX3_part_40 mlX3_48 kX4_isDigit (m_SD (c := f pl)) rfl rfl (Nat.le_of_ble_eq_true rfl) (fit hX (by omega)) ?_
  refine r_if_eq (tgt := 52) C dX3_part_43 (by decide) (fun hc2 => ?_) (fun hc2 => ?_)
  rotate_left
  · have hD : isD (f pl) := zb_n0.mp hc2
    refine r_iload C dX3_part_46 rfl ?_
    refine r_bipush C dX3_part_48 (by decide) ?_
    refine r_isub C dX3_part_50 (by omega) ?_
    rw [ev_d hc1 hD]
    have hez : e = pl + 1 := by
      have : nd (f pl) = 0 := by unfold nd; rw [if_pos (by omega)]
      rw [this] at hpit
      exact hpit.symm
    exact r_iret C dX3_part_51 (by decide) (by decide) ⟨f pl - 48, rfl, rfl, pl + 1, hr1, o1, fun _ => by omega, by omega, by omega⟩
  have hD : ¬ isD (f pl) := zb_0.mp hc2
  have hnz : nd (f pl) ≠ 0 := fun q => by have := nd0 q; omega
  obtain ⟨kk, hkk⟩ : ∃ kk, (nd (f pl)).toNat = kk + 1 := ⟨(nd (f pl)).toNat - 1, by omega⟩
  rw [hkk] at hpit
  obtain ⟨q1, q2⟩ := pit_1 (by omega) hpit h1
  have hb1 := pe_rng n f d (pl + 1) (by omega) (by omega)
  have hok1 := ev_ok (gvN_ok hW o) (n := n) (f := f) d (pl + 1) x _ (gv, us) (by omega) rfl q1 hx hx2 hg hg2
  refine r_aload_n C dX3_part_52 rfl ?_
  refine r_aload_n C dX3_part_53 rfl ?_
  refine r_iload_n C dX3_part_54 rfl ?_
  refine r_iload_n C dX3_part_55 rfl ?_
  refine r_iconst C dX3_part_56 (by decide) ?_
  refine r_iadd C dX3_part_57 (by omega) ?_
  rw [hsum]
  refine r_cVx C dX3_part_58 mlX3_40 kX3_part (ihP h1' a xw at' fw (pl + 1) gv us n x _ f hr1 hw1 ht1 (by omega) rfl q1 hx hx2 hg hg2) hr1.1 rfl rfl rfl (Nat.le_of_ble_eq_true rfl) (fit hX (by omega)) ?_
  rintro v1 h2' ⟨hv1, pl1, hr2, o2, hpl1, hplb1⟩
  have hw2 : WdR h2' fw wn wt := hw1.off o2 hr1.1 (by decide)
  have ht2 : TxR h2' at' n f := ht1.a1 o2 hr1.1 (by decide)
  obtain ⟨hk1, hk2, hk3⟩ := hok1
  dsimp only at hk2
  refine r_istore C dX3_part_61 (by decide) ?_
  refine r_iload C dX3_part_63 rfl ?_
  refine r_if_ge (tgt := 71) C dX3_part_65 (by decide) (fun hc3 => ?_) (fun hc3 => ?_)
  rotate_left
  · refine r_iload C dX3_part_68 rfl ?_
    rw [ev_neg hc1 hD (by omega)]
    exact r_iret C dX3_part_70 (by decide) (by decide) ⟨v1, rfl, hv1, pl1, hr2, o1.tr o2, fun q => by omega, hplb1.1, hplb1.2⟩
  have hp1 := hpl1 hc3
  subst hp1
  refine r_iload C dX3_part_71 rfl ?_
  refine r_cSi C dX3_part_73 mlX3_53 kX4_isWord (m_SW (c := f pl)) rfl rfl (Nat.le_of_ble_eq_true rfl) (fit hX (by omega)) ?_
  refine r_if_eq (tgt := 91) C dX3_part_76 (by decide) (fun hc4 => ?_) (fun hc4 => ?_)
  rotate_left
  · have hWd : isW (f pl) := zb_n0.mp hc4
    have hez : pe n f d (pl + 1) = e := by
      have : nd (f pl) = 1 := by unfold nd; (repeat' split) <;> omega
      have hk0 : kk = 0 := by omega
      rw [hk0] at q2
      exact q2
    rw [ev_w hc1 hD (by omega) hWd, ← hv1]
    refine r_aload_n C dX3_part_79 rfl ?_
    refine r_iload C dX3_part_80 rfl ?_
    refine r_bipush C dX3_part_82 (by decide) ?_
    refine r_isub C dX3_part_84 (by omega) ?_
    refine r_iload C dX3_part_85 rfl ?_
    refine r_cVx C dX3_part_87 mlX3_54 kX3_give (hG h2' a xw fw (pe n f d (pl + 1)) _ _ (f pl - 97) v1 hr2 hw2 (by omega) (by omega) (by omega) (by omega) (by omega) (by omega) (by omega) (by omega)) hr2.1 rfl rfl rfl (Nat.le_of_ble_eq_true rfl) (fit hX (by omega)) ?_
    rintro v2 h3' ⟨hv2, pl2, hr3, o3, hpl2, hplb2⟩
    exact r_iret C dX3_part_90 (by decide) (by decide) ⟨v2, rfl, hv2, pl2, hr3, o1.tr (o2.tr o3), fun q => by rw [hpl2 q, hez], hplb2.1, hplb2.2⟩
  have hWd : ¬ isW (f pl) := zb_0.mp hc4
  have hnd1 : nd (f pl) ≠ 1 := fun q => hWd (nd1 q)
  obtain ⟨k2, hkk2⟩ : ∃ k2, kk = k2 + 1 := ⟨kk - 1, by omega⟩
  rw [hkk2] at q2
  obtain ⟨q3, q4⟩ := pit_1 q1 q2 h1
  have hb2 := pe_rng n f d (pe n f d (pl + 1)) q1 hb1.2.1
  refine r_iload C dX3_part_91 rfl ?_
  refine r_bipush C dX3_part_93 (by decide) ?_
  refine r_icmp_ne (tgt := 115) C dX3_part_95 (by decide) (fun hc5 => ?_) (fun hc5 => ?_)
  · -- two texts
    have hk20 : k2 = 0 := by
      have : nd (f pl) ≠ 3 := fun q => hc5 (nd3 q)
      omega
    rw [hk20] at q4
    have hez : pe n f d (pe n f d (pl + 1)) = e := q4
    have hok2 := ev_ok (gvN_ok hW o) (n := n) (f := f) d (pe n f d (pl + 1)) x _ _ q1 rfl q3 hx hx2 (by omega) hk3
    obtain ⟨hj1, hj2, hj3⟩ := hok2
    refine r_aload_n C dX3_part_115 rfl ?_
    refine r_aload_n C dX3_part_116 rfl ?_
    refine r_iload_n C dX3_part_117 rfl ?_
    refine r_iload_n C dX3_part_118 rfl ?_
    refine r_iconst C dX3_part_119 (by decide) ?_
    refine r_iadd C dX3_part_120 (by omega) ?_
    rw [hsum]
    refine r_cVx C dX3_part_121 mlX3_40 kX3_part (ihP h2' a xw at' fw (pe n f d (pl + 1)) _ _ n x _ f hr2 hw2 ht2 q1 rfl q3 hx hx2 (by omega) hk3) hr2.1 rfl rfl rfl (Nat.le_of_ble_eq_true rfl) (fit hX (by omega)) ?_
    rintro v2 h3' ⟨hv2, pl2, hr3, o3, hpl2, hplb2⟩
    refine r_istore C dX3_part_124 (by decide) ?_
    refine r_iload C dX3_part_126 rfl ?_
    refine r_if_ge (tgt := 134) C dX3_part_128 (by decide) (fun hc6 => ?_) (fun hc6 => ?_)
    rotate_left
    · refine r_iload C dX3_part_131 rfl ?_
      rw [ev_jn hc1 hD (by omega) hWd hc5 (by rw [← hv2]; omega)]
      exact r_iret C dX3_part_133 (by decide) (by decide) ⟨v2, rfl, hv2, pl2, hr3, o1.tr (o2.tr o3), fun q => by omega, hplb2.1, hplb2.2⟩
    refine r_iload C dX3_part_134 rfl ?_
    refine r_bipush C dX3_part_136 (by decide) ?_
    refine r_icmp_eq (tgt := 151) C dX3_part_138 (by decide) (fun q => absurd q hc5) (fun _ => ?_)
    rw [ev_j hc1 hD (by omega) hWd hc5 (by rw [← hv2]; omega)]
    refine r_iload C dX3_part_141 rfl ?_
    refine r_iload C dX3_part_143 rfl ?_
    refine r_iload C dX3_part_145 rfl ?_
    refine r_cSi C dX3_part_147 mlX3_61 kX4_joined (m_joined (c := f pl) (a := v1) (b := v2) (by omega) (by have hv2' : v2 = (ev (gvN wn wt o) n f d (pe n f d (pl + 1)) x (ev (gvN wn wt o) n f d (pl + 1) x (gv, us)).2).1 := hv2; omega)) rfl rfl (Nat.le_of_ble_eq_true rfl) (fit hX (by omega)) ?_
    exact r_iret C dX3_part_150 (by decide) (by decide) ⟨_, rfl, by rw [hv1, hv2], pl2, hr3, o1.tr (o2.tr o3), fun q => by rw [hpl2 hc6, hez], hplb2.1, hplb2.2⟩
  · -- three texts
    have hn3 : nd (f pl) = 3 := by rw [hc5]; decide
    have hk21 : k2 = 1 := by omega
    rw [hk21] at q4
    obtain ⟨q5, q6⟩ := pit_1 q3 q4 h1
    have hez : pe n f d (pe n f d (pe n f d (pl + 1))) = e := q6
    have hok2 := ev_ok (gvN_ok hW o) (n := n) (f := f) d (pe n f d (pl + 1)) x _ _ q1 rfl q3 hx hx2 (by omega) hk3
    have hok3 := ev_ok (gvN_ok hW o) (n := n) (f := f) d (pe n f d (pe n f d (pl + 1))) x _ _ q3 rfl q5 hx hx2 (by omega) hk3
    have hb3 := pe_rng n f d (pe n f d (pe n f d (pl + 1))) q3 hb2.2.1
    refine r_iload C dX3_part_98 rfl ?_
    refine r_if_eq (tgt := 115) C dX3_part_100 (by decide) (fun hc6 => ?_) (fun hc6 => ?_)
    · -- the second one
      rw [ev_q0 (by omega) hc5 (by omega)]
      refine r_aload_n C dX3_part_115 rfl ?_
      refine r_aload_n C dX3_part_116 rfl ?_
      refine r_iload_n C dX3_part_117 rfl ?_
      refine r_iload_n C dX3_part_118 rfl ?_
      refine r_iconst C dX3_part_119 (by decide) ?_
      refine r_iadd C dX3_part_120 (by omega) ?_
      rw [hsum]
      refine r_cVx C dX3_part_121 mlX3_40 kX3_part (ihP h2' a xw at' fw (pe n f d (pl + 1)) _ _ n x _ f hr2 hw2 ht2 q1 rfl q3 hx hx2 (by omega) hk3) hr2.1 rfl rfl rfl (Nat.le_of_ble_eq_true rfl) (fit hX (by omega)) ?_
      rintro v2 h3' ⟨hv2, pl2, hr3, o3, hpl2, hplb2⟩
      refine r_istore C dX3_part_124 (by decide) ?_
      refine r_iload C dX3_part_126 rfl ?_
      refine r_if_ge (tgt := 134) C dX3_part_128 (by decide) (fun hc7 => ?_) (fun hc7 => ?_)
      rotate_left
      · refine r_iload C dX3_part_131 rfl ?_
        exact r_iret C dX3_part_133 (by decide) (by decide) ⟨v2, rfl, hv2, pl2, hr3, o1.tr (o2.tr o3), fun q => by omega, hplb2.1, hplb2.2⟩
      have hp2 := hpl2 hc7
      subst hp2
      have ht3 : TxR h3' at' n f := ht2.a1 o3 hr2.1 (by decide)
      obtain ⟨b3, t3, t3', m3, g3, hts3, -⟩ := id ht3
      refine r_iload C dX3_part_134 rfl ?_
      refine r_bipush C dX3_part_136 (by decide) ?_
      refine r_icmp_eq (tgt := 151) C dX3_part_138 (by decide) (fun _ => ?_) (fun q => absurd hc5 q)
      refine r_iload C dX3_part_151 rfl ?_
      refine r_if_ne (tgt := 168) C dX3_part_153 (by decide) (fun q => absurd hc6 q) (fun _ => ?_)
      refine r_aload_n C dX3_part_156 rfl ?_
      refine r_aload_n C dX3_part_157 rfl ?_
      refine r_aload_n C dX3_part_158 rfl ?_
      refine r_get C dX3_part_159 flX3_27 hr3.1 rfl ?_
      refine r_cVi C dX3_part_162 mlX3_58 kX6_behind (m_behind ht3 (d := d) q3 hb2.2.1 hez h1) hts3 rfl rfl rfl (Nat.le_of_ble_eq_true rfl) (fit hX (by omega)) ?_
      refine r_putA C dX3_part_165 flX3_27 hr3.1 rfl rfl (fs2 := [vR xw, vI e, vI (ev (gvN wn wt o) n f d (pe n f d (pl + 1)) x (ev (gvN wn wt o) n f d (pl + 1) x (gv, us)).2).2.1, vI (20 - o), vI (ev (gvN wn wt o) n f d (pe n f d (pl + 1)) x (ev (gvN wn wt o) n f d (pl + 1) x (gv, us)).2).2.2]) rfl (fun h4' e4 o4 => ?_)
      refine r_iload C dX3_part_168 rfl ?_
      exact r_iret C dX3_part_170 (by decide) (by decide) ⟨v2, rfl, hv2, e, hr3.off o4 e4, o1.tr (o2.tr (o3.tr o4)), fun _ => rfl, h1, by omega⟩
    · -- the third one
      rw [ev_q1 (by omega) hc5 (by omega)]
      obtain ⟨b3, t3, t3', m3, g3, hts3, -⟩ := id ht2
      refine r_aload_n C dX3_part_103 rfl ?_
      refine r_aload_n C dX3_part_104 rfl ?_
      refine r_aload_n C dX3_part_105 rfl ?_
      refine r_get C dX3_part_106 flX3_27 hr2.1 rfl ?_
      refine r_cVi C dX3_part_109 mlX3_58 kX6_behind (m_behind ht2 (d := d) q1 hb1.2.1 rfl q3) hts3 rfl rfl rfl (Nat.le_of_ble_eq_true rfl) (fit hX (by omega)) ?_
      refine r_putA C dX3_part_112 flX3_27 hr2.1 rfl rfl (fs2 := [vR xw, vI (pe n f d (pe n f d (pl + 1))), vI (ev (gvN wn wt o) n f d (pl + 1) x (gv, us)).2.1, vI (20 - o), vI (ev (gvN wn wt o) n f d (pl + 1) x (gv, us)).2.2]) rfl (fun h4' e4 o4 => ?_)
      have hr4 : RkR h4' a xw fw (pe n f d (pe n f d (pl + 1))) _ (20 - o) _ := hr2.off o4 e4
      have hw4 : WdR h4' fw wn wt := hw2.off o4 hr2.1 (by decide)
      have ht4 : TxR h4' at' n f := ht2.a1 o4 hr2.1 (by decide)
      refine r_aload_n C dX3_part_115 rfl ?_
      refine r_aload_n C dX3_part_116 rfl ?_
      refine r_iload_n C dX3_part_117 rfl ?_
      refine r_iload_n C dX3_part_118 rfl ?_
      refine r_iconst C dX3_part_119 (by decide) ?_
      refine r_iadd C dX3_part_120 (by omega) ?_
      rw [hsum]
      refine r_cVx C dX3_part_121 mlX3_40 kX3_part (ihP h4' a xw at' fw (pe n f d (pe n f d (pl + 1))) _ _ n x _ f hr4 hw4 ht4 q3 rfl q5 hx hx2 (by omega) hk3) hr4.1 rfl rfl rfl (Nat.le_of_ble_eq_true rfl) (fit hX (by omega)) ?_
      rintro v2 h3' ⟨hv2, pl2, hr3, o3, hpl2, hplb2⟩
      refine r_istore C dX3_part_124 (by decide) ?_
      refine r_iload C dX3_part_126 rfl ?_
      refine r_if_ge (tgt := 134) C dX3_part_128 (by decide) (fun hc7 => ?_) (fun hc7 => ?_)
      rotate_left
      · refine r_iload C dX3_part_131 rfl ?_
        exact r_iret C dX3_part_133 (by decide) (by decide) ⟨v2, rfl, hv2, pl2, hr3, o1.tr (o2.tr (o4.tr o3)), fun q => by omega, hplb2.1, hplb2.2⟩
      refine r_iload C dX3_part_134 rfl ?_
      refine r_bipush C dX3_part_136 (by decide) ?_
      refine r_icmp_eq (tgt := 151) C dX3_part_138 (by decide) (fun _ => ?_) (fun q => absurd hc5 q)
      refine r_iload C dX3_part_151 rfl ?_
      refine r_if_ne (tgt := 168) C dX3_part_153 (by decide) (fun _ => ?_) (fun q => absurd q hc6)
      refine r_iload C dX3_part_168 rfl ?_
      exact r_iret C dX3_part_170 (by decide) (by decide) ⟨v2, rfl, hv2, pl2, hr3, o1.tr (o2.tr (o4.tr o3)), fun q => by rw [hpl2 q, hez], hplb2.1, hplb2.2⟩
theorem m_give0 {wn : Int → Int} {wt : Int → Int → Int} : GiveOk wn wt 0 := by
  intro h a xw fw pl gv us w v hr hw h0 h1 hv hv2 hg hg2 hp hp2
  obtain ⟨q, hq, ht⟩ := hw w h0 h1
  obtain ⟨b, t, t', m, g, hts, hta, -⟩ := id ht
  refine Meets.of (plainFor_of_name (by decide)) (Nat.le_of_ble_eq_true rfl) (fun X C hX hN hA => ?_)
  refine r_iload_n C dX3_give_0 rfl ?_
  refine r_cNi C dX3_give_1 C.K.2.2.2.2 kX7_isWord (m_isWord (c := w)) rfl rfl (Nat.le_of_ble_eq_true rfl) (fit hX (by omega)) ?_
  rw [zb_t ⟨h0, h1⟩]
  refine r_if_ne (tgt := 10) C dX3_give_4 (by decide) (fun _ => ?_) (fun q => absurd q (by decide))
  refine r_aload_n C dX3_give_10 rfl ?_
  refine r_get C dX3_give_11 flX3_11 hr.1 rfl ?_
  refine r_iload_n C dX3_give_14 rfl ?_
  refine r_aald C dX3_give_15 hr.2 (by omega) (by omega) hq ?_
  refine r_cVi C dX3_give_16 mlX3_65 kX6_count (m_count ht) hts rfl rfl rfl (Nat.le_of_ble_eq_true rfl) (fit hX (by omega)) ?_
  refine r_if_ne (tgt := 26) C dX3_give_19 (by decide) (fun hc1 => ?_) (fun hc1 => ?_)
  · -- there is a text: ENDLESS
    refine r_iconst C dX3_give_26 (by decide) ?_
    refine r_istore_n C dX3_give_27 (by decide) ?_
    refine r_iload_n C dX3_give_28 rfl ?_
    refine r_if_ne (tgt := 54) C dX3_give_29 (by decide) (fun q => absurd rfl q) (fun _ => ?_)
    have hend : Go X (Qm X (pX (evP (gvN wn wt 0 w v (gv, us)) a xw fw (20 - (0 : Nat)) pl h)) 0 0) 0 0 h 51 [some (vR a), some (vI w), some (vI v), some (vI 0), none, none] [] := by
      refine r_bipush C dX3_give_51 (by decide) ?_
      exact r_iret C dX3_give_53 (by decide) (by decide) ⟨-11, rfl, by show -11 = (if wn w = 0 then ((-10 : Int), (gv, bOr us (bShl 1 w))) else (-11, (gv, us))).1; rw [if_neg hc1], pl, by show RkR h a xw fw pl (if wn w = 0 then ((-10 : Int), (gv, bOr us (bShl 1 w))) else (-11, (gv, us))).2.1 _ (if wn w = 0 then ((-10 : Int), (gv, bOr us (bShl 1 w))) else (-11, (gv, us))).2.2; rw [if_neg hc1]; exact hr, Off.rf, fun _ => rfl, hp, hp2⟩
    refine r_aload_n C dX3_give_32 rfl ?_
    refine r_get C dX3_give_33 flX3_31 hr.1 rfl ?_
    refine r_sipush C dX3_give_36 (by decide) ?_
    refine r_icmp_ge (tgt := 51) C dX3_give_39 (by decide) (fun hc2 => ?_) (fun hc2 => ?_)
    · exact hend
    · refine r_aload_n C dX3_give_42 rfl ?_
      refine r_get C dX3_give_43 flX3_34 hr.1 rfl ?_
      refine r_bipush C dX3_give_46 (by decide) ?_
      refine r_icmp_lt (tgt := 54) C dX3_give_48 (by decide) (fun q => absurd q (by decide)) (fun _ => ?_)
      exact hend
  · -- GONE
    refine r_iconst C dX3_give_22 (by decide) ?_
    refine r_goto (tgt := 27) C dX3_give_23 (by decide) ?_
    refine r_istore_n C dX3_give_27 (by decide) ?_
    refine r_iload_n C dX3_give_28 rfl ?_
    refine r_if_ne (tgt := 54) C dX3_give_29 (by decide) (fun _ => ?_) (fun q => absurd q (by decide))
    refine r_aload_n C dX3_give_54 rfl ?_
    refine r_dup C dX3_give_55 ?_
    refine r_get C dX3_give_56 flX3_37 hr.1 rfl ?_
    refine r_iconst C dX3_give_59 (by decide) ?_
    refine r_iload_n C dX3_give_60 rfl ?_
    refine r_ishl C dX3_give_61 ?_
    refine r_ior C dX3_give_62 ?_
    refine r_putA C dX3_give_63 flX3_37 hr.1 rfl rfl (fs2 := [vR xw, vI pl, vI gv, vI (20 - (0 : Nat)), vI (bOr us (bShl 1 w))]) rfl (fun h1' e1 o1 => ?_)
    refine r_iload_n C dX3_give_66 rfl ?_
    refine r_if_eq (tgt := 73) C dX3_give_67 (by decide) (fun q => absurd q (by decide)) (fun _ => ?_)
    refine r_bipush C dX3_give_70 (by decide) ?_
    exact r_iret C dX3_give_72 (by decide) (by decide) ⟨-10, rfl, by show -10 = (if wn w = 0 then ((-10 : Int), (gv, bOr us (bShl 1 w))) else (-11, (gv, us))).1; rw [if_pos hc1], pl, by show RkR h1' a xw fw pl (if wn w = 0 then ((-10 : Int), (gv, bOr us (bShl 1 w))) else (-11, (gv, us))).2.1 _ (if wn w = 0 then ((-10 : Int), (gv, bOr us (bShl 1 w))) else (-11, (gv, us))).2.2; rw [if_pos hc1]; exact hr.off o1 e1, o1, fun _ => rfl, hp, hp2⟩
theorem gv_gone {wn : Int → Int} {wt : Int → Int → Int} {o : Nat} {w v : Int} {s : Int × Int} (h : wn w = 0) : gvN wn wt (o + 1) w v s = (-10, (s.1, bOr s.2 (bShl 1 w))) := if_pos h
theorem gv_end {wn : Int → Int} {wt : Int → Int → Int} {o : Nat} {w v : Int} {s : Int × Int} (h : ¬ wn w = 0) (h2 : 300 ≤ s.1) : gvN wn wt (o + 1) w v s = (-11, s) := (if_neg h).trans (if_pos h2)
theorem gv_in {wn : Int → Int} {wt : Int → Int → Int} {o : Nat} {w v : Int} {s : Int × Int} (h : ¬ wn w = 0) (h2 : ¬ 300 ≤ s.1) : gvN wn wt (o + 1) w v s = ev (gvN wn wt o) (wn w) (wt w) 6 0 v (s.1 + 1, bOr s.2 (bShl 1 w)) := (if_neg h).trans (if_neg h2)
theorem m_giveS {wn : Int → Int} {wt : Int → Int → Int} {o : Nat} (ho : o + 1 ≤ 20) (hW : okW wn wt) (hP : PartOk wn wt o 6) : GiveOk wn wt (o + 1) := by
  intro h a xw fw pl gv us w v hr hw h0 h1 hv hv2 hg hg2 hp hp2
  obtain ⟨q, hq, ht⟩ := hw w h0 h1
  obtain ⟨b, t, t', m, g, hts, hta, -⟩ := id ht
  have hop : (20 : Int) - ((o + 1 : Nat) : Int) + 1 = 20 - (o : Int) := by omega
  have hop2 : (20 : Int) - (o : Int) - 1 = 20 - ((o + 1 : Nat) : Int) := by omega
  refine Meets.of (plainFor_of_name (by decide)) (Nat.le_of_ble_eq_true rfl) (fun X C hX hN hA => ?_)
  refine r_iload_n C dX3_give_0 rfl ?_
  refine r_cNi C dX3_give_1 C.K.2.2.2.2 kX7_isWord (m_isWord (c := w)) rfl rfl (Nat.le_of_ble_eq_true rfl) (fit hX (by omega)) ?_
  rw [zb_t ⟨h0, h1⟩]
  refine r_if_ne (tgt := 10) C dX3_give_4 (by decide) (fun _ => ?_) (fun q => absurd q (by decide))
  refine r_aload_n C dX3_give_10 rfl ?_
  refine r_get C dX3_give_11 flX3_11 hr.1 rfl ?_
  refine r_iload_n C dX3_give_14 rfl ?_
  refine r_aald C dX3_give_15 hr.2 (by omega) (by omega) hq ?_
  refine r_cVi C dX3_give_16 mlX3_65 kX6_count (m_count ht) hts rfl rfl rfl (Nat.le_of_ble_eq_true rfl) (fit hX (by omega)) ?_
  refine r_if_ne (tgt := 26) C dX3_give_19 (by decide) (fun hc1 => ?_) (fun hc1 => ?_)
  rotate_left
  · -- GONE
    rw [gv_gone hc1]
    refine r_iconst C dX3_give_22 (by decide) ?_
    refine r_goto (tgt := 27) C dX3_give_23 (by decide) ?_
    refine r_istore_n C dX3_give_27 (by decide) ?_
    refine r_iload_n C dX3_give_28 rfl ?_
    refine r_if_ne (tgt := 54) C dX3_give_29 (by decide) (fun _ => ?_) (fun q => absurd q (by decide))
    refine r_aload_n C dX3_give_54 rfl ?_
    refine r_dup C dX3_give_55 ?_
    refine r_get C dX3_give_56 flX3_37 hr.1 rfl ?_
    refine r_iconst C dX3_give_59 (by decide) ?_
    refine r_iload_n C dX3_give_60 rfl ?_
    refine r_ishl C dX3_give_61 ?_
    refine r_ior C dX3_give_62 ?_
    refine r_putA C dX3_give_63 flX3_37 hr.1 rfl rfl (fs2 := [vR xw, vI pl, vI gv, vI (20 - ((o + 1 : Nat) : Int)), vI (bOr us (bShl 1 w))]) rfl (fun h1' e1 o1 => ?_)
    refine r_iload_n C dX3_give_66 rfl ?_
    refine r_if_eq (tgt := 73) C dX3_give_67 (by decide) (fun q => absurd q (by decide)) (fun _ => ?_)
    refine r_bipush C dX3_give_70 (by decide) ?_
    exact r_iret C dX3_give_72 (by decide) (by decide) ⟨-10, rfl, rfl, pl, hr.off o1 e1, o1, fun _ => rfl, hp, hp2⟩
  refine r_iconst C dX3_give_26 (by decide) ?_
  refine r_istore_n C dX3_give_27 (by decide) ?_
  refine r_iload_n C dX3_give_28 rfl ?_
  refine r_if_ne (tgt := 54) C dX3_give_29 (by decide) (fun q => absurd rfl q) (fun _ => ?_)
  refine r_aload_n C dX3_give_32 rfl ?_
  refine r_get C dX3_give_33 flX3_31 hr.1 rfl ?_
  refine r_sipush C dX3_give_36 (by decide) ?_
  refine r_icmp_ge (tgt := 51) C dX3_give_39 (by decide) (fun hc2 => ?_) (fun hc2 => ?_)
  · -- ENDLESS
    rw [gv_end hc1 hc2]
    refine r_bipush C dX3_give_51 (by decide) ?_
    exact r_iret C dX3_give_53 (by decide) (by decide) ⟨-11, rfl, rfl, pl, hr, Off.rf, fun _ => rfl, hp, hp2⟩
  refine r_aload_n C dX3_give_42 rfl ?_
  refine r_get C dX3_give_43 flX3_34 hr.1 rfl ?_
  refine r_bipush C dX3_give_46 (by decide) ?_
  refine r_icmp_lt (tgt := 54) C dX3_give_48 (by decide) (fun _ => ?_) (fun q => absurd q (by omega))
  rw [gv_in hc1 (by show ¬ 300 ≤ gv; omega)]
  rcases hW w h0 h1 with h4 | ⟨h4, h5⟩
  · exact absurd h4 hc1
  have hok := ev_ok (gvN_ok hW o) 6 0 v _ (gv + 1, bOr us (bShl 1 w)) (Int.le_refl 0) h5 (by omega) hv hv2 (by show 0 ≤ gv + 1; omega) (by show gv + 1 ≤ 300; omega)
  refine r_aload_n C dX3_give_54 rfl ?_
  refine r_dup C dX3_give_55 ?_
  refine r_get C dX3_give_56 flX3_37 hr.1 rfl ?_
  refine r_iconst C dX3_give_59 (by decide) ?_
  refine r_iload_n C dX3_give_60 rfl ?_
  refine r_ishl C dX3_give_61 ?_
  refine r_ior C dX3_give_62 ?_
  refine r_putA C dX3_give_63 flX3_37 hr.1 rfl rfl (fs2 := [vR xw, vI pl, vI gv, vI (20 - ((o + 1 : Nat) : Int)), vI (bOr us (bShl 1 w))]) rfl (fun h1' e1 o1 => ?_)
  have hr1 := hr.off o1 e1
  refine r_iload_n C dX3_give_66 rfl ?_
  refine r_if_eq (tgt := 73) C dX3_give_67 (by decide) (fun _ => ?_) (fun q => absurd rfl q)
  refine r_aload_n C dX3_give_73 rfl ?_
  refine r_dup C dX3_give_74 ?_
  refine r_get C dX3_give_75 flX3_31 hr1.1 rfl ?_
  refine r_iconst C dX3_give_78 (by decide) ?_
  refine r_iadd C dX3_give_79 (by omega) ?_
  refine r_putA C dX3_give_80 flX3_31 hr1.1 rfl rfl (fs2 := [vR xw, vI pl, vI (gv + 1), vI (20 - ((o + 1 : Nat) : Int)), vI (bOr us (bShl 1 w))]) rfl (fun h2' e2 o2 => ?_)
  have hr2 := hr1.off o2 e2
  refine r_aload_n C dX3_give_83 rfl ?_
  refine r_dup C dX3_give_84 ?_
  refine r_get C dX3_give_85 flX3_34 hr2.1 rfl ?_
  refine r_iconst C dX3_give_88 (by decide) ?_
  refine r_iadd C dX3_give_89 (by omega) ?_
  rw [hop]
  refine r_putA C dX3_give_90 flX3_34 hr2.1 rfl rfl (fs2 := [vR xw, vI pl, vI (gv + 1), vI (20 - (o : Int)), vI (bOr us (bShl 1 w))]) rfl (fun h3' e3 o3 => ?_)
  have hr3 := hr2.off o3 e3
  refine r_aload_n C dX3_give_93 rfl ?_
  refine r_get C dX3_give_94 flX3_27 hr3.1 rfl ?_
  refine r_istore C dX3_give_97 (by decide) ?_
  refine r_aload_n C dX3_give_99 rfl ?_
  refine r_iconst C dX3_give_100 (by decide) ?_
  refine r_putA C dX3_give_101 flX3_27 hr3.1 rfl rfl (fs2 := [vR xw, vI 0, vI (gv + 1), vI (20 - (o : Int)), vI (bOr us (bShl 1 w))]) rfl (fun h4' e4 o4 => ?_)
  have hr4 : RkR h4' a xw fw 0 (gv + 1) (20 - o) (bOr us (bShl 1 w)) := hr3.off o4 e4
  have o14 := o1.tr (o2.tr (o3.tr o4))
  have hw4 : WdR h4' fw wn wt := hw.off o14 hr.1 (by decide)
  have ht4 : TxR h4' q (wn w) (wt w) := ht.a1 o14 hr.1 (by decide)
  refine r_aload_n C dX3_give_104 rfl ?_
  refine r_aload_n C dX3_give_105 rfl ?_
  refine r_get C dX3_give_106 flX3_11 hr4.1 rfl ?_
  refine r_iload_n C dX3_give_109 rfl ?_
  refine r_aald C dX3_give_110 hr4.2 (by omega) (by omega) hq ?_
  refine r_iload_n C dX3_give_111 rfl ?_
  refine r_iconst C dX3_give_112 (by decide) ?_
  refine r_cVx C dX3_give_113 mlX3_40 kX3_part (hP h4' a xw q fw 0 (gv + 1) (bOr us (bShl 1 w)) (wn w) v _ (wt w) hr4 hw4 ht4 (Int.le_refl 0) h5 (by omega) hv hv2 (by omega) (by omega)) hr4.1 rfl rfl rfl (Nat.le_of_ble_eq_true rfl) (fit hX (by omega)) ?_
  rintro v1 h5' ⟨hv1, pl1, hr5, o5, hpl1, hplb1⟩
  refine r_istore C dX3_give_116 (by decide) ?_
  refine r_aload_n C dX3_give_118 rfl ?_
  refine r_iload C dX3_give_119 rfl ?_
  refine r_putA C dX3_give_121 flX3_27 hr5.1 rfl rfl (fs2 := [vR xw, vI pl, vI (ev (gvN wn wt o) (wn w) (wt w) 6 0 v (gv + 1, bOr us (bShl 1 w))).2.1, vI (20 - (o : Int)), vI (ev (gvN wn wt o) (wn w) (wt w) 6 0 v (gv + 1, bOr us (bShl 1 w))).2.2]) rfl (fun h6' e6 o6 => ?_)
  have hr6 := hr5.off o6 e6
  refine r_aload_n C dX3_give_124 rfl ?_
  refine r_dup C dX3_give_125 ?_
  refine r_get C dX3_give_126 flX3_34 hr6.1 rfl ?_
  refine r_iconst C dX3_give_129 (by decide) ?_
  refine r_isub C dX3_give_130 (by omega) ?_
  rw [hop2]
  refine r_putA C dX3_give_131 flX3_34 hr6.1 rfl rfl (fs2 := [vR xw, vI pl, vI (ev (gvN wn wt o) (wn w) (wt w) 6 0 v (gv + 1, bOr us (bShl 1 w))).2.1, vI (20 - ((o + 1 : Nat) : Int)), vI (ev (gvN wn wt o) (wn w) (wt w) 6 0 v (gv + 1, bOr us (bShl 1 w))).2.2]) rfl (fun h7' e7 o7 => ?_)
  refine r_iload C dX3_give_134 rfl ?_
  exact r_iret C dX3_give_136 (by decide) (by decide) ⟨v1, rfl, hv1, pl, hr6.off o7 e7, o14.tr (o5.tr (o6.tr o7)), fun _ => rfl, hp, hp2⟩
theorem part_all {wn : Int → Int} {wt : Int → Int → Int} (hW : okW wn wt) : ∀ (o : Nat), o ≤ 20 → (GiveOk wn wt o ∧ ∀ d, d ≤ 6 → PartOk wn wt o d) := by
  intro o
  induction o with
  | zero =>
    intro _
    refine ⟨m_give0, fun d => ?_⟩
    induction d with
    | zero => intro _; exact m_part0
    | succ d ih => intro hd; exact m_partS hd hW (ih (by omega)) m_give0
  | succ o iho =>
    intro ho
    have hG := m_giveS ho hW ((iho (by omega)).2 6 (by omega))
    refine ⟨hG, fun d => ?_⟩
    induction d with
    | zero => intro _; exact m_part0
    | succ d ih => intro hd; exact m_partS hd hW (ih (by omega)) hG
/-- what the text comes to, and what it used -/
theorem m_outcome {wn : Int → Int} {wt : Int → Int → Int} {h : Pic} {a xw at' : Nat} {fw : Int → Option Nat} {pl gv op us n x : Int} {f : Int → Int} (hW : okW wn wt) (hr : RkR h a xw fw pl gv op us) (hw : WdR h fw wn wt) (ht : TxR h at' n f) (he : pe n f 6 0 = n) (hx : 0 ≤ x) (hx2 : x ≤ 999) :
    Meets yX3_outcome cX3_outcome 3 (some .int) 189 0 0 [vR a, vR at', vI x] h (pX (fun v h' => v = (evT wn wt n f x).1 ∧ ∃ pl' gv' op', RkR h' a xw fw pl' gv' op' (evT wn wt n f x).2.2 ∧ Off [a] h h')) := by
  obtain ⟨b, t, t', m, g, hts, hta, h0, -⟩ := id ht
  refine Meets.of (plainFor_of_name (by decide)) (Nat.le_of_ble_eq_true rfl) (fun X C hX hN hA => ?_)
  refine r_aload_n C dX3_outcome_0 rfl ?_
  refine r_iconst C dX3_outcome_1 (by decide) ?_
  refine r_putA C dX3_outcome_2 flX3_27 hr.1 rfl rfl (fs2 := [vR xw, vI 0, vI gv, vI op, vI us]) rfl (fun h1' e1 o1 => ?_)
  have hr1 := hr.off o1 e1
  refine r_aload_n C dX3_outcome_5 rfl ?_
  refine r_iconst C dX3_outcome_6 (by decide) ?_
  refine r_putA C dX3_outcome_7 flX3_31 hr1.1 rfl rfl (fs2 := [vR xw, vI 0, vI 0, vI op, vI us]) rfl (fun h2' e2 o2 => ?_)
  have hr2 := hr1.off o2 e2
  refine r_aload_n C dX3_outcome_10 rfl ?_
  refine r_iconst C dX3_outcome_11 (by decide) ?_
  refine r_putA C dX3_outcome_12 flX3_34 hr2.1 rfl rfl (fs2 := [vR xw, vI 0, vI 0, vI 0, vI us]) rfl (fun h3' e3 o3 => ?_)
  have hr3 := hr2.off o3 e3
  refine r_aload_n C dX3_outcome_15 rfl ?_
  refine r_iconst C dX3_outcome_16 (by decide) ?_
  refine r_putA C dX3_outcome_17 flX3_37 hr3.1 rfl rfl (fs2 := [vR xw, vI 0, vI 0, vI 0, vI 0]) rfl (fun h4' e4 o4 => ?_)
  have hr4 : RkR h4' a xw fw 0 0 (20 - (20 : Nat)) 0 := hr3.off o4 e4
  have o14 := o1.tr (o2.tr (o3.tr o4))
  refine r_aload_n C dX3_outcome_20 rfl ?_
  refine r_aload_n C dX3_outcome_21 rfl ?_
  refine r_iload_n C dX3_outcome_22 rfl ?_
  refine r_iconst C dX3_outcome_23 (by decide) ?_
  refine r_cVx C dX3_outcome_24 mlX3_40 kX3_part (((part_all hW 20 (Nat.le_refl _)).2 6 (Nat.le_refl _)) h4' a xw at' fw 0 0 0 n x _ f hr4 (hw.off o14 hr.1 (by decide)) (ht.a1 o14 hr.1 (by decide)) (Int.le_refl 0) he h0 hx hx2 (by omega) (by omega)) hr4.1 rfl rfl rfl (Nat.le_of_ble_eq_true rfl) (fit hX (by decide)) ?_
  rintro v1 h5' ⟨hv1, pl1, hr5, o5, -⟩
  exact r_iret C dX3_outcome_27 (by decide) (by decide) ⟨v1, rfl, hv1, pl1, _, _, hr5, o14.tr o5⟩
