/-! the model: cover, apart -/
theorem shl0_all : (List.range 13).all (fun j => decide (bShl 0 (j : Int) = 0)) = true := by decide +kernel
theorem shl_0 {j : Int} (h0 : 0 ≤ j) (h1 : j ≤ 12) : bShl 0 j = 0 := by
  obtain ⟨k, rfl⟩ := Int.eq_ofNat_of_zero_le h0
  exact of_decide_eq_true (List.all_eq_true.mp shl0_all k (List.mem_range.mpr (by omega)))
/-- every two versions that are not alike are told apart, of those pairs that the model has come by -/
def apR (H : Int → Int) (i k s : Int) : Prop := ∀ u v, 0 ≤ u → u < v → (v < i ∨ (v = i ∧ u < k)) → bXor (H u) (H v) = 0 ∨ ¬ bAnd (bXor (H u) (H v)) s = 0
section
variable {h : Pic} {m : Nat} {pn : Int} {pf : Int → Int} {vs pg : Int} {mn : Int → Int} {tx : Int → Int → Int} {tl du kp : Int → Int} {im : Int → Bs}
theorem N_cover {v : Int} (hm : RM h m pn pf vs pg mn tx tl du kp im) : Meets yX8_cover cX8_cover 4 (some .int) 10 0 0 [vR m, vI v] h (pX (fun z h' => z = aCover vs pg mn tx tl v ∧ RM h' m pn pf vs pg mn tx tl du kp im ∧ Kp SM h h')) := by
  obtain ⟨A, pd, us, gi, op, th, la, lv, sl, T, S, M, tL, dU, rs, pA, pS, pH, bV, be, dO, hB, sA, nO, mI, mK, hp, hpt, hba, hsz, hld, him⟩ := id hm
  obtain ⟨⟨hv1, hv6, hp0, hp12⟩, -⟩ := id hba
  refine Meets.of (plainFor_of_name (by decide)) (Nat.le_of_ble_eq_true rfl) (fun X C hX hN hA => ?_)
  refine r_aload_n C dX8_cover_0 rfl ?_
  refine r_iload_n C dX8_cover_1 rfl ?_
  refine r_cVi C dX8_cover_2 mlX8_100 kX8_isVersion (n_isVersion (v := v) hp (by omega)) hp.o rfl rfl rfl (Nat.le_of_ble_eq_true rfl) (fit hX (by decide)) ?_
  refine r_if_ne (tgt := 10) C dX8_cover_5 (by decide) (fun hc5 => ?_) (fun hc5 => ?_)
  rotate_left
  · have hno := zb_0.mp hc5
    have hv : aCover vs pg mn tx tl v = -1 := if_pos (by omega)
    rw [hv]
    refine r_iconst C dX8_cover_8 (by decide) ?_
    exact r_iret C dX8_cover_9 (by decide) (by decide) ⟨_, rfl, rfl, hm, Kp.rf⟩
  have hvv := zb_n0.mp hc5
  have hv : aCover vs pg mn tx tl v = fw (mtN (fun w => bt (uses mn tx tl v w) pg) 8) pg.toNat := if_neg (by omega)
  rw [hv]
  obtain ⟨PQ, hPQ⟩ : ∃ PQ : State → Prop, PQ = Qm X (pX (fun z h' => z = fw (mtN (fun w => bt (uses mn tx tl v w) pg) 8) pg.toNat ∧ RM h' m pn pf vs pg mn tx tl du kp im ∧ Kp SM h h')) 0 0 := ⟨_, rfl⟩
  rw [← hPQ]
  have pages : ∀ (j : Nat) (i : Int) (h' : Pic) (dO' : Int → Int) (o3 : Option Va), 0 ≤ i → i ≤ pg → pg - i < j → (∃ pd us gi op pA pS pH bV, MP h' m A vs pg pd us gi op 8 la lv sl T S M tL dU rs pA pS pH bV be dO' hB sA nO mI mK ∧ ∀ w, 0 ≤ w → w < 8 → bV w = v) → Kp SM h h' → (∀ w, 0 ≤ w → w < 8 → dO' w = bt (uses mn tx tl v w) i) → Go X PQ 0 0 h' 44 [some (vR m), some (vI v), some (vI i), o3] [] := by
    intro j
    induction j with
    | zero => intro i h' dO' o3 g1 g2 g3; exact absurd g3 (by omega)
    | succ j ih =>
      intro i h' dO' o3 g1 g2 g3 g4 k' g6
      obtain ⟨pd', us', gi', op', pA', pS', pH', bV', hp', hb'⟩ := g4
      refine r_iload_n C dX8_cover_44 rfl ?_
      refine r_aload_n C dX8_cover_45 rfl ?_
      refine r_get C dX8_cover_46 flX8_70 hp'.o rfl ?_
      refine r_icmp_ge (tgt := 110) C dX8_cover_49 (by decide) (fun hc49 => ?_) (fun hc49 => ?_)
      · have hi : i = pg := by omega
        rw [hi] at g6
        refine r_aload_n C dX8_cover_110 rfl ?_
        refine r_cVi C dX8_cover_111 mlX8_151 kX8_fewest (n_fewest hp' (by omega) (by omega) (by omega) (by omega) (fun k k0 k1 => by rw [g6 k k0 k1]; exact ⟨bt_rg _ _, fun q q1 q2 => ((tb_bt (by omega) q1).mp q2).1⟩)) hp'.o rfl rfl rfl (Nat.le_of_ble_eq_true rfl) (fit hX (by decide)) ?_
        rw [hPQ]
        exact r_iret C dX8_cover_114 (by decide) (by decide) ⟨_, rfl, fw_congr (fun s => mtN_congr (fun k k0 k1 => g6 k k0 k1)), ⟨A, pd', us', gi', op', 8, la, lv, sl, T, S, M, tL, dU, rs, pA', pS', pH', bV', be, dO', hB, sA, nO, mI, mK, hp', hpt, hba, hsz, hld, him⟩, k'⟩
      obtain ⟨b1, b2⟩ := hba.p (p := i) g1 hc49
      refine r_aload_n C dX8_cover_52 rfl ?_
      refine r_get C dX8_cover_53 flX8_19 hp'.o rfl ?_
      refine r_iload_n C dX8_cover_56 rfl ?_
      refine r_iald C dX8_cover_57 hp'.atL (by omega) (by omega) ?_
      rw [b1]
      refine r_if_ge (tgt := 104) C dX8_cover_58 (by decide) (fun hc58 => ?_) (fun hc58 => ?_)
      · refine r_iinc C dX8_cover_104 rfl (by decide) (by omega) ?_
        refine r_goto (tgt := 44) C dX8_cover_107 (by decide) ?_
        exact ih (i + 1) h' dO' o3 (by omega) (by omega) (by omega) ⟨_, _, _, _, _, _, _, _, hp', hb'⟩ k' (fun w w0 w1 => by rw [bt_f g1 (fun z => by have := z.1; omega)]; exact g6 w w0 w1)
      have hex : tl i = -6 := by omega
      refine r_aload_n C dX8_cover_61 rfl ?_
      refine r_bipush C dX8_cover_62 (by decide) ?_
      refine r_iload_n C dX8_cover_64 rfl ?_
      refine r_iadd C dX8_cover_65 (by omega) ?_
      refine r_iconst C dX8_cover_66 (by decide) ?_
      refine r_cVx C dX8_cover_67 mlX8_122 kX8_comeTo (n_comeV (p := i) (v := v) hp' hba hsz g1 hc49 hex hvv.1 (by omega) hb') hp'.o rfl rfl rfl (Nat.le_of_ble_eq_true rfl) (fit hX (by decide)) ?_
      rintro z h2 ⟨hz, ⟨pd2, gi2, op2, pA2, pS2, pH2, hp2⟩, k2⟩
      have inner : ∀ (jj : Nat) (w : Int) (h3 : Pic) (dO3 : Int → Int), 0 ≤ w → w ≤ 8 → 8 - w < jj → MP h3 m A vs pg pd2 ((evV mn tx v i).2.2) gi2 op2 8 la lv sl T S M tL dU rs pA2 pS2 pH2 bV' be dO3 hB sA nO mI mK → Kp SM h h3 → (∀ u, 0 ≤ u → u < w → dO3 u = bt (uses mn tx tl v u) (i + 1)) → (∀ u, w ≤ u → u < 8 → dO3 u = bt (uses mn tx tl v u) i) → Go X PQ 0 0 h3 73 [some (vR m), some (vI v), some (vI i), some (vI w)] [] := by
        intro jj
        induction jj with
        | zero => intro w h3 dO3 d1 d2 d3; exact absurd d3 (by omega)
        | succ jj ihj =>
          intro w h3 dO3 d1 d2 d3 hp3 k3 d4 d5
          refine r_iload_n C dX8_cover_73 rfl ?_
          refine r_bipush C dX8_cover_74 (by decide) ?_
          refine r_icmp_ge (tgt := 104) C dX8_cover_76 (by decide) (fun hc76 => ?_) (fun hc76 => ?_)
          · refine r_iinc C dX8_cover_104 rfl (by decide) (by omega) ?_
            refine r_goto (tgt := 44) C dX8_cover_107 (by decide) ?_
            exact ih (i + 1) h3 dO3 _ (by omega) (by omega) (by omega) ⟨_, _, _, _, _, _, _, _, hp3, hb'⟩ k3 (fun u u0 u1 => d4 u u0 (by omega))
          have hval : bOr (bt (uses mn tx tl v w) i) (bShl (bAnd (bShr (evV mn tx v i).2.2 w) 1) i) = bt (uses mn tx tl v w) (i + 1) := by
            rcases bit_01 (x := (evV mn tx v i).2.2) d1 (show w < 32 by omega) with q | q
            · rw [q, shl_0 g1 (by omega), bOr_0 (bt_rg _ _), bt_f g1 (fun z => absurd (q.symm.trans z.2) (by decide))]
            · rw [q, bt_t g1 ⟨hex, q⟩]
          refine r_aload_n C dX8_cover_79 rfl ?_
          refine r_get C dX8_cover_80 flX8_43 hp3.o rfl ?_
          refine r_iload_n C dX8_cover_83 rfl ?_
          refine r_dup2 C dX8_cover_84 ?_
          refine r_iald C dX8_cover_85 hp3.adO (by omega) (by omega) ?_
          rw [d5 w (by omega) (by omega)]
          refine r_aload_n C dX8_cover_86 rfl ?_
          refine r_get C dX8_cover_87 flX8_106 hp3.o rfl ?_
          refine r_iload_n C dX8_cover_90 rfl ?_
          refine r_ishr C dX8_cover_91 ?_
          refine r_iconst C dX8_cover_92 (by decide) ?_
          refine r_iand C dX8_cover_93 ?_
          refine r_iload_n C dX8_cover_94 rfl ?_
          refine r_ishl C dX8_cover_95 ?_
          refine r_ior C dX8_cover_96 ?_
          rw [hval]
          refine w_dO C dX8_cover_97 hp3 (by omega) (by omega) (fun h4 hp4 k4 => ?_)
          refine r_iinc C dX8_cover_98 rfl (by decide) (by omega) ?_
          refine r_goto (tgt := 73) C dX8_cover_101 (by decide) ?_
          refine ihj (w + 1) h4 _ (by omega) (by omega) (by omega) hp4 (k3.tr (k4.mono (fun t q => by omega))) (fun u u0 u1 => ?_) (fun u u0 u1 => by rw [fu_n (by omega)]; exact d5 u (by omega) u1)
          by_cases hu : u = w
          · rw [hu, fu_s]
          · rw [fu_n hu]; exact d4 u u0 (by omega)
      refine r_pop C dX8_cover_70 ?_
      refine r_iconst C dX8_cover_71 (by decide) ?_
      refine r_istore_n C dX8_cover_72 (by decide) ?_
      exact inner 9 0 h2 dO' (by omega) (by omega) (by omega) hp2 (k'.tr k2) (fun u u0 u1 => by omega) (fun u u0 u1 => g6 u (by omega) u1)
  refine r_aload_n C dX8_cover_10 rfl ?_
  refine r_bipush C dX8_cover_11 (by decide) ?_
  refine w_th C dX8_cover_13 hp (fun h1 hp1 k1 => ?_)
  have clear : ∀ (j : Nat) (w : Int) (h' : Pic) (dO' : Int → Int), 0 ≤ w → w ≤ 8 → 8 - w < j → MP h' m A vs pg pd us gi op 8 la lv sl T S M tL dU rs pA pS pH bV be dO' hB sA nO mI mK → Kp SM h h' → (∀ u, 0 ≤ u → u < w → dO' u = 0) → Go X PQ 0 0 h' 18 [some (vR m), some (vI v), some (vI w), none] [] := by
    intro j
    induction j with
    | zero => intro w h' dO' g1 g2 g3; exact absurd g3 (by omega)
    | succ j ih =>
      intro w h' dO' g1 g2 g3 hp' k' g6
      refine r_iload_n C dX8_cover_18 rfl ?_
      refine r_bipush C dX8_cover_19 (by decide) ?_
      refine r_icmp_ge (tgt := 37) C dX8_cover_21 (by decide) (fun hc21 => ?_) (fun hc21 => ?_)
      · refine r_aload_n C dX8_cover_37 rfl ?_
        refine r_iload_n C dX8_cover_38 rfl ?_
        refine r_cVv C dX8_cover_39 mlX8_119 kX8_byVersion (n_byVersion (v := v) hp') hp'.o rfl rfl rfl (Nat.le_of_ble_eq_true rfl) (fit hX (by decide)) ?_
        rintro h3 ⟨bV3, hp3, k3, hb3⟩
        refine r_iconst C dX8_cover_42 (by decide) ?_
        refine r_istore_n C dX8_cover_43 (by decide) ?_
        exact pages 13 0 h3 dO' none (by omega) (by omega) (by omega) ⟨_, _, _, _, _, _, _, _, hp3, hb3⟩ (k'.tr (k3.mono (fun t q => by omega))) (fun u u0 u1 => (g6 u u0 (by omega)).trans (by unfold bt; rfl))
      refine r_aload_n C dX8_cover_24 rfl ?_
      refine r_get C dX8_cover_25 flX8_43 hp'.o rfl ?_
      refine r_iload_n C dX8_cover_28 rfl ?_
      refine r_iconst C dX8_cover_29 (by decide) ?_
      refine w_dO C dX8_cover_30 hp' (by omega) (by omega) (fun h3 hp3 k3 => ?_)
      refine r_iinc C dX8_cover_31 rfl (by decide) (by omega) ?_
      refine r_goto (tgt := 18) C dX8_cover_34 (by decide) ?_
      refine ih (w + 1) h3 _ (by omega) (by omega) (by omega) hp3 (k'.tr (k3.mono (fun t q => by omega))) (fun u u0 u1 => ?_)
      by_cases hu : u = w
      · rw [hu, fu_s]
      · rw [fu_n hu]; exact g6 u u0 (by omega)
  refine r_iconst C dX8_cover_16 (by decide) ?_
  refine r_istore_n C dX8_cover_17 (by decide) ?_
  exact clear 9 0 h1 dO (by omega) (by omega) (by omega) hp1 (k1.mono (fun t q => by omega)) (fun u u0 u1 => by omega)
theorem N_apart (hm : RM h m pn pf vs pg mn tx tl du kp im) : Meets yX8_apart cX8_apart 3 (some .int) 10 0 0 [vR m] h (pX (fun z h' => z = aApart vs pg mn tx tl du ∧ RM h' m pn pf vs pg mn tx tl du kp im ∧ Kp SM h h')) := by
  obtain ⟨A, pd, us, gi, op, th, la, lv, sl, T, S, M, tL, dU, rs, pA, pS, pH, bV, be, dO, hB, sA, nO, mI, mK, hp, hpt, hba, hsz, hld, him⟩ := id hm
  obtain ⟨⟨hv1, hv6, hp0, hp12⟩, -⟩ := id hba
  obtain ⟨H, hH⟩ : ∃ H : Int → Int, H = fun v => bt (hold mn tx tl du v) pg := ⟨_, rfl⟩
  have hHv : ∀ v, H v = bt (hold mn tx tl du v) pg := fun v => by rw [hH]
  have hA : aApart vs pg mn tx tl du = fw (apP H vs) pg.toNat := by rw [hH]; rfl
  rw [hA]
  have hHb : ∀ v, Rg (H v) ∧ ∀ i : Nat, i < 32 → tb (H v) i = true → (i : Int) < pg := fun v => by rw [hHv v]; exact ⟨bt_rg _ _, fun q q1 q2 => ((tb_bt (by omega) q1).mp q2).1⟩
  refine Meets.of (plainFor_of_name (by decide)) (Nat.le_of_ble_eq_true rfl) (fun X C hX hN hA => ?_)
  obtain ⟨PQ, hPQ⟩ : ∃ PQ : State → Prop, PQ = Qm X (pX (fun z h' => z = fw (apP H vs) pg.toNat ∧ RM h' m pn pf vs pg mn tx tl du kp im ∧ Kp SM h h')) 0 0 := ⟨_, rfl⟩
  rw [← hPQ]
  have pairs : ∀ (j : Nat) (i : Int) (h' : Pic) (th' : Int) (hB' dO' : Int → Int) (o2 : Option Va), 0 ≤ i → i ≤ vs → vs - i < j → 0 ≤ th' → th' ≤ 6 * i → (∃ pd us gi op pA pS pH bV, MP h' m A vs pg pd us gi op th' la lv sl T S M tL dU rs pA pS pH bV be dO' hB' sA nO mI mK) → Kp SM h h' → (∀ u, 0 ≤ u → u < vs → hB' u = H u) → (∀ s, mtN dO' th' s ↔ apR H i 0 s) → (∀ k, 0 ≤ k → k < th' → Rg (dO' k) ∧ ∀ b : Nat, b < 32 → tb (dO' k) b = true → (b : Int) < pg) → Go X PQ 0 0 h' 80 [some (vR m), some (vI i), o2] [] := by
    intro j
    induction j with
    | zero => intro i h' th' hB' dO' o2 g1 g2 g3; exact absurd g3 (by omega)
    | succ j ih =>
      intro i h' th' hB' dO' o2 g1 g2 g3 g4 g5 g6 k' g7 g8 g9
      obtain ⟨pd', us', gi', op', pA', pS', pH', bV', hp'⟩ := g6
      refine r_iload_n C dX8_apart_80 rfl ?_
      refine r_aload_n C dX8_apart_81 rfl ?_
      refine r_get C dX8_apart_82 flX8_62 hp'.o rfl ?_
      refine r_icmp_ge (tgt := 139) C dX8_apart_85 (by decide) (fun hc85 => ?_) (fun hc85 => ?_)
      · have hi : i = vs := by omega
        rw [hi] at g8
        refine r_aload_n C dX8_apart_139 rfl ?_
        refine r_cVi C dX8_apart_140 mlX8_151 kX8_fewest (n_fewest hp' (by omega) (by omega) (by omega) (by omega) g9) hp'.o rfl rfl rfl (Nat.le_of_ble_eq_true rfl) (fit hX (by decide)) ?_
        rw [hPQ]
        exact r_iret C dX8_apart_143 (by decide) (by decide) ⟨_, rfl, fw_congr (fun s => (g8 s).trans ⟨fun q u v u0 u1 v1 => q u v u0 u1 (Or.inl v1), fun q u v u0 u1 z => q u v u0 u1 (by omega)⟩), ⟨A, pd', us', gi', op', th', la, lv, sl, T, S, M, tL, dU, rs, pA', pS', pH', bV', be, dO', hB', sA, nO, mI, mK, hp', hpt, hba, hsz, hld, him⟩, k'⟩
      have inner : ∀ (jj : Nat) (u : Int) (h3 : Pic) (th3 : Int) (dO3 : Int → Int), 0 ≤ u → u ≤ i → i - u < jj → 0 ≤ th3 → th3 ≤ 6 * i + u → MP h3 m A vs pg pd' us' gi' op' th3 la lv sl T S M tL dU rs pA' pS' pH' bV' be dO3 hB' sA nO mI mK → Kp SM h h3 → (∀ s, mtN dO3 th3 s ↔ apR H i u s) → (∀ k, 0 ≤ k → k < th3 → Rg (dO3 k) ∧ ∀ b : Nat, b < 32 → tb (dO3 k) b = true → (b : Int) < pg) → Go X PQ 0 0 h3 90 [some (vR m), some (vI i), some (vI u)] [] := by
        intro jj
        induction jj with
        | zero => intro u h3 th3 dO3 d1 d2 d3; exact absurd d3 (by omega)
        | succ jj ihj =>
          intro u h3 th3 dO3 d1 d2 d3 d4 d5 hp3 k3 d6 d7
          refine r_iload_n C dX8_apart_90 rfl ?_
          refine r_iload_n C dX8_apart_91 rfl ?_
          refine r_icmp_ge (tgt := 133) C dX8_apart_92 (by decide) (fun hc92 => ?_) (fun hc92 => ?_)
          · have hu : u = i := by omega
            rw [hu] at d6
            refine r_iinc C dX8_apart_133 rfl (by decide) (by omega) ?_
            refine r_goto (tgt := 80) C dX8_apart_136 (by decide) ?_
            exact ih (i + 1) h3 th3 hB' dO3 _ (by omega) (by omega) (by omega) d4 (by omega) ⟨_, _, _, _, _, _, _, _, hp3⟩ k3 g7 (fun s => (d6 s).trans ⟨fun q a b a0 a1 z => q a b a0 a1 (by omega), fun q a b a0 a1 z => q a b a0 a1 (by omega)⟩) d7
          refine r_aload_n C dX8_apart_95 rfl ?_
          refine r_get C dX8_apart_96 flX8_43 hp3.o rfl ?_
          refine r_aload_n C dX8_apart_99 rfl ?_
          refine r_get C dX8_apart_100 flX8_148 hp3.o rfl ?_
          refine r_aload_n C dX8_apart_103 rfl ?_
          refine r_get C dX8_apart_104 flX8_46 hp3.o rfl ?_
          refine r_iload_n C dX8_apart_107 rfl ?_
          refine r_iald C dX8_apart_108 hp3.ahB (by omega) (by omega) ?_
          rw [g7 u d1 (by omega)]
          refine r_aload_n C dX8_apart_109 rfl ?_
          refine r_get C dX8_apart_110 flX8_46 hp3.o rfl ?_
          refine r_iload_n C dX8_apart_113 rfl ?_
          refine r_iald C dX8_apart_114 hp3.ahB (by omega) (by omega) ?_
          rw [g7 i g1 (by omega)]
          refine r_ixor C dX8_apart_115 ?_
          refine w_dO C dX8_apart_116 hp3 (by omega) (by omega) (fun h4 hp4 k4 => ?_)
          refine r_aload_n C dX8_apart_117 rfl ?_
          refine r_dup C dX8_apart_118 ?_
          refine r_get C dX8_apart_119 flX8_148 hp4.o rfl ?_
          refine r_iconst C dX8_apart_122 (by decide) ?_
          refine r_iadd C dX8_apart_123 (by omega) ?_
          refine w_th C dX8_apart_124 hp4 (fun h5 hp5 k5 => ?_)
          refine r_iinc C dX8_apart_127 rfl (by decide) (by omega) ?_
          refine r_goto (tgt := 90) C dX8_apart_130 (by decide) ?_
          refine ihj (u + 1) h5 (th3 + 1) _ (by omega) (by omega) (by omega) (by omega) (by omega) hp5 (k3.tr ((k4.mono (fun t q => by omega)).tr (k5.mono (fun t q => by omega)))) (fun s => ?_) (fun k k0 k1 => ?_)
          · rw [mtN_s d4, fu_s]
            have hc : mtN (fu dO3 th3 (bXor (H u) (H i))) th3 s ↔ apR H i u s := (mtN_congr (fun k k0 k1 => fu_n (by omega))).trans (d6 s)
            rw [hc]
            refine ⟨fun q a b a0 a1 z => ?_, fun q => ⟨fun a b a0 a1 z => q a b a0 a1 (by omega), q u i d1 (by omega) (Or.inr ⟨rfl, by omega⟩)⟩⟩
            by_cases hab : a = u ∧ b = i
            · rw [hab.1, hab.2]; exact q.2
            · exact q.1 a b a0 a1 (by omega)
          · by_cases hk : k = th3
            · rw [hk, fu_s]
              refine ⟨b_rg _, fun b b1 b2 => ?_⟩
              rw [tb_xor] at b2
              cases q1 : tb (H u) b with
              | true => exact (hHb u).2 b b1 q1
              | false =>
                cases q2 : tb (H i) b with
                | true => exact (hHb i).2 b b1 q2
                | false => rw [q1, q2] at b2; exact absurd b2 (by decide)
            · rw [fu_n hk]; exact d7 k k0 (by omega)
      refine r_iconst C dX8_apart_88 (by decide) ?_
      refine r_istore_n C dX8_apart_89 (by decide) ?_
      exact inner 7 0 h' th' dO' (by omega) (by omega) (by omega) g4 (by omega) hp' k' g8 g9
  have rows : ∀ (j : Nat) (i : Int) (h' : Pic) (hB' : Int → Int) (o2 : Option Va), 0 ≤ i → i ≤ vs → vs - i < j → (∃ pd us gi op pA pS pH bV, MP h' m A vs pg pd us gi op th la lv sl T S M tL dU rs pA pS pH bV be dO hB' sA nO mI mK) → Kp SM h h' → (∀ u, 0 ≤ u → u < i → hB' u = H u) → Go X PQ 0 0 h' 2 [some (vR m), some (vI i), o2] [] := by
    intro j
    induction j with
    | zero => intro i h' hB' o2 g1 g2 g3; exact absurd g3 (by omega)
    | succ j ih =>
      intro i h' hB' o2 g1 g2 g3 g4 k' g5
      obtain ⟨pd', us', gi', op', pA', pS', pH', bV', hp'⟩ := g4
      refine r_iload_n C dX8_apart_2 rfl ?_
      refine r_aload_n C dX8_apart_3 rfl ?_
      refine r_get C dX8_apart_4 flX8_62 hp'.o rfl ?_
      refine r_icmp_ge (tgt := 73) C dX8_apart_7 (by decide) (fun hc7 => ?_) (fun hc7 => ?_)
      · have hi : i = vs := by omega
        rw [hi] at g5
        refine r_aload_n C dX8_apart_73 rfl ?_
        refine r_iconst C dX8_apart_74 (by decide) ?_
        refine w_th C dX8_apart_75 hp' (fun h3 hp3 k3 => ?_)
        refine r_iconst C dX8_apart_78 (by decide) ?_
        refine r_istore_n C dX8_apart_79 (by decide) ?_
        exact pairs 7 0 h3 0 hB' dO o2 (by omega) (by omega) (by omega) (by omega) (by omega) ⟨_, _, _, _, _, _, _, _, hp3⟩ (k'.tr (k3.mono (fun t q => by omega))) g5 (fun s => ⟨fun _ u v u0 u1 z => by omega, fun _ => mtN_0⟩) (fun k k0 k1 => by omega)
      have inner : ∀ (jj : Nat) (p : Int) (h3 : Pic) (hB3 : Int → Int), 0 ≤ p → p ≤ pg → pg - p < jj → (∃ pd us gi op pA pS pH bV, MP h3 m A vs pg pd us gi op th la lv sl T S M tL dU rs pA pS pH bV be dO hB3 sA nO mI mK) → Kp SM h h3 → (∀ u, 0 ≤ u → u < i → hB3 u = H u) → hB3 i = bt (hold mn tx tl du i) p → Go X PQ 0 0 h3 19 [some (vR m), some (vI i), some (vI p)] [] := by
        intro jj
        induction jj with
        | zero => intro p h3 hB3 d1 d2 d3; exact absurd d3 (by omega)
        | succ jj ihj =>
          intro p h3 hB3 d1 d2 d3 d4 k3 d5 d6
          obtain ⟨pd3, us3, gi3, op3, pA3, pS3, pH3, bV3, hp3⟩ := id d4
          refine r_iload_n C dX8_apart_19 rfl ?_
          refine r_aload_n C dX8_apart_20 rfl ?_
          refine r_get C dX8_apart_21 flX8_70 hp3.o rfl ?_
          refine r_icmp_ge (tgt := 67) C dX8_apart_24 (by decide) (fun hc24 => ?_) (fun hc24 => ?_)
          · have hpp : p = pg := by omega
            rw [hpp, ← hHv] at d6
            refine r_iinc C dX8_apart_67 rfl (by decide) (by omega) ?_
            refine r_goto (tgt := 2) C dX8_apart_70 (by decide) ?_
            exact ih (i + 1) h3 hB3 _ (by omega) (by omega) (by omega) d4 k3 (fun u u0 u1 => by
              by_cases hu : u = i
              · rw [hu]; exact d6
              · exact d5 u u0 (by omega))
          obtain ⟨b1, b2⟩ := hba.p (p := p) d1 hc24
          have hnext : ∀ (h4 : Pic) (z : Int), (∃ pd us gi op pA pS pH bV, MP h4 m A vs pg pd us gi op th la lv sl T S M tL dU rs pA pS pH bV be dO hB3 sA nO mI mK) → Kp SM h h4 → bOr (bt (hold mn tx tl du i) p) z = bt (hold mn tx tl du i) (p + 1) → Go X PQ 0 0 h4 59 [some (vR m), some (vI i), some (vI p)] [vI z, vI (bt (hold mn tx tl du i) p), vI i, vR (A 19)] := by
            intro h4 z q1 q2 q3
            obtain ⟨pd4, us4, gi4, op4, pA4, pS4, pH4, bV4, hp4⟩ := q1
            refine r_ior C dX8_apart_59 ?_
            rw [q3]
            refine w_hB C dX8_apart_60 hp4 (by omega) (by omega) (fun h5 hp5 k5 => ?_)
            refine r_iinc C dX8_apart_61 rfl (by decide) (by omega) ?_
            refine r_goto (tgt := 19) C dX8_apart_64 (by decide) ?_
            exact ihj (p + 1) h5 _ (by omega) (by omega) (by omega) ⟨_, _, _, _, _, _, _, _, hp5⟩ (q2.tr (k5.mono (fun t q => by omega))) (fun u u0 u1 => by rw [fu_n (by omega)]; exact d5 u u0 u1) fu_s
          refine r_aload_n C dX8_apart_27 rfl ?_
          refine r_get C dX8_apart_28 flX8_46 hp3.o rfl ?_
          refine r_iload_n C dX8_apart_31 rfl ?_
          refine r_dup2 C dX8_apart_32 ?_
          refine r_iald C dX8_apart_33 hp3.ahB (by omega) (by omega) ?_
          rw [d6]
          refine r_aload_n C dX8_apart_34 rfl ?_
          refine r_get C dX8_apart_35 flX8_19 hp3.o rfl ?_
          refine r_iload_n C dX8_apart_38 rfl ?_
          refine r_iald C dX8_apart_39 hp3.atL (by omega) (by omega) ?_
          rw [b1]
          refine r_if_ge (tgt := 58) C dX8_apart_40 (by decide) (fun hc40 => ?_) (fun hc40 => ?_)
          · refine r_iconst C dX8_apart_58 (by decide) ?_
            exact hnext h3 0 d4 k3 (by rw [bOr_0 (bt_rg _ _), bt_f d1 (fun z => by have := z.1; omega)])
          have hex : tl p = -6 := by omega
          refine r_aload_n C dX8_apart_43 rfl ?_
          refine r_iload_n C dX8_apart_44 rfl ?_
          refine r_iload_n C dX8_apart_45 rfl ?_
          refine r_cVx C dX8_apart_46 mlX8_135 kX8_holdsIn (n_holdsIn (p := p) (v := i) hp3 hba hsz d1 hc24 hex g1 (by omega)) hp3.o rfl rfl rfl (Nat.le_of_ble_eq_true rfl) (fit hX (by decide)) ?_
          rintro z h4 ⟨hz, g7, k4⟩
          rw [hz]
          refine r_if_eq (tgt := 58) C dX8_apart_49 (by decide) (fun hc49 => ?_) (fun hc49 => ?_)
          · refine r_iconst C dX8_apart_58 (by decide) ?_
            exact hnext h4 0 g7 (k3.tr k4) (by rw [bOr_0 (bt_rg _ _), bt_f d1 (zb_0.mp hc49)])
          · refine r_iconst C dX8_apart_52 (by decide) ?_
            refine r_iload_n C dX8_apart_53 rfl ?_
            refine r_ishl C dX8_apart_54 ?_
            refine r_goto (tgt := 59) C dX8_apart_55 (by decide) ?_
            exact hnext h4 _ g7 (k3.tr k4) (by rw [bt_t d1 (zb_n0.mp hc49)])
      refine r_aload_n C dX8_apart_10 rfl ?_
      refine r_get C dX8_apart_11 flX8_46 hp'.o rfl ?_
      refine r_iload_n C dX8_apart_14 rfl ?_
      refine r_iconst C dX8_apart_15 (by decide) ?_
      refine w_hB C dX8_apart_16 hp' (by omega) (by omega) (fun h3 hp3 k3 => ?_)
      refine r_iconst C dX8_apart_17 (by decide) ?_
      refine r_istore_n C dX8_apart_18 (by decide) ?_
      exact inner 13 0 h3 _ (by omega) (by omega) (by omega) ⟨_, _, _, _, _, _, _, _, hp3⟩ (k'.tr (k3.mono (fun t q => by omega))) (fun u u0 u1 => by rw [fu_n (by omega)]; exact g5 u u0 u1) (fu_s.trans (by unfold bt; rfl))
  refine r_iconst C dX8_apart_0 (by decide) ?_
  refine r_istore_n C dX8_apart_1 (by decide) ?_
  exact rows 7 0 h hB none (by omega) (by omega) (by omega) ⟨_, _, _, _, _, _, _, _, hp⟩ Kp.rf (fun u u0 u1 => by omega)
end
