/-! the model: faultOf -/
theorem pe_out {n p : Int} {f : Int → Int} (h : n ≤ p) : ∀ d : Nat, pe n f d p = -1 - p := by
  intro d
  cases d with
  | zero =>
    show (if nd (sgn n f p) < 0 ∨ 0 < nd (sgn n f p) then -1 - p else p + 1) = _
    rw [sgn_out h, nd_0, if_pos (by omega)]
  | succ d =>
    show (if nd (sgn n f p) < 0 then -1 - p else pit (pe n f d) (nd (sgn n f p)).toNat (p + 1)) = _
    rw [sgn_out h, nd_0, if_pos (by omega)]
theorem pe_neg {n p : Int} {f : Int → Int} (h0 : 0 ≤ p) (h : p < n) (hn : nd (f p) < 0) : ∀ d : Nat, pe n f d p = -1 - p := by
  intro d
  cases d with
  | zero =>
    show (if nd (sgn n f p) < 0 ∨ 0 < nd (sgn n f p) then -1 - p else p + 1) = _
    rw [sgn_in h0 h, if_pos (by omega)]
  | succ d =>
    show (if nd (sgn n f p) < 0 then -1 - p else pit (pe n f d) (nd (sgn n f p)).toNat (p + 1)) = _
    rw [sgn_in h0 h, if_pos (by omega)]
theorem pe_leaf {n p : Int} {f : Int → Int} (h0 : 0 ≤ p) (h : p < n) (hn : nd (f p) = 0) : ∀ d : Nat, pe n f d p = p + 1 := by
  intro d
  cases d with
  | zero =>
    show (if nd (sgn n f p) < 0 ∨ 0 < nd (sgn n f p) then -1 - p else p + 1) = _
    rw [sgn_in h0 h, hn, if_neg (by omega)]
  | succ d =>
    show (if nd (sgn n f p) < 0 then -1 - p else pit (pe n f d) (nd (sgn n f p)).toNat (p + 1)) = _
    rw [sgn_in h0 h, hn, if_neg (by omega)]
    rfl
theorem pe_deep {n p : Int} {f : Int → Int} (h0 : 0 ≤ p) (h : p < n) (hn : 0 < nd (f p)) : pe n f 0 p = -1 - p := by
  show (if nd (sgn n f p) < 0 ∨ 0 < nd (sgn n f p) then -1 - p else p + 1) = _
  rw [sgn_in h0 h, if_pos (by omega)]
theorem pe_node {n p : Int} {f : Int → Int} (h0 : 0 ≤ p) (h : p < n) (hn : 0 < nd (f p)) (d : Nat) : pe n f (d + 1) p = pit (pe n f d) (nd (f p)).toNat (p + 1) := by
  show (if nd (sgn n f p) < 0 then -1 - p else pit (pe n f d) (nd (sgn n f p)).toNat (p + 1)) = _
  rw [sgn_in h0 h, if_neg (by omega)]
section
variable {h : Pic} {m : Nat} {A : Nat → Nat} {vs pg pd us gi op th la lv sl : Int} {T S M tL dU rs pA pS pH bV be dO hB sA nO mI mK : Int → Int}
theorem n_faultOf (hp : MP h m A vs pg pd us gi op th la lv sl T S M tL dU rs pA pS pH bV be dO hB sA nO mI mK) (hn0 : 0 ≤ M 60) (hn1 : M 60 ≤ 40) : Meets yX8_faultOf cX8_faultOf 5 (some .int) 2 0 0 [vR m] h (pX (fun z h' => z = flt (M 60) (fun k => T (2400 + k)) ∧ ∃ rs', MP h' m A vs pg pd us gi op th la lv sl T S M tL dU rs' pA pS pH bV be dO hB sA nO mI mK ∧ Kp (fun t => t = 68) h h')) := by
  refine Meets.of (plainFor_of_name (by decide)) (Nat.le_of_ble_eq_true rfl) (fun X C hX hN hA => ?_)
  generalize hR : flt (M 60) (fun k => T (2400 + k)) = R
  have main : ∀ (d : Nat) (D k : Int) (h' : Pic) (rs' : Int → Int) (o3 o4 : Option Va), D = 6 - d → d ≤ 6 → 0 ≤ k → k ≤ M 60 → MP h' m A vs pg pd us gi op th la lv sl T S M tL dU rs' pA pS pH bV be dO hB sA nO mI mK → Kp (fun t => t = 68) h h' → (pe (M 60) (fun k => T (2400 + k)) d k < 0 → R = -1 - pe (M 60) (fun k => T (2400 + k)) d k) →
      (0 ≤ pe (M 60) (fun k => T (2400 + k)) d k → ∀ (h2 : Pic) (rs2 : Int → Int) (o3' : Option Va), MP h2 m A vs pg pd us gi op th la lv sl T S M tL dU rs2 pA pS pH bV be dO hB sA nO mI mK → Kp (fun t => t = 68) h h2 → (∀ i, 0 ≤ i → i < D → rs2 i = rs' i) → Go X (Qm X (pX (fun z h' => z = R ∧ ∃ rs', MP h' m A vs pg pd us gi op th la lv sl T S M tL dU rs' pA pS pH bV be dO hB sA nO mI mK ∧ Kp (fun t => t = 68) h h')) 0 0) 0 0 h2 73 [some (vR m), some (vI D), some (vI (pe (M 60) (fun k => T (2400 + k)) d k - 1)), o3', some (vI (if 0 < D then 1 else 0))] []) →
      Go X (Qm X (pX (fun z h' => z = R ∧ ∃ rs', MP h' m A vs pg pd us gi op th la lv sl T S M tL dU rs' pA pS pH bV be dO hB sA nO mI mK ∧ Kp (fun t => t = 68) h h')) 0 0) 0 0 h' 4 [some (vR m), some (vI D), some (vI k), o3, o4] [] := by
    intro d
    induction d with
    | zero =>
      intro D k h' rs' o3 o4 hD hd6 g3 g4 hp' k' hF hS
      refine r_iload_n C dX8_faultOf_4 rfl ?_
      refine r_aload_n C dX8_faultOf_5 rfl ?_
      refine r_get C dX8_faultOf_6 flX8_16 hp'.o rfl ?_
      refine r_bipush C dX8_faultOf_9 (by decide) ?_
      refine r_iald C dX8_faultOf_11 hp'.aM (by omega) (by omega) ?_
      refine r_icmp_ge (tgt := 172) C dX8_faultOf_12 (by decide) (fun hc12 => ?_) (fun hc12 => ?_)
      · rw [pe_out hc12] at hF
        refine r_aload_n C dX8_faultOf_172 rfl ?_
        refine r_get C dX8_faultOf_173 flX8_16 hp'.o rfl ?_
        refine r_bipush C dX8_faultOf_176 (by decide) ?_
        refine r_iald C dX8_faultOf_178 hp'.aM (by omega) (by omega) ?_
        exact r_iret C dX8_faultOf_179 (by decide) (by decide) ⟨_, rfl, by have := hF (by omega); omega, _, hp', k'⟩
      refine r_aload_n C dX8_faultOf_15 rfl ?_
      refine r_get C dX8_faultOf_16 flX8_7 hp'.o rfl ?_
      refine r_sipush C dX8_faultOf_19 (by decide) ?_
      refine r_iload_n C dX8_faultOf_22 rfl ?_
      refine r_iadd C dX8_faultOf_23 (by omega) ?_
      refine r_iald C dX8_faultOf_24 hp'.aT (by omega) (by omega) ?_
      refine r_cSi C dX8_faultOf_25 mlX8_77 kX8_partsOf (n_partsOf (s := T (2400 + k))) rfl rfl (Nat.le_of_ble_eq_true rfl) (fit hX (by decide)) ?_
      have hnr := nd_rng (T (2400 + k))
      refine r_istore_n C dX8_faultOf_28 (by decide) ?_
      refine r_iload_n C dX8_faultOf_29 rfl ?_
      refine r_if_lt (tgt := 43) C dX8_faultOf_30 (by decide) (fun hc30 => ?_) (fun hc30 => ?_)
      · rw [pe_neg g3 hc12 hc30] at hF
        refine r_iload_n C dX8_faultOf_43 rfl ?_
        exact r_iret C dX8_faultOf_44 (by decide) (by decide) ⟨_, rfl, by have := hF (by omega); omega, _, hp', k'⟩
      refine r_iload_n C dX8_faultOf_33 rfl ?_
      refine r_if_le (tgt := 45) C dX8_faultOf_34 (by decide) (fun hc34 => ?_) (fun hc34 => ?_)
      rotate_left
      · rw [pe_deep g3 hc12 hc34] at hF
        refine r_iload_n C dX8_faultOf_37 rfl ?_
        refine r_bipush C dX8_faultOf_38 (by decide) ?_
        refine r_icmp_ne (tgt := 45) C dX8_faultOf_40 (by decide) (fun hc40 => ?_) (fun hc40 => ?_)
        · exact absurd hc40 (by omega)
        refine r_iload_n C dX8_faultOf_43 rfl ?_
        exact r_iret C dX8_faultOf_44 (by decide) (by decide) ⟨_, rfl, by have := hF (by omega); omega, _, hp', k'⟩
      rw [pe_leaf g3 hc12 (show nd (T (2400 + k)) = 0 by omega)] at hS
      have hz := hS (by omega) h' rs' (some (vI (nd (T (2400 + k))))) hp' k' (fun _ _ _ => rfl)
      rw [show k + 1 - 1 = k by omega, if_pos (by omega)] at hz
      refine r_iload_n C dX8_faultOf_45 rfl ?_
      refine r_if_le (tgt := 62) C dX8_faultOf_46 (by decide) (fun hc46 => ?_) (fun hc46 => ?_)
      rotate_left
      · exact absurd hc46 (by omega)
      refine r_iload_n C dX8_faultOf_62 rfl ?_
      refine r_if_le (tgt := 70) C dX8_faultOf_63 (by decide) (fun hc63 => ?_) (fun hc63 => ?_)
      · exact absurd hc63 (by omega)
      refine r_iconst C dX8_faultOf_66 (by decide) ?_
      refine r_goto (tgt := 71) C dX8_faultOf_67 (by decide) ?_
      refine r_istore C dX8_faultOf_71 (by decide) ?_
      exact hz
    | succ d ih =>
      intro D k h' rs' o3 o4 hD hd6 g3 g4 hp' k' hF hS
      refine r_iload_n C dX8_faultOf_4 rfl ?_
      refine r_aload_n C dX8_faultOf_5 rfl ?_
      refine r_get C dX8_faultOf_6 flX8_16 hp'.o rfl ?_
      refine r_bipush C dX8_faultOf_9 (by decide) ?_
      refine r_iald C dX8_faultOf_11 hp'.aM (by omega) (by omega) ?_
      refine r_icmp_ge (tgt := 172) C dX8_faultOf_12 (by decide) (fun hc12 => ?_) (fun hc12 => ?_)
      · rw [pe_out hc12] at hF
        refine r_aload_n C dX8_faultOf_172 rfl ?_
        refine r_get C dX8_faultOf_173 flX8_16 hp'.o rfl ?_
        refine r_bipush C dX8_faultOf_176 (by decide) ?_
        refine r_iald C dX8_faultOf_178 hp'.aM (by omega) (by omega) ?_
        exact r_iret C dX8_faultOf_179 (by decide) (by decide) ⟨_, rfl, by have := hF (by omega); omega, _, hp', k'⟩
      refine r_aload_n C dX8_faultOf_15 rfl ?_
      refine r_get C dX8_faultOf_16 flX8_7 hp'.o rfl ?_
      refine r_sipush C dX8_faultOf_19 (by decide) ?_
      refine r_iload_n C dX8_faultOf_22 rfl ?_
      refine r_iadd C dX8_faultOf_23 (by omega) ?_
      refine r_iald C dX8_faultOf_24 hp'.aT (by omega) (by omega) ?_
      refine r_cSi C dX8_faultOf_25 mlX8_77 kX8_partsOf (n_partsOf (s := T (2400 + k))) rfl rfl (Nat.le_of_ble_eq_true rfl) (fit hX (by decide)) ?_
      have hnr := nd_rng (T (2400 + k))
      refine r_istore_n C dX8_faultOf_28 (by decide) ?_
      refine r_iload_n C dX8_faultOf_29 rfl ?_
      refine r_if_lt (tgt := 43) C dX8_faultOf_30 (by decide) (fun hc30 => ?_) (fun hc30 => ?_)
      · rw [pe_neg g3 hc12 hc30] at hF
        refine r_iload_n C dX8_faultOf_43 rfl ?_
        exact r_iret C dX8_faultOf_44 (by decide) (by decide) ⟨_, rfl, by have := hF (by omega); omega, _, hp', k'⟩
      have kids : ∀ (c : Nat) (k1 : Int) (h1 : Pic) (rs1 : Int → Int) (o3 o4 : Option Va), 1 ≤ c → c ≤ 3 → 0 ≤ k1 → k1 ≤ M 60 → MP h1 m A vs pg pd us gi op th la lv sl T S M tL dU rs1 pA pS pH bV be dO hB sA nO mI mK → Kp (fun t => t = 68) h h1 → rs1 D = c → (∀ i, 0 ≤ i → i < D → rs1 i = rs' i) → pit (pe (M 60) (fun k => T (2400 + k)) d) c k1 = pe (M 60) (fun k => T (2400 + k)) (d + 1) k →
          Go X (Qm X (pX (fun z h' => z = R ∧ ∃ rs', MP h' m A vs pg pd us gi op th la lv sl T S M tL dU rs' pA pS pH bV be dO hB sA nO mI mK ∧ Kp (fun t => t = 68) h h')) 0 0) 0 0 h1 4 [some (vR m), some (vI (D + 1)), some (vI k1), o3, o4] [] := by
        intro c
        induction c with
        | zero => intro k1 h1 rs1 o3 o4 q; exact absurd q (by omega)
        | succ c ihc =>
          intro k1 h1 rs1 o3 o4 q1 q2 q3 q4 hp1 kk1 hrs hlow hpit
          have hps : pit (pe (M 60) (fun k => T (2400 + k)) d) (c + 1) k1 = pit (pe (M 60) (fun k => T (2400 + k)) d) c (pe (M 60) (fun k => T (2400 + k)) d k1) := if_neg (by omega)
          rw [hps] at hpit
          have hrg := pe_rng (M 60) (fun k => T (2400 + k)) d k1 q3 q4
          refine ih (D + 1) k1 h1 rs1 o3 o4 (by omega) (by omega) q3 q4 hp1 kk1 (fun hneg => ?_) (fun hnn h2 rs2 o3' hp2 kk2 hlow2 => ?_)
          · rw [pit_neg _ _ hneg] at hpit
            rw [hpit]; exact hF (by omega)
          · generalize pe (M 60) (fun k => T (2400 + k)) d k1 = e at hpit hrg hnn ⊢
            have hrD : rs2 D = c + 1 := by rw [hlow2 D (by omega) (by omega), hrs]; omega
            rw [if_pos (by omega)]
            refine r_iload C dX8_faultOf_73 rfl ?_
            refine r_if_eq (tgt := 140) C dX8_faultOf_75 (by decide) (fun hc75 => ?_) (fun hc75 => ?_)
            · exact absurd hc75 (by decide)
            refine r_aload_n C dX8_faultOf_78 rfl ?_
            refine r_get C dX8_faultOf_79 flX8_25 hp2.o rfl ?_
            refine r_iload_n C dX8_faultOf_82 rfl ?_
            refine r_iconst C dX8_faultOf_83 (by decide) ?_
            refine r_isub C dX8_faultOf_84 (by omega) ?_
            refine r_dup2 C dX8_faultOf_85 ?_
            refine r_iald C dX8_faultOf_86 hp2.ars (by omega) (by omega) ?_
            rw [show D + 1 - 1 = D by omega, hrD]
            refine r_iconst C dX8_faultOf_87 (by decide) ?_
            refine r_isub C dX8_faultOf_88 (by omega) ?_
            refine w_rs C dX8_faultOf_89 hp2 (by omega) (by omega) (fun h3 hp3 k3 => ?_)
            have kk3 := kk2.tr k3
            refine r_aload_n C dX8_faultOf_90 rfl ?_
            refine r_get C dX8_faultOf_91 flX8_25 hp3.o rfl ?_
            refine r_iload_n C dX8_faultOf_94 rfl ?_
            refine r_iconst C dX8_faultOf_95 (by decide) ?_
            refine r_isub C dX8_faultOf_96 (by omega) ?_
            rw [show D + 1 - 1 = D by omega]
            refine r_iald C dX8_faultOf_97 hp3.ars (by omega) (by omega) ?_
            rw [fu_s]
            refine r_if_ne (tgt := 105) C dX8_faultOf_98 (by decide) (fun hc98 => ?_) (fun hc98 => ?_)
            · refine r_iconst C dX8_faultOf_105 (by decide) ?_
              refine r_istore C dX8_faultOf_106 (by decide) ?_
              refine r_iload_n C dX8_faultOf_108 rfl ?_
              refine r_iload C dX8_faultOf_109 rfl ?_
              refine r_if_eq (tgt := 118) C dX8_faultOf_111 (by decide) (fun hc111 => ?_) (fun hc111 => ?_)
              rotate_left
              · exact absurd rfl hc111
              refine r_iconst C dX8_faultOf_118 (by decide) ?_
              refine r_isub C dX8_faultOf_119 (by omega) ?_
              refine r_istore_n C dX8_faultOf_120 (by decide) ?_
              refine r_iload C dX8_faultOf_121 rfl ?_
              refine r_if_eq (tgt := 134) C dX8_faultOf_123 (by decide) (fun hc123 => ?_) (fun hc123 => ?_)
              rotate_left
              · exact absurd rfl hc123
              refine r_iconst C dX8_faultOf_134 (by decide) ?_
              refine r_istore C dX8_faultOf_135 (by decide) ?_
              refine r_goto (tgt := 73) C dX8_faultOf_137 (by decide) ?_
              refine r_iload C dX8_faultOf_73 rfl ?_
              refine r_if_eq (tgt := 140) C dX8_faultOf_75 (by decide) (fun hc75b => ?_) (fun hc75b => ?_)
              rotate_left
              · exact absurd rfl hc75b
              refine r_iload_n C dX8_faultOf_140 rfl ?_
              refine r_if_ne (tgt := 166) C dX8_faultOf_141 (by decide) (fun hc141 => ?_) (fun hc141 => ?_)
              rotate_left
              · exact absurd hc141 (by omega)
              refine r_iinc C dX8_faultOf_166 rfl (by decide) (by omega) ?_
              refine r_goto (tgt := 4) C dX8_faultOf_169 (by decide) ?_
              have hz := ihc e h3 _ o3' (some (vI 0)) (by omega) (by omega) hnn hrg.2.1 hp3 kk3 (show fu rs2 D (c + 1 - 1) D = _ by rw [fu_s]; omega) (fun i i0 i1 => by rw [fu_n (by omega), hlow2 i i0 (by omega)]; exact hlow i i0 i1) hpit
              rw [show e - 1 + 1 = e by omega, show D + 1 - 0 = D + 1 by omega]
              exact hz
            · have hc0 : c = 0 := by omega
              rw [hc0] at hpit
              have hpe : e = pe (M 60) (fun k => T (2400 + k)) (d + 1) k := hpit
              have hz := hS (by omega) h3 _ o3' hp3 kk3 (fun i i0 i1 => by rw [fu_n (by omega), hlow2 i i0 (by omega)]; exact hlow i i0 i1)
              rw [← hpe] at hz
              refine r_iconst C dX8_faultOf_101 (by decide) ?_
              refine r_goto (tgt := 106) C dX8_faultOf_102 (by decide) ?_
              refine r_istore C dX8_faultOf_106 (by decide) ?_
              refine r_iload_n C dX8_faultOf_108 rfl ?_
              refine r_iload C dX8_faultOf_109 rfl ?_
              refine r_if_eq (tgt := 118) C dX8_faultOf_111 (by decide) (fun hc111 => ?_) (fun hc111 => ?_)
              · exact absurd hc111 (by decide)
              refine r_iconst C dX8_faultOf_114 (by decide) ?_
              refine r_goto (tgt := 119) C dX8_faultOf_115 (by decide) ?_
              refine r_isub C dX8_faultOf_119 (by omega) ?_
              refine r_istore_n C dX8_faultOf_120 (by decide) ?_
              refine r_iload C dX8_faultOf_121 rfl ?_
              refine r_if_eq (tgt := 134) C dX8_faultOf_123 (by decide) (fun hc123 => ?_) (fun hc123 => ?_)
              · exact absurd hc123 (by decide)
              rw [show D + 1 - 1 = D by omega]
              refine r_iload_n C dX8_faultOf_126 rfl ?_
              refine r_if_le (tgt := 134) C dX8_faultOf_127 (by decide) (fun hc127 => ?_) (fun hc127 => ?_)
              · rw [if_neg (by omega)] at hz
                refine r_iconst C dX8_faultOf_134 (by decide) ?_
                refine r_istore C dX8_faultOf_135 (by decide) ?_
                refine r_goto (tgt := 73) C dX8_faultOf_137 (by decide) ?_
                exact hz
              · rw [if_pos (by omega)] at hz
                refine r_iconst C dX8_faultOf_130 (by decide) ?_
                refine r_goto (tgt := 135) C dX8_faultOf_131 (by decide) ?_
                refine r_istore C dX8_faultOf_135 (by decide) ?_
                refine r_goto (tgt := 73) C dX8_faultOf_137 (by decide) ?_
                exact hz
      refine r_iload_n C dX8_faultOf_33 rfl ?_
      refine r_if_le (tgt := 45) C dX8_faultOf_34 (by decide) (fun hc34 => ?_) (fun hc34 => ?_)
      · rw [pe_leaf g3 hc12 (show nd (T (2400 + k)) = 0 by omega)] at hS
        have hz := hS (by omega) h' rs' (some (vI (nd (T (2400 + k))))) hp' k' (fun _ _ _ => rfl)
        rw [show k + 1 - 1 = k by omega] at hz
        refine r_iload_n C dX8_faultOf_45 rfl ?_
        refine r_if_le (tgt := 62) C dX8_faultOf_46 (by decide) (fun hc46 => ?_) (fun hc46 => ?_)
        rotate_left
        · exact absurd hc46 (by omega)
        refine r_iload_n C dX8_faultOf_62 rfl ?_
        refine r_if_le (tgt := 70) C dX8_faultOf_63 (by decide) (fun hc63 => ?_) (fun hc63 => ?_)
        · rw [if_neg (by omega)] at hz
          refine r_iconst C dX8_faultOf_70 (by decide) ?_
          refine r_istore C dX8_faultOf_71 (by decide) ?_
          exact hz
        · rw [if_pos (by omega)] at hz
          refine r_iconst C dX8_faultOf_66 (by decide) ?_
          refine r_goto (tgt := 71) C dX8_faultOf_67 (by decide) ?_
          refine r_istore C dX8_faultOf_71 (by decide) ?_
          exact hz
      · refine r_iload_n C dX8_faultOf_37 rfl ?_
        refine r_bipush C dX8_faultOf_38 (by decide) ?_
        refine r_icmp_ne (tgt := 45) C dX8_faultOf_40 (by decide) (fun hc40 => ?_) (fun hc40 => ?_)
        rotate_left
        · exact absurd hc40 (by omega)
        refine r_iload_n C dX8_faultOf_45 rfl ?_
        refine r_if_le (tgt := 62) C dX8_faultOf_46 (by decide) (fun hc46 => ?_) (fun hc46 => ?_)
        · exact absurd hc46 (by omega)
        refine r_aload_n C dX8_faultOf_49 rfl ?_
        refine r_get C dX8_faultOf_50 flX8_25 hp'.o rfl ?_
        refine r_iload_n C dX8_faultOf_53 rfl ?_
        refine r_iload_n C dX8_faultOf_54 rfl ?_
        refine w_rs C dX8_faultOf_55 hp' (by omega) (by omega) (fun h1 hp1 k1 => ?_)
        refine r_iinc C dX8_faultOf_56 rfl (by decide) (by omega) ?_
        refine r_goto (tgt := 166) C dX8_faultOf_59 (by decide) ?_
        refine r_iinc C dX8_faultOf_166 rfl (by decide) (by omega) ?_
        refine r_goto (tgt := 4) C dX8_faultOf_169 (by decide) ?_
        exact kids (nd (T (2400 + k))).toNat (k + 1) h1 _ _ _ (by omega) (by omega) (by omega) (by omega) hp1 (k'.tr k1) (show fu rs' D (nd (T (2400 + k))) D = _ by rw [fu_s]; omega) (fun i i0 i1 => fu_n (by omega)) (pe_node g3 hc12 hc34 d).symm
  have hrg := pe_rng (M 60) (fun k => T (2400 + k)) 6 0 (Int.le_refl 0) hn0
  refine r_iconst C dX8_faultOf_0 (by decide) ?_
  refine r_istore_n C dX8_faultOf_1 (by decide) ?_
  refine r_iconst C dX8_faultOf_2 (by decide) ?_
  refine r_istore_n C dX8_faultOf_3 (by decide) ?_
  refine main 6 0 0 h rs none none (by omega) (by omega) (by omega) hn0 hp Kp.rf (fun hneg => ?_) (fun hnn h2 rs2 o3' hp2 k2 _ => ?_)
  · rw [← hR]; unfold flt; rw [if_pos hneg]
  · rw [if_neg (by omega)]
    refine r_iload C dX8_faultOf_73 rfl ?_
    refine r_if_eq (tgt := 140) C dX8_faultOf_75 (by decide) (fun hc75 => ?_) (fun hc75 => ?_)
    rotate_left
    · exact absurd rfl hc75
    refine r_iload_n C dX8_faultOf_140 rfl ?_
    refine r_if_ne (tgt := 166) C dX8_faultOf_141 (by decide) (fun hc141 => ?_) (fun hc141 => ?_)
    · exact absurd rfl hc141
    refine r_iload_n C dX8_faultOf_144 rfl ?_
    refine r_iconst C dX8_faultOf_145 (by decide) ?_
    refine r_iadd C dX8_faultOf_146 (by omega) ?_
    refine r_aload_n C dX8_faultOf_147 rfl ?_
    refine r_get C dX8_faultOf_148 flX8_16 hp2.o rfl ?_
    refine r_bipush C dX8_faultOf_151 (by decide) ?_
    refine r_iald C dX8_faultOf_153 hp2.aM (by omega) (by omega) ?_
    refine r_icmp_ne (tgt := 162) C dX8_faultOf_154 (by decide) (fun hc154 => ?_) (fun hc154 => ?_)
    · refine r_iload_n C dX8_faultOf_162 rfl ?_
      refine r_iconst C dX8_faultOf_163 (by decide) ?_
      refine r_iadd C dX8_faultOf_164 (by omega) ?_
      exact r_iret C dX8_faultOf_165 (by decide) (by decide) ⟨_, rfl, by rw [← hR]; unfold flt; rw [if_neg (by omega), if_pos (by omega)]; omega, _, hp2, k2⟩
    · refine r_bipush C dX8_faultOf_157 (by decide) ?_
      refine r_goto (tgt := 165) C dX8_faultOf_159 (by decide) ?_
      exact r_iret C dX8_faultOf_165 (by decide) (by decide) ⟨_, rfl, by rw [← hR]; unfold flt; rw [if_neg (by omega), if_neg (by omega)], _, hp2, k2⟩
end
