/-! the model: slips -/
theorem nd_pe {n k : Int} {f : Int → Int} (h : pe n f 6 0 = n) (h0 : 0 ≤ k) (h1 : k < n) : 0 ≤ nd (f k) := by
  obtain ⟨d, hd⟩ := pe_cover (n := n) (f := f) 6 0 k (Int.le_refl 0) (by omega) h0 (by omega)
  rcases Int.lt_or_le (nd (f k)) 0 with q | q
  · rw [pe_neg h0 h1 q] at hd; omega
  · exact q
theorem slp_no {s : Int} (h : s = 63 ∨ (97 ≤ s ∧ s ≤ 104)) : slp s = -6 := by
  unfold slp
  rw [if_neg (by omega), if_neg (by omega), if_neg (by omega), if_neg (by omega)]
theorem nd_sl {s : Int} (h : 0 ≤ nd s) (h1 : ¬ s = 63) (h2 : ¬ (97 ≤ s ∧ s ≤ 104)) : slp s = slM s ∧ ¬ slp s = -6 ∧ nd (slM s) = nd s ∧ -1000 ≤ s ∧ s ≤ 1000 := by
  have hs : s = 48 ∨ s = 49 ∨ s = 50 ∨ s = 51 ∨ s = 52 ∨ s = 53 ∨ s = 54 ∨ s = 55 ∨ s = 56 ∨ s = 57 ∨ s = 120 ∨ s = 43 ∨ s = 45 ∨ s = 42 ∨ s = 109 := by
    unfold nd at h
    (repeat' split at h) <;> omega
  rcases hs with rfl | rfl | rfl | rfl | rfl | rfl | rfl | rfl | rfl | rfl | rfl | rfl | rfl | rfl | rfl <;> decide
theorem fu_back {T : Int → Int} {i x y : Int} (h : y = T i) : fu (fu T i x) i y = T := by
  funext j
  by_cases e : j = i
  · rw [e, fu_s, h]
  · rw [fu_n e, fu_n e]
section
variable {h : Pic} {m : Nat} {A : Nat → Nat} {vs pg pd us gi op th la lv sl : Int} {T S M tL dU rs pA pS pH bV be dO hB sA nO mI mK : Int → Int}
variable {mn : Int → Int} {tx : Int → Int → Int} {tl du : Int → Int}
theorem n_holdsS {p v w k : Int} (hba : BA vs pg mn tx tl du M T tL dU) (hsz : SZA M T S) (hp : MP h m A vs pg pd us gi op th la lv sl (fu T (40 * (8 * v + w) + k) (slM (tx (8 * v + w) k))) S M tL dU rs pA pS pH bV be dO hB sA nO mI mK) (hp0 : 0 ≤ p) (hp1 : p < pg) (hex : tl p = -6) (hv0 : 0 ≤ v) (hv1 : v < vs) (hbv : ∀ w, 0 ≤ w → w < 8 → bV w = v) (hw0 : 0 ≤ w) (hw1 : w < 8) (hk0 : 0 ≤ k) (hk1 : k < mn (8 * v + w)) (hsl : slp (tx (8 * v + w) k) = slM (tx (8 * v + w) k)) (hnd : nd (slM (tx (8 * v + w) k)) = nd (tx (8 * v + w) k)) :
    Meets yX8_holds cX8_holds 2 (some .boolean) 4 0 0 [vR m, vI p] h (pX (fun z h' => z = zb ((evS mn tx v (40 * w + k) p).1 = du p) ∧ (∃ pd us gi op pA pS pH, MP h' m A vs pg pd us gi op th la lv sl (fu T (40 * (8 * v + w) + k) (slM (tx (8 * v + w) k))) S M tL dU rs pA pS pH bV be dO hB sA nO mI mK) ∧ Kp SM h h')) := by
  have := hba.1
  obtain ⟨c1, c2, c3, c4, -⟩ := n_pgt hba hsz hp0 hp1 hex
  obtain ⟨t1, -, t3, -, t5⟩ := hba.t (t := 8 * v + w) (by omega) (by omega)
  have hd1 : (40 * w + k) / 40 = w := by omega
  have hd2 : (40 * w + k) % 40 = k := by omega
  have hT : ∀ i, ¬ i = 40 * (8 * v + w) + k → fu T (40 * (8 * v + w) + k) (slM (tx (8 * v + w) k)) i = T i := fun i hi => fu_n hi
  refine n_holds (p := p) (n := mn (48 + p)) (f := tx (48 + p)) (d := du p) (wn := fun w => mn (8 * v + w)) (wt := wtS tx v (40 * w + k)) hp hp0 (by omega) ?_ ?_ c2 ?_ c4
  · exact c1.congr (fun i i0 i1 => by show nd (fu T _ _ (40 * (48 + p) + i)) = nd (T (40 * (48 + p) + i)); rw [hT _ (by omega)])
  · intro w' w0 w1
    rw [hbv w' w0 w1]
    obtain ⟨a1, -, a3, -, a5⟩ := hba.t (t := 8 * v + w') (by omega) (by omega)
    refine ⟨by omega, by omega, ?_, a1, fun i i0 i1 => ?_⟩
    · rcases hba.gt hsz (t := 8 * v + w') (by omega) (by omega) with q | q
      · exact Or.inl q
      · refine Or.inr (q.congr (fun i i0 i1 => ?_))
        show nd (fu T _ _ (40 * (8 * v + w') + i)) = nd (T (40 * (8 * v + w') + i))
        by_cases e : 40 * (8 * v + w') + i = 40 * (8 * v + w) + k
        · rw [e, fu_s, hnd]
          exact congrArg nd (t5 k hk0 hk1).symm
        · rw [hT _ e]
    · show fu T _ _ (40 * (8 * v + w') + i) = wtS tx v (40 * w + k) w' i
      unfold wtS
      rw [hd1, hd2]
      have i1' : i < mn (8 * v + w') := i1
      by_cases e : w' = w
      · rw [if_pos e, e]
        rw [e] at a5 i1'
        by_cases ei : i = k
        · rw [ei, fu_s, fu_s, hsl]
        · rw [hT _ (by omega), fu_n ei]; exact a5 i i0 i1'
      · rw [if_neg e, hT _ (by omega)]; exact a5 i i0 i1'
  · intro i i0 i1
    show fu T _ _ (40 * (48 + p) + i) = _
    have : mn (48 + p) ≤ 40 := by rw [← c2]; exact c1.2.1
    rw [hT _ (by omega)]
    exact c3 i i0 i1
theorem n_laySlips {v : Int} (hp : MP h m A vs pg pd us gi op th la lv sl T S M tL dU rs pA pS pH bV be dO hB sA nO mI mK) (hba : BA vs pg mn tx tl du M T tL dU) (hsz : SZA M T S) (hld : LD la lv sl sA nO vs pg mn tx tl du) (hv0 : 0 ≤ v) (hv1 : v < vs) :
    Meets yX8_laySlips cX8_laySlips 8 none 6 0 0 [vR m, vI v] h (pV (fun h' => ∃ pd us gi op pA pS pH bV sA nO, MP h' m A vs pg pd us gi op th 1 v (sc (isS mn tx v) 320) T S M tL dU rs pA pS pH bV be dO hB sA nO mI mK ∧ (∀ s, 0 ≤ s → s < sc (isS mn tx v) 320 → sA s = 320 * v + en (isS mn tx v) 320 s ∧ nO s = nt_ pg mn tx tl du v s) ∧ Kp SM h h')) := by
  obtain ⟨hv1', hv6, hp0, hp12⟩ := hba.1
  refine Meets.of (plainFor_of_name (by decide)) (Nat.le_of_ble_eq_true rfl) (fun X C hX hN hA => ?_)
  obtain ⟨PQ, hPQ⟩ : ∃ PQ : State → Prop, PQ = Qm X (pV (fun h' => ∃ pd us gi op pA pS pH bV sA nO, MP h' m A vs pg pd us gi op th 1 v (sc (isS mn tx v) 320) T S M tL dU rs pA pS pH bV be dO hB sA nO mI mK ∧ (∀ s, 0 ≤ s → s < sc (isS mn tx v) 320 → sA s = 320 * v + en (isS mn tx v) 320 s ∧ nO s = nt_ pg mn tx tl du v s) ∧ Kp SM h h')) 0 0 := ⟨_, rfl⟩
  rw [← hPQ]
  have hgo : Go X PQ 0 0 h 16 [some (vR m), some (vI v), none, none, none, none, none, none] [] := by
    refine r_aload_n C dX8_laySlips_16 rfl ?_
    refine r_iconst C dX8_laySlips_17 (by decide) ?_
    refine w_la C dX8_laySlips_18 hp (by omega) (fun h1 hp1 k1 => ?_)
    refine r_aload_n C dX8_laySlips_21 rfl ?_
    refine r_iload_n C dX8_laySlips_22 rfl ?_
    refine w_lv C dX8_laySlips_23 hp1 (fun h2 hp2 k2 => ?_)
    refine r_aload_n C dX8_laySlips_26 rfl ?_
    refine r_iconst C dX8_laySlips_27 (by decide) ?_
    refine w_sl C dX8_laySlips_28 hp2 (fun h3 hp3 k3 => ?_)
    refine r_iconst C dX8_laySlips_31 (by decide) ?_
    refine r_istore_n C dX8_laySlips_32 (by decide) ?_
    refine r_aload_n C dX8_laySlips_33 rfl ?_
    refine r_iload_n C dX8_laySlips_34 rfl ?_
    refine r_cVv C dX8_laySlips_35 mlX8_119 kX8_byVersion (n_byVersion (v := v) hp3) hp3.o rfl rfl rfl (Nat.le_of_ble_eq_true rfl) (fit hX (by decide)) ?_
    rintro h4 ⟨bV4, hp4, k4, hb4⟩
    have k14 : Kp SM h h4 := (k1.mono (fun t q => by omega)).tr ((k2.mono (fun t q => by omega)).tr ((k3.mono (fun t q => by omega)).tr (k4.mono (fun t q => by omega))))
    have words : ∀ (j : Nat) (w : Int) (h' : Pic) (sA' nO' : Int → Int) (o4 o5 o6 o7 : Option Va), 0 ≤ w → w ≤ 8 → 8 - w < j → (∃ pd us gi op pA pS pH, MP h' m A vs pg pd us gi op th 1 v (sc (isS mn tx v) (40 * w)) T S M tL dU rs pA pS pH bV4 be dO hB sA' nO' mI mK) → Kp SM h h' → (∀ s, 0 ≤ s → s < sc (isS mn tx v) (40 * w) → sA' s = 320 * v + en (isS mn tx v) (40 * w) s ∧ nO' s = bt (ntc mn tx tl du v (en (isS mn tx v) (40 * w) s)) pg) →
        Go X PQ 0 0 h' 83 [some (vR m), some (vI v), some (vI (bt (hold mn tx tl du v) pg)), some (vI w), o4, o5, o6, o7] [] := by
      intro j
      induction j with
      | zero => intro w h' sA' nO' o4 o5 o6 o7 g1 g2 g3; exact absurd g3 (by omega)
      | succ j ih =>
        intro w h' sA' nO' o4 o5 o6 o7 g1 g2 g3 g4 k' g5
        refine r_iload_n C dX8_laySlips_83 rfl ?_
        refine r_bipush C dX8_laySlips_84 (by decide) ?_
        refine r_icmp_ge (tgt := 285) C dX8_laySlips_86 (by decide) (fun hc86 => ?_) (fun hc86 => ?_)
        · have hw : w = 8 := by omega
          rw [hw] at g4 g5
          obtain ⟨pd', us', gi', op', pA', pS', pH', hp'⟩ := g4
          rw [hPQ]
          exact r_vret C dX8_laySlips_285 (by decide) (by decide) ⟨rfl, _, _, _, _, _, _, _, _, _, _, hp', g5, k'⟩
        obtain ⟨t1, t2, t3, t4, t5⟩ := hba.t (t := 8 * v + w) (by omega) (by omega)
        have inner : ∀ (jj : Nat) (k : Int) (h1 : Pic) (sA1 nO1 : Int → Int) (o6 o7 : Option Va), 0 ≤ k → k ≤ mn (8 * v + w) → mn (8 * v + w) - k < jj → (∃ pd us gi op pA pS pH, MP h1 m A vs pg pd us gi op th 1 v (sc (isS mn tx v) (40 * w + k)) T S M tL dU rs pA pS pH bV4 be dO hB sA1 nO1 mI mK) → Kp SM h h1 → (∀ s, 0 ≤ s → s < sc (isS mn tx v) (40 * w + k) → sA1 s = 320 * v + en (isS mn tx v) (40 * w + k) s ∧ nO1 s = bt (ntc mn tx tl du v (en (isS mn tx v) (40 * w + k) s)) pg) →
            Go X PQ 0 0 h1 100 [some (vR m), some (vI v), some (vI (bt (hold mn tx tl du v) pg)), some (vI w), some (vI (8 * v + w)), some (vI k), o6, o7] [] := by
          intro jj
          induction jj with
          | zero => intro k h1 sA1 nO1 o6 o7 d1 d2 d3; exact absurd d3 (by omega)
          | succ jj ihj =>
            intro k h1 sA1 nO1 o6 o7 d1 d2 d3 d4 k1' d5
            obtain ⟨pd1, us1, gi1, op1, pA1, pS1, pH1, hp1'⟩ := id d4
            have hsc := sc_rng (isS mn tx v) (i := 40 * w + k) (by omega)
            refine r_iload C dX8_laySlips_100 rfl ?_
            refine r_aload_n C dX8_laySlips_102 rfl ?_
            refine r_get C dX8_laySlips_103 flX8_16 hp1'.o rfl ?_
            refine r_iload C dX8_laySlips_106 rfl ?_
            refine r_iald C dX8_laySlips_108 hp1'.aM (by omega) (by omega) ?_
            rw [t1]
            refine r_icmp_ge (tgt := 279) C dX8_laySlips_109 (by decide) (fun hc109 => ?_) (fun hc109 => ?_)
            · have hkn : k = mn (8 * v + w) := by omega
              obtain ⟨e1, e2⟩ := sc_skip (S := isS mn tx v) (a := 40 * w + k) (by omega) (40 - k).toNat (fun z z1 z2 zz => by
                have e1 : z / 40 = w := by omega
                have e2 := zz.1
                rw [e1] at e2
                omega)
              rw [show 40 * w + k + ((40 - k).toNat : Int) = 40 * (w + 1) by omega] at e1 e2
              refine r_iinc C dX8_laySlips_279 rfl (by decide) (by omega) ?_
              refine r_goto (tgt := 83) C dX8_laySlips_282 (by decide) ?_
              exact ih (w + 1) h1 sA1 nO1 _ _ _ _ (by omega) (by omega) (by omega) (by rw [e1]; exact d4) k1' (by rw [e1, e2]; exact d5)
            have hTk : T (40 * (8 * v + w) + k) = tx (8 * v + w) k := t5 k d1 hc109
            have hd1 : (40 * w + k) / 40 = w := by omega
            have hd2 : (40 * w + k) % 40 = k := by omega
            have hsp : 40 * w + (k + 1) = 40 * w + k + 1 := by omega
            have hnot : ∀ (o7 : Option Va), slp (tx (8 * v + w) k) = -6 → Go X PQ 0 0 h1 273 [some (vR m), some (vI v), some (vI (bt (hold mn tx tl du v) pg)), some (vI w), some (vI (8 * v + w)), some (vI k), some (vI (tx (8 * v + w) k)), o7] [] := by
              intro o7 hno
              obtain ⟨e1, e2⟩ := sc_f (S := isS mn tx v) (i := 40 * w + k) (by omega) (fun zz => zz.2 (by rw [hd1, hd2]; exact hno))
              refine r_iinc C dX8_laySlips_273 rfl (by decide) (by omega) ?_
              refine r_goto (tgt := 100) C dX8_laySlips_276 (by decide) ?_
              exact ihj (k + 1) h1 sA1 nO1 _ _ (by omega) (by omega) (by omega) (by rw [hsp, e1]; exact d4) k1' (by rw [hsp, e1, e2]; exact d5)
            refine r_aload_n C dX8_laySlips_112 rfl ?_
            refine r_get C dX8_laySlips_113 flX8_7 hp1'.o rfl ?_
            refine r_bipush C dX8_laySlips_116 (by decide) ?_
            refine r_iload C dX8_laySlips_118 rfl ?_
            refine r_imul C dX8_laySlips_120 (by omega) ?_
            refine r_iload C dX8_laySlips_121 rfl ?_
            refine r_iadd C dX8_laySlips_123 (by omega) ?_
            refine r_iald C dX8_laySlips_124 hp1'.aT (by omega) (by omega) ?_
            rw [hTk]
            refine r_istore C dX8_laySlips_125 (by decide) ?_
            refine r_iload C dX8_laySlips_127 rfl ?_
            refine r_bipush C dX8_laySlips_129 (by decide) ?_
            refine r_icmp_eq (tgt := 273) C dX8_laySlips_131 (by decide) (fun hc131 => ?_) (fun hc131 => ?_)
            · exact hnot _ (slp_no (Or.inl hc131))
            refine r_iload C dX8_laySlips_134 rfl ?_
            refine r_bipush C dX8_laySlips_136 (by decide) ?_
            refine r_bipush C dX8_laySlips_138 (by decide) ?_
            refine r_cSi C dX8_laySlips_140 mlX8_66 kX8_in (n_in (v := tx (8 * v + w) k) (lo := 97) (hi := 104)) rfl rfl (Nat.le_of_ble_eq_true rfl) (fit hX (by decide)) ?_
            refine r_if_ne (tgt := 273) C dX8_laySlips_143 (by decide) (fun hc143 => ?_) (fun hc143 => ?_)
            · exact hnot _ (slp_no (Or.inr (zb_n0.mp hc143)))
            obtain ⟨s1, s2, s3, s4, s5⟩ := nd_sl (nd_pe (t4.resolve_left (by omega)) d1 hc109) hc131 (zb_0.mp hc143)
            have hS : isS mn tx v (40 * w + k) := ⟨by rw [hd1, hd2]; exact hc109, by rw [hd1, hd2]; exact s2⟩
            obtain ⟨e1, e2⟩ := sc_t (S := isS mn tx v) (i := 40 * w + k) (by omega) hS
            generalize hslv : sc (isS mn tx v) (40 * w + k) = sl1 at hp1' hsc d5 e1 e2 ⊢
            refine r_aload_n C dX8_laySlips_146 rfl ?_
            refine r_get C dX8_laySlips_147 flX8_49 hp1'.o rfl ?_
            refine r_aload_n C dX8_laySlips_150 rfl ?_
            refine r_get C dX8_laySlips_151 flX8_157 hp1'.o rfl ?_
            refine r_bipush C dX8_laySlips_154 (by decide) ?_
            refine r_iload C dX8_laySlips_156 rfl ?_
            refine r_imul C dX8_laySlips_158 (by omega) ?_
            refine r_iload C dX8_laySlips_159 rfl ?_
            refine r_iadd C dX8_laySlips_161 (by omega) ?_
            refine w_sA C dX8_laySlips_162 hp1' (by omega) (by omega) (fun h5 hp5 k5 => ?_)
            refine r_aload_n C dX8_laySlips_163 rfl ?_
            refine r_get C dX8_laySlips_164 flX8_7 hp5.o rfl ?_
            refine r_bipush C dX8_laySlips_167 (by decide) ?_
            refine r_iload C dX8_laySlips_169 rfl ?_
            refine r_imul C dX8_laySlips_171 (by omega) ?_
            refine r_iload C dX8_laySlips_172 rfl ?_
            refine r_iadd C dX8_laySlips_174 (by omega) ?_
            refine r_iload C dX8_laySlips_175 rfl ?_
            refine r_cSi C dX8_laySlips_177 mlX8_160 kX8_slipped (n_slipped (s := tx (8 * v + w) k) (by omega)) rfl rfl (Nat.le_of_ble_eq_true rfl) (fit hX (by decide)) ?_
            refine w_T C dX8_laySlips_180 hp5 (by omega) (by omega) (fun h6 hp6 k6 => ?_)
            refine r_aload_n C dX8_laySlips_181 rfl ?_
            refine r_get C dX8_laySlips_182 flX8_52 hp6.o rfl ?_
            refine r_aload_n C dX8_laySlips_185 rfl ?_
            refine r_get C dX8_laySlips_186 flX8_157 hp6.o rfl ?_
            refine r_iconst C dX8_laySlips_189 (by decide) ?_
            refine w_nO C dX8_laySlips_190 hp6 (by omega) (by omega) (fun h7 hp7 k7 => ?_)
            have k17 : Kp SM h h7 := k1'.tr ((k5.mono (fun t q => by omega)).tr ((k6.mono (fun t q => by omega)).tr (k7.mono (fun t q => by omega))))
            have pages : ∀ (jp : Nat) (p : Int) (h8 : Pic) (nO8 : Int → Int), 0 ≤ p → p ≤ pg → pg - p < jp → (∃ pd us gi op pA pS pH, MP h8 m A vs pg pd us gi op th 1 v sl1 (fu T (40 * (8 * v + w) + k) (slM (tx (8 * v + w) k))) S M tL dU rs pA pS pH bV4 be dO hB (fu sA1 sl1 (40 * (8 * v + w) + k)) nO8 mI mK) → Kp SM h h8 → nO8 sl1 = bt (ntc mn tx tl du v (40 * w + k)) p → (∀ s, ¬ s = sl1 → nO8 s = nO1 s) →
                Go X PQ 0 0 h8 194 [some (vR m), some (vI v), some (vI (bt (hold mn tx tl du v) pg)), some (vI w), some (vI (8 * v + w)), some (vI k), some (vI (tx (8 * v + w) k)), some (vI p)] [] := by
              intro jp
              induction jp with
              | zero => intro p h8 nO8 c1 c2 c3; exact absurd c3 (by omega)
              | succ jp ihp =>
                intro p h8 nO8 c1 c2 c3 c4 k8 c5 c6
                obtain ⟨pd8, us8, gi8, op8, pA8, pS8, pH8, hp8⟩ := id c4
                refine r_iload C dX8_laySlips_194 rfl ?_
                refine r_aload_n C dX8_laySlips_196 rfl ?_
                refine r_get C dX8_laySlips_197 flX8_70 hp8.o rfl ?_
                refine r_icmp_ge (tgt := 248) C dX8_laySlips_200 (by decide) (fun hc200 => ?_) (fun hc200 => ?_)
                · have hpp : p = pg := by omega
                  rw [hpp] at c5
                  refine r_aload_n C dX8_laySlips_248 rfl ?_
                  refine r_get C dX8_laySlips_249 flX8_7 hp8.o rfl ?_
                  refine r_bipush C dX8_laySlips_252 (by decide) ?_
                  refine r_iload C dX8_laySlips_254 rfl ?_
                  refine r_imul C dX8_laySlips_256 (by omega) ?_
                  refine r_iload C dX8_laySlips_257 rfl ?_
                  refine r_iadd C dX8_laySlips_259 (by omega) ?_
                  refine r_iload C dX8_laySlips_260 rfl ?_
                  refine w_T C dX8_laySlips_262 hp8 (by omega) (by omega) (fun h9 hp9 k9 => ?_)
                  rw [fu_back hTk.symm] at hp9
                  refine r_aload_n C dX8_laySlips_263 rfl ?_
                  refine r_dup C dX8_laySlips_264 ?_
                  refine r_get C dX8_laySlips_265 flX8_157 hp9.o rfl ?_
                  refine r_iconst C dX8_laySlips_268 (by decide) ?_
                  refine r_iadd C dX8_laySlips_269 (by omega) ?_
                  refine w_sl C dX8_laySlips_270 hp9 (fun h10 hp10 k10 => ?_)
                  refine r_iinc C dX8_laySlips_273 rfl (by decide) (by omega) ?_
                  refine r_goto (tgt := 100) C dX8_laySlips_276 (by decide) ?_
                  refine ihj (k + 1) h10 _ nO8 _ _ (by omega) (by omega) (by omega) (by rw [hsp, e1]; exact ⟨_, _, _, _, _, _, _, hp10⟩) (k8.tr ((k9.mono (fun t q => by omega)).tr (k10.mono (fun t q => by omega)))) ?_
                  rw [hsp, e1, e2]
                  intro s s0 s1'
                  by_cases hs : s = sl1
                  · rw [hs, fu_s, fu_s]
                    exact ⟨by omega, c5⟩
                  · rw [fu_n hs, fu_n hs, c6 s hs]
                    exact d5 s s0 (by omega)
                have hnext : ∀ (h9 : Pic) (z : Int), (∃ pd us gi op pA pS pH, MP h9 m A vs pg pd us gi op th 1 v sl1 (fu T (40 * (8 * v + w) + k) (slM (tx (8 * v + w) k))) S M tL dU rs pA pS pH bV4 be dO hB (fu sA1 sl1 (40 * (8 * v + w) + k)) nO8 mI mK) → Kp SM h h9 → bOr (bt (ntc mn tx tl du v (40 * w + k)) p) z = bt (ntc mn tx tl du v (40 * w + k)) (p + 1) → Go X PQ 0 0 h9 240 [some (vR m), some (vI v), some (vI (bt (hold mn tx tl du v) pg)), some (vI w), some (vI (8 * v + w)), some (vI k), some (vI (tx (8 * v + w) k)), some (vI p)] [vI z, vI (bt (ntc mn tx tl du v (40 * w + k)) p), vI sl1, vR (A 24)] := by
                  intro h9 z q1 q2 q3
                  obtain ⟨pd9, us9, gi9, op9, pA9, pS9, pH9, hp9⟩ := q1
                  refine r_ior C dX8_laySlips_240 ?_
                  rw [q3]
                  refine w_nO C dX8_laySlips_241 hp9 (by omega) (by omega) (fun h10 hp10 k10 => ?_)
                  refine r_iinc C dX8_laySlips_242 rfl (by decide) (by omega) ?_
                  refine r_goto (tgt := 194) C dX8_laySlips_245 (by decide) ?_
                  exact ihp (p + 1) h10 _ (by omega) (by omega) (by omega) ⟨_, _, _, _, _, _, _, hp10⟩ (q2.tr (k10.mono (fun t q => by omega))) fu_s (fun s hs => by rw [fu_n hs]; exact c6 s hs)
                refine r_aload_n C dX8_laySlips_203 rfl ?_
                refine r_get C dX8_laySlips_204 flX8_52 hp8.o rfl ?_
                refine r_aload_n C dX8_laySlips_207 rfl ?_
                refine r_get C dX8_laySlips_208 flX8_157 hp8.o rfl ?_
                refine r_dup2 C dX8_laySlips_211 ?_
                refine r_iald C dX8_laySlips_212 hp8.anO (by omega) (by omega) ?_
                rw [c5]
                have hbit : bAnd (bShr (bt (hold mn tx tl du v) pg) p) 1 = 1 ↔ hold mn tx tl du v p := by
                  rw [bit_1 c1 (by omega), tb_bt (by omega) (by omega), Int.toNat_of_nonneg c1]
                  exact ⟨fun q => q.2, fun q => ⟨hc200, q⟩⟩
                refine r_iload_n C dX8_laySlips_213 rfl ?_
                refine r_iload C dX8_laySlips_214 rfl ?_
                refine r_ishr C dX8_laySlips_216 ?_
                refine r_iconst C dX8_laySlips_217 (by decide) ?_
                refine r_iand C dX8_laySlips_218 ?_
                refine r_iconst C dX8_laySlips_219 (by decide) ?_
                refine r_icmp_ne (tgt := 239) C dX8_laySlips_220 (by decide) (fun hc220 => ?_) (fun hc220 => ?_)
                · refine r_iconst C dX8_laySlips_239 (by decide) ?_
                  exact hnext h8 0 c4 k8 (by rw [bOr_0 (bt_rg _ _), bt_f c1 (fun q => hc220 (hbit.mpr q.1))])
                have hh := hbit.mp hc220
                refine r_aload_n C dX8_laySlips_223 rfl ?_
                refine r_iload C dX8_laySlips_224 rfl ?_
                refine r_cVx C dX8_laySlips_226 mlX8_129 kX8_holds (n_holdsS (p := p) (v := v) (w := w) (k := k) hba hsz hp8 c1 hc200 hh.1 hv0 hv1 hb4 g1 (by omega) d1 hc109 s1 s3) hp8.o rfl rfl rfl (Nat.le_of_ble_eq_true rfl) (fit hX (by decide)) ?_
                rintro z h9 ⟨hz, g9, k9⟩
                rw [hz]
                refine r_if_ne (tgt := 239) C dX8_laySlips_229 (by decide) (fun hc229 => ?_) (fun hc229 => ?_)
                · refine r_iconst C dX8_laySlips_239 (by decide) ?_
                  exact hnext h9 0 g9 (k8.tr k9) (by rw [bOr_0 (bt_rg _ _), bt_f c1 (fun q => q.2 (zb_n0.mp hc229))])
                · refine r_iconst C dX8_laySlips_232 (by decide) ?_
                  refine r_iload C dX8_laySlips_233 rfl ?_
                  refine r_ishl C dX8_laySlips_235 ?_
                  refine r_goto (tgt := 240) C dX8_laySlips_236 (by decide) ?_
                  exact hnext h9 _ g9 (k8.tr k9) (by rw [bt_t c1 ⟨hh, zb_0.mp hc229⟩])
            refine r_iconst C dX8_laySlips_191 (by decide) ?_
            refine r_istore C dX8_laySlips_192 (by decide) ?_
            exact pages 13 0 h7 _ (by omega) (by omega) (by omega) ⟨_, _, _, _, _, _, _, hp7⟩ k17 (fu_s.trans (by unfold bt; rfl)) (fun s hs => fu_n hs)
        refine r_bipush C dX8_laySlips_89 (by decide) ?_
        refine r_iload_n C dX8_laySlips_91 rfl ?_
        refine r_imul C dX8_laySlips_92 (by omega) ?_
        refine r_iload_n C dX8_laySlips_93 rfl ?_
        refine r_iadd C dX8_laySlips_94 (by omega) ?_
        refine r_istore C dX8_laySlips_95 (by decide) ?_
        refine r_iconst C dX8_laySlips_97 (by decide) ?_
        refine r_istore C dX8_laySlips_98 (by decide) ?_
        exact inner 41 0 h' sA' nO' _ _ (by omega) (by omega) (by omega) (by rw [Int.add_zero]; exact g4) k' (by rw [Int.add_zero]; exact g5)
    have right : ∀ (j : Nat) (i : Int) (h' : Pic), 0 ≤ i → i ≤ pg → pg - i < j → (∃ pd us gi op pA pS pH, MP h' m A vs pg pd us gi op th 1 v 0 T S M tL dU rs pA pS pH bV4 be dO hB sA nO mI mK) → Kp SM h h' → Go X PQ 0 0 h' 40 [some (vR m), some (vI v), some (vI (bt (hold mn tx tl du v) i)), some (vI i), none, none, none, none] [] := by
      intro j
      induction j with
      | zero => intro i h' g1 g2 g3; exact absurd g3 (by omega)
      | succ j ih =>
        intro i h' g1 g2 g3 g4 k'
        obtain ⟨pd', us', gi', op', pA', pS', pH', hp'⟩ := id g4
        refine r_iload_n C dX8_laySlips_40 rfl ?_
        refine r_aload_n C dX8_laySlips_41 rfl ?_
        refine r_get C dX8_laySlips_42 flX8_70 hp'.o rfl ?_
        refine r_icmp_ge (tgt := 81) C dX8_laySlips_45 (by decide) (fun hc45 => ?_) (fun hc45 => ?_)
        · have hi : i = pg := by omega
          rw [hi]
          refine r_iconst C dX8_laySlips_81 (by decide) ?_
          refine r_istore_n C dX8_laySlips_82 (by decide) ?_
          exact words 9 0 h' sA nO _ _ _ _ (by omega) (by omega) (by omega) ⟨_, _, _, _, _, _, _, hp'⟩ k' (fun s s0 s1 => absurd (show s < 0 from s1) (by omega))
        obtain ⟨b1, b2⟩ := hba.p (p := i) g1 hc45
        refine r_iload_n C dX8_laySlips_48 rfl ?_
        refine r_aload_n C dX8_laySlips_49 rfl ?_
        refine r_get C dX8_laySlips_50 flX8_19 hp'.o rfl ?_
        refine r_iload_n C dX8_laySlips_53 rfl ?_
        refine r_iald C dX8_laySlips_54 hp'.atL (by omega) (by omega) ?_
        rw [b1]
        have hz := ih (i + 1)
        refine r_if_ge (tgt := 72) C dX8_laySlips_55 (by decide) (fun hc55 => ?_) (fun hc55 => ?_)
        · refine r_iconst C dX8_laySlips_72 (by decide) ?_
          refine r_ior C dX8_laySlips_73 ?_
          rw [bOr_0 (bt_rg _ _), ← bt_f (P := hold mn tx tl du v) g1 (fun z => by have := z.1; omega)]
          refine r_istore_n C dX8_laySlips_74 (by decide) ?_
          refine r_iinc C dX8_laySlips_75 rfl (by decide) (by omega) ?_
          refine r_goto (tgt := 40) C dX8_laySlips_78 (by decide) ?_
          exact hz h' (by omega) (by omega) (by omega) g4 k'
        have hex : tl i = -6 := by omega
        refine r_aload_n C dX8_laySlips_58 rfl ?_
        refine r_iload_n C dX8_laySlips_59 rfl ?_
        refine r_cVx C dX8_laySlips_60 mlX8_129 kX8_holds (n_holdsV (p := i) (v := v) hp' hba hsz g1 hc45 hex hv0 hv1 hb4) hp'.o rfl rfl rfl (Nat.le_of_ble_eq_true rfl) (fit hX (by decide)) ?_
        rintro z h5 ⟨hz5, g5, k5⟩
        rw [hz5]
        refine r_if_eq (tgt := 72) C dX8_laySlips_63 (by decide) (fun hc63 => ?_) (fun hc63 => ?_)
        · refine r_iconst C dX8_laySlips_72 (by decide) ?_
          refine r_ior C dX8_laySlips_73 ?_
          rw [bOr_0 (bt_rg _ _), ← bt_f (P := hold mn tx tl du v) g1 (zb_0.mp hc63)]
          refine r_istore_n C dX8_laySlips_74 (by decide) ?_
          refine r_iinc C dX8_laySlips_75 rfl (by decide) (by omega) ?_
          refine r_goto (tgt := 40) C dX8_laySlips_78 (by decide) ?_
          exact hz h5 (by omega) (by omega) (by omega) g5 (k'.tr k5)
        · refine r_iconst C dX8_laySlips_66 (by decide) ?_
          refine r_iload_n C dX8_laySlips_67 rfl ?_
          refine r_ishl C dX8_laySlips_68 ?_
          refine r_goto (tgt := 73) C dX8_laySlips_69 (by decide) ?_
          refine r_ior C dX8_laySlips_73 ?_
          rw [← bt_t (P := hold mn tx tl du v) g1 (zb_n0.mp hc63)]
          refine r_istore_n C dX8_laySlips_74 (by decide) ?_
          refine r_iinc C dX8_laySlips_75 rfl (by decide) (by omega) ?_
          refine r_goto (tgt := 40) C dX8_laySlips_78 (by decide) ?_
          exact hz h5 (by omega) (by omega) (by omega) g5 (k'.tr k5)
    refine r_iconst C dX8_laySlips_38 (by decide) ?_
    refine r_istore_n C dX8_laySlips_39 (by decide) ?_
    exact right 13 0 h4 (by omega) (by omega) (by omega) ⟨_, _, _, _, _, _, _, hp4⟩ k14
  refine r_aload_n C dX8_laySlips_0 rfl ?_
  refine r_get C dX8_laySlips_1 flX8_93 hp.o rfl ?_
  refine r_if_eq (tgt := 16) C dX8_laySlips_4 (by decide) (fun hc4 => ?_) (fun hc4 => ?_)
  · exact hgo
  refine r_aload_n C dX8_laySlips_7 rfl ?_
  refine r_get C dX8_laySlips_8 flX8_154 hp.o rfl ?_
  refine r_iload_n C dX8_laySlips_11 rfl ?_
  refine r_icmp_ne (tgt := 16) C dX8_laySlips_12 (by decide) (fun hc12 => ?_) (fun hc12 => ?_)
  · exact hgo
  rcases hld with q | ⟨q1, q2, q3, q4, q5⟩
  · exact absurd q hc4
  · subst hc12 q1 q4
    rw [hPQ]
    exact r_vret C dX8_laySlips_15 (by decide) (by decide) ⟨rfl, _, _, _, _, _, _, _, _, _, _, hp, q5, Kp.rf⟩
end
