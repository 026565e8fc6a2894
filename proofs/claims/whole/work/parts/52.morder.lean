/-! the model: order -/
section
variable {h : Pic} {m : Nat} {A : Nat → Nat} {vs pg pd us gi op th la lv sl : Int} {T S M tL dU rs pA pS pH bV be dO hB sA nO mI mK : Int → Int}
variable {mn : Int → Int} {tx : Int → Int → Int} {tl du : Int → Int}
theorem BA.okT (hba : BA vs pg mn tx tl du M T tL dU) : okT tl pg := fun p p0 p1 => by
  rcases (hba.p p0 p1).2 with q | q
  · exact Or.inl q.1
  · exact Or.inr ⟨q.1, q.2.1⟩
theorem n_toldBy {s : Int} (hp : MP h m A vs pg pd us gi op th la lv sl T S M tL dU rs pA pS pH bV be dO hB sA nO mI mK) (hba : BA vs pg mn tx tl du M T tL dU) : Meets yX8_toldBy cX8_toldBy 4 (some .int) 1 0 0 [vR m, vI s] h (pI (tB tl s pg) h) := by
  obtain ⟨⟨hv1, hv6, hp0, hp12⟩, -⟩ := id hba
  refine Meets.of (plainFor_of_name (by decide)) (Nat.le_of_ble_eq_true rfl) (fun X C hX hN hA => ?_)
  have loop : ∀ (j : Nat) (i : Int), 0 ≤ i → i ≤ pg → pg - i < j → Go X (Qm X (pI (tB tl s pg) h) 0 0) 0 0 h 4 [some (vR m), some (vI s), some (vI (tB tl s i)), some (vI i)] [] := by
    intro j
    induction j with
    | zero => intro i g1 g2 g3; exact absurd g3 (by omega)
    | succ j ih =>
      intro i g1 g2 g3
      refine r_iload_n C dX8_toldBy_4 rfl ?_
      refine r_aload_n C dX8_toldBy_5 rfl ?_
      refine r_get C dX8_toldBy_6 flX8_70 hp.o rfl ?_
      refine r_icmp_ge (tgt := 51) C dX8_toldBy_9 (by decide) (fun hc9 => ?_) (fun hc9 => ?_)
      · have hi : i = pg := by omega
        refine r_iload_n C dX8_toldBy_51 rfl ?_
        exact r_iret C dX8_toldBy_52 (by decide) (by decide) ⟨by rw [hi], rfl⟩
      obtain ⟨b1, b2⟩ := hba.p (p := i) g1 hc9
      have hz := ih (i + 1) (by omega) (by omega) (by omega)
      rw [tB_s g1] at hz
      have hno : ¬ (bAnd (bShr s i) 1 = 1 ∧ 0 ≤ tl i) → Go X (Qm X (pI (tB tl s pg) h) 0 0) 0 0 h 42 [some (vR m), some (vI s), some (vI (tB tl s i)), some (vI i)] [vI (tB tl s i)] := by
        intro q
        rw [if_neg q] at hz
        refine r_iconst C dX8_toldBy_42 (by decide) ?_
        refine r_ior C dX8_toldBy_43 ?_
        rw [bOr_0 (show Rg (tB tl s i) from tBN_rg _ _ _)]
        refine r_istore_n C dX8_toldBy_44 (by decide) ?_
        refine r_iinc C dX8_toldBy_45 rfl (by decide) (by omega) ?_
        refine r_goto (tgt := 4) C dX8_toldBy_48 (by decide) ?_
        exact hz
      refine r_iload_n C dX8_toldBy_12 rfl ?_
      refine r_iload_n C dX8_toldBy_13 rfl ?_
      refine r_iload_n C dX8_toldBy_14 rfl ?_
      refine r_ishr C dX8_toldBy_15 ?_
      refine r_iconst C dX8_toldBy_16 (by decide) ?_
      refine r_iand C dX8_toldBy_17 ?_
      refine r_iconst C dX8_toldBy_18 (by decide) ?_
      refine r_icmp_ne (tgt := 42) C dX8_toldBy_19 (by decide) (fun hc19 => ?_) (fun hc19 => ?_)
      · exact hno (fun q => hc19 q.1)
      refine r_aload_n C dX8_toldBy_22 rfl ?_
      refine r_get C dX8_toldBy_23 flX8_19 hp.o rfl ?_
      refine r_iload_n C dX8_toldBy_26 rfl ?_
      refine r_iald C dX8_toldBy_27 hp.atL (by omega) (by omega) ?_
      rw [b1]
      refine r_if_lt (tgt := 42) C dX8_toldBy_28 (by decide) (fun hc28 => ?_) (fun hc28 => ?_)
      · exact hno (fun q => by have := q.2; omega)
      refine r_iconst C dX8_toldBy_31 (by decide) ?_
      refine r_aload_n C dX8_toldBy_32 rfl ?_
      refine r_get C dX8_toldBy_33 flX8_19 hp.o rfl ?_
      refine r_iload_n C dX8_toldBy_36 rfl ?_
      refine r_iald C dX8_toldBy_37 hp.atL (by omega) (by omega) ?_
      rw [b1]
      rw [if_pos ⟨hc19, hc28⟩] at hz
      refine r_ishl C dX8_toldBy_38 ?_
      refine r_goto (tgt := 43) C dX8_toldBy_39 (by decide) ?_
      refine r_ior C dX8_toldBy_43 ?_
      refine r_istore_n C dX8_toldBy_44 (by decide) ?_
      refine r_iinc C dX8_toldBy_45 rfl (by decide) (by omega) ?_
      refine r_goto (tgt := 4) C dX8_toldBy_48 (by decide) ?_
      exact hz
  refine r_iconst C dX8_toldBy_0 (by decide) ?_
  refine r_istore_n C dX8_toldBy_1 (by decide) ?_
  refine r_iconst C dX8_toldBy_2 (by decide) ?_
  refine r_istore_n C dX8_toldBy_3 (by decide) ?_
  exact loop 13 0 (by omega) (by omega) (by omega)
theorem n_namedP {p : Int} (hp : MP h m A vs pg pd us gi op th la lv sl T S M tL dU rs pA pS pH bV be dO hB sA nO mI mK) (hba : BA vs pg mn tx tl du M T tL dU) (p0 : 0 ≤ p) (p1 : p < pg) : Meets yX8_namedIn cX8_namedIn 5 (some .int) 1 0 0 [vR m, vI p] h (pI (nmP mn tx p) h) := by
  obtain ⟨⟨hv1, hv6, hp0, hp12⟩, -⟩ := id hba
  obtain ⟨a1, a2, a3, -, a5⟩ := hba.t (t := 48 + p) (by omega) (by omega)
  have e : nmd (M (48 + p)) (sx T (48 + p)) = nmP mn tx p := by rw [a1]; exact nmd_congr a5
  rw [← e]
  exact n_namedIn hp p0 (by omega) (by omega) (by omega)
theorem n_layOrders (hp : MP h m A vs pg pd us gi op th la lv sl T S M tL dU rs pA pS pH bV be dO hB sA nO mI mK) (hba : BA vs pg mn tx tl du M T tL dU) : Meets yX8_layOrders cX8_layOrders 7 none 2 0 0 [vR m] h (pV (fun h' => ∃ be', MP h' m A vs pg pd us gi op th la lv sl T S M tL dU rs pA pS pH bV be' dO hB sA nO mI mK ∧ Kp SM h h' ∧ ∀ s, 0 ≤ s → s < 2 ^ pg.toNat → be' s = bs mn tx tl pg s)) := by
  obtain ⟨⟨hv1, hv6, hp0, hp12⟩, -⟩ := id hba
  have hok := hba.okT
  have hpl := pow_le (j := pg.toNat) (by omega)
  have hsh := shl_pg hp0 hp12
  have hfull := bs_full (mn := mn) (tx := tx) (tl := tl) hp0 hp12
  have hful := full_or (p := pg.toNat) (s := 2 ^ pg.toNat - 1) (by omega)
  have hlt : ∀ s f, 0 ≤ s → s < 2 ^ pg.toNat → 0 ≤ f → f < pg → tb s f.toNat = false → s < bOr s (bShl 1 f) ∧ bOr s (bShl 1 f) < 2 ^ pg.toNat := fun s f s0 s1 f0 f1 hf => or_rng (by omega) s0 s1 f0 (by omega) hf
  have hwit : ∀ s, 0 ≤ s → s < 2 ^ pg.toNat - 1 → ∃ q : Int, 0 ≤ q ∧ q < pg ∧ tb s q.toNat = false ∧ nmC mn tx (tB tl s pg) q = nmC mn tx (td tl pg) q := fun s s0 s1 => bs_wit hba.IB hp0 hp12 s0 (by omega) (by omega)
  generalize (2 : Int) ^ pg.toNat = W at hpl hsh hfull hful hlt hwit ⊢
  refine Meets.of (plainFor_of_name (by decide)) (Nat.le_of_ble_eq_true rfl) (fun X C hX hN hA => ?_)
  obtain ⟨PQ, hPQ⟩ : ∃ PQ : State → Prop, PQ = Qm X (pV (fun h' => ∃ be', MP h' m A vs pg pd us gi op th la lv sl T S M tL dU rs pA pS pH bV be' dO hB sA nO mI mK ∧ Kp SM h h' ∧ ∀ s, 0 ≤ s → s < W → be' s = bs mn tx tl pg s)) 0 0 := ⟨_, rfl⟩
  rw [← hPQ]
  have loop : ∀ (j : Nat) (s : Int) (h' : Pic) (be' : Int → Int) (o3 o4 o5 o6 : Option Va), -1 ≤ s → s < W - 1 → s + 1 < j → MP h' m A vs pg pd us gi op th la lv sl T S M tL dU rs pA pS pH bV be' dO hB sA nO mI mK → Kp SM h h' → (∀ q, s < q → q < W → be' q = bs mn tx tl pg q) → Go X PQ 0 0 h' 20 [some (vR m), some (vI (W - 1)), some (vI s), o3, o4, o5, o6] [] := by
    intro j
    induction j with
    | zero => intro s h' be' o3 o4 o5 o6 g1 g2 g3; exact absurd g3 (by omega)
    | succ j ih =>
      intro s h' be' o3 o4 o5 o6 g1 g2 g3 hp' k' g5
      refine r_iload_n C dX8_layOrders_20 rfl ?_
      refine r_if_lt (tgt := 123) C dX8_layOrders_21 (by decide) (fun hc21 => ?_) (fun hc21 => ?_)
      · rw [hPQ]
        exact r_vret C dX8_layOrders_123 (by decide) (by decide) ⟨rfl, be', hp', k', fun q q0 q1 => g5 q (by omega) q1⟩
      obtain ⟨q', w0, w1, w2, w3⟩ := hwit s hc21 g2
      have hbr := bs_rng (mn := mn) (tx := tx) (tl := tl) hp0 hp12 s
      have hle : ∀ p, nmC mn tx (td tl pg) p ≤ nmC mn tx (tB tl s pg) p := fun p => nmC_le (fun i hi q => tB_sub hp0 hp12 hok hi q)
      refine r_aload_n C dX8_layOrders_24 rfl ?_
      refine r_iload_n C dX8_layOrders_25 rfl ?_
      refine r_cVi C dX8_layOrders_26 mlX8_142 kX8_toldBy (n_toldBy (s := s) hp' hba) hp'.o rfl rfl rfl (Nat.le_of_ble_eq_true rfl) (fit hX (by decide)) ?_
      have inner : ∀ (jj : Nat) (p L : Int) (o6 : Option Va), 0 ≤ p → p ≤ pg → pg - p < jj → ((L = -6 ∧ ∀ q, 0 ≤ q → q < p → tb s q.toNat = true) ∨ (bs mn tx tl pg s ≤ L ∧ ∀ q, 0 ≤ q → q < p → tb s q.toNat = false → L ≤ bs mn tx tl pg s - nmC mn tx (td tl pg) q + nmC mn tx (tB tl s pg) q)) →
          Go X PQ 0 0 h' 37 [some (vR m), some (vI (W - 1)), some (vI s), some (vI (tB tl s pg)), some (vI L), some (vI p), o6] [] := by
        intro jj
        induction jj with
        | zero => intro p L o6 d1 d2 d3; exact absurd d3 (by omega)
        | succ jj ihj =>
          intro p L o6 d1 d2 d3 d4
          refine r_iload C dX8_layOrders_37 rfl ?_
          refine r_aload_n C dX8_layOrders_39 rfl ?_
          refine r_get C dX8_layOrders_40 flX8_70 hp'.o rfl ?_
          refine r_icmp_ge (tgt := 109) C dX8_layOrders_43 (by decide) (fun hc43 => ?_) (fun hc43 => ?_)
          · have hL : L = bs mn tx tl pg s := by
              rcases d4 with ⟨z1, z2⟩ | ⟨z1, z2⟩
              · have := z2 q' w0 (by omega)
                rw [w2] at this
                exact absurd this (by decide)
              · have := z2 q' w0 (by omega) w2
                omega
            rw [hL]
            refine r_aload_n C dX8_layOrders_109 rfl ?_
            refine r_get C dX8_layOrders_110 flX8_40 hp'.o rfl ?_
            refine r_iload_n C dX8_layOrders_113 rfl ?_
            refine r_iload C dX8_layOrders_114 rfl ?_
            refine w_be C dX8_layOrders_116 hp' (by omega) (by omega) (fun h2 hp2 k2 => ?_)
            refine r_iinc C dX8_layOrders_117 rfl (by decide) (by omega) ?_
            refine r_goto (tgt := 20) C dX8_layOrders_120 (by decide) ?_
            refine ih (s - 1) h2 _ _ _ _ _ (by omega) (by omega) (by omega) hp2 (k'.tr (k2.mono (fun t q => by omega))) (fun q q0 q1 => ?_)
            by_cases e : q = s
            · rw [e, fu_s]
            · rw [fu_n e]; exact g5 q (by omega) q1
          refine r_iload_n C dX8_layOrders_46 rfl ?_
          refine r_iload C dX8_layOrders_47 rfl ?_
          refine r_ishr C dX8_layOrders_49 ?_
          refine r_iconst C dX8_layOrders_50 (by decide) ?_
          refine r_iand C dX8_layOrders_51 ?_
          refine r_if_ne (tgt := 103) C dX8_layOrders_52 (by decide) (fun hc52 => ?_) (fun hc52 => ?_)
          · have hb1 : tb s p.toNat = true := (bit_1 d1 (by omega)).mp ((bit_01 d1 (by omega)).resolve_left hc52)
            refine r_iinc C dX8_layOrders_103 rfl (by decide) (by omega) ?_
            refine r_goto (tgt := 37) C dX8_layOrders_106 (by decide) ?_
            refine ihj (p + 1) L _ (by omega) (by omega) (by omega) (d4.imp (fun z => ⟨z.1, fun q q0 q1 => ?_⟩) (fun z => ⟨z.1, fun q q0 q1 q2 => ?_⟩))
            · by_cases e : q = p
              · rw [e]; exact hb1
              · exact z.2 q q0 (by omega)
            · by_cases e : q = p
              · rw [e, hb1] at q2; exact absurd q2 (by decide)
              · exact z.2 q q0 (by omega) q2
          have hb0 : tb s p.toNat = false := by
            cases q : tb s p.toNat with
            | false => rfl
            | true => rw [(bit_1 d1 (by omega)).mpr q] at hc52; exact absurd hc52 (by decide)
          obtain ⟨l1, l2⟩ := hlt s p hc21 (by omega) d1 hc43 hb0
          have hbo := bs_or (mn := mn) (tx := tx) (tl := tl) (s := s) hp12 d1 hc43 hb0
          have hbr2 := bs_rng (mn := mn) (tx := tx) (tl := tl) hp0 hp12 (bOr s (bShl 1 p))
          have hcr := nmC_rng mn tx (tB tl s pg) p
          have hle' := hle p
          refine r_aload_n C dX8_layOrders_55 rfl ?_
          refine r_get C dX8_layOrders_56 flX8_40 hp'.o rfl ?_
          refine r_iload_n C dX8_layOrders_59 rfl ?_
          refine r_iconst C dX8_layOrders_60 (by decide) ?_
          refine r_iload C dX8_layOrders_61 rfl ?_
          refine r_ishl C dX8_layOrders_63 ?_
          refine r_ior C dX8_layOrders_64 ?_
          refine r_iald C dX8_layOrders_65 hp'.abe (by omega) (by omega) ?_
          rw [g5 _ l1 l2, hbo]
          rw [hbo] at hbr2
          refine r_aload_n C dX8_layOrders_66 rfl ?_
          refine r_iload C dX8_layOrders_67 rfl ?_
          refine r_cVi C dX8_layOrders_69 mlX8_126 kX8_namedIn (n_namedP (p := p) hp' hba d1 hc43) hp'.o rfl rfl rfl (Nat.le_of_ble_eq_true rfl) (fit hX (by decide)) ?_
          refine r_iload_n C dX8_layOrders_72 rfl ?_
          refine r_iconst C dX8_layOrders_73 (by decide) ?_
          refine r_ixor C dX8_layOrders_74 ?_
          refine r_iand C dX8_layOrders_75 ?_
          refine r_cSi C dX8_layOrders_76 mlX8_139 kX8_bits (n_bits (s := bAnd (nmP mn tx p) (bXor (tB tl s pg) (-1)))) rfl rfl (Nat.le_of_ble_eq_true rfl) (fit hX (by decide)) ?_
          refine r_iadd C dX8_layOrders_79 (show Rg (bs mn tx tl pg s - nmC mn tx (td tl pg) p + nmC mn tx (tB tl s pg) p) by omega) ?_
          have hown : cnt (bAnd (nmP mn tx p) (bXor (tB tl s pg) (-1))) = nmC mn tx (tB tl s pg) p := rfl
          rw [hown]
          have hset : ∀ L', (L' = bs mn tx tl pg s - nmC mn tx (td tl pg) p + nmC mn tx (tB tl s pg) p ∧ (L < 0 ∨ L' < L)) ∨ (L' = L ∧ 0 ≤ L ∧ L ≤ bs mn tx tl pg s - nmC mn tx (td tl pg) p + nmC mn tx (tB tl s pg) p) → Go X PQ 0 0 h' 101 [some (vR m), some (vI (W - 1)), some (vI s), some (vI (tB tl s pg)), some (vI L), some (vI p), some (vI (bs mn tx tl pg s - nmC mn tx (td tl pg) p + nmC mn tx (tB tl s pg) p))] [vI L'] := by
            intro L' hL'
            refine r_istore C dX8_layOrders_101 (by decide) ?_
            refine r_iinc C dX8_layOrders_103 rfl (by decide) (by omega) ?_
            refine r_goto (tgt := 37) C dX8_layOrders_106 (by decide) ?_
            refine ihj (p + 1) L' _ (by omega) (by omega) (by omega) (Or.inr ⟨?_, fun q q0 q1 q2 => ?_⟩)
            · rcases d4 with z | z <;> omega
            · by_cases e : q = p
              · rw [e]; omega
              · rcases d4 with z | z
                · have := z.2 q q0 (by omega)
                  rw [q2] at this
                  exact absurd this (by decide)
                · have := z.2 q q0 (by omega) q2
                  omega
          refine r_istore C dX8_layOrders_80 (by decide) ?_
          refine r_iload C dX8_layOrders_82 rfl ?_
          refine r_if_lt (tgt := 94) C dX8_layOrders_84 (by decide) (fun hc84 => ?_) (fun hc84 => ?_)
          · refine r_iload C dX8_layOrders_94 rfl ?_
            refine r_goto (tgt := 101) C dX8_layOrders_96 (by decide) ?_
            exact hset _ (Or.inl ⟨rfl, Or.inl hc84⟩)
          refine r_iload C dX8_layOrders_87 rfl ?_
          refine r_iload C dX8_layOrders_89 rfl ?_
          refine r_icmp_ge (tgt := 99) C dX8_layOrders_91 (by decide) (fun hc91 => ?_) (fun hc91 => ?_)
          · refine r_iload C dX8_layOrders_99 rfl ?_
            exact hset _ (Or.inr ⟨rfl, hc84, hc91⟩)
          · refine r_iload C dX8_layOrders_94 rfl ?_
            refine r_goto (tgt := 101) C dX8_layOrders_96 (by decide) ?_
            exact hset _ (Or.inl ⟨rfl, Or.inr hc91⟩)
      refine r_istore_n C dX8_layOrders_29 (by decide) ?_
      refine r_bipush C dX8_layOrders_30 (by decide) ?_
      refine r_istore C dX8_layOrders_32 (by decide) ?_
      refine r_iconst C dX8_layOrders_34 (by decide) ?_
      refine r_istore C dX8_layOrders_35 (by decide) ?_
      exact inner 13 0 (-6) _ (by omega) (by omega) (by omega) (Or.inl ⟨rfl, fun q q0 q1 => by omega⟩)
  refine r_iconst C dX8_layOrders_0 (by decide) ?_
  refine r_aload_n C dX8_layOrders_1 rfl ?_
  refine r_get C dX8_layOrders_2 flX8_70 hp.o rfl ?_
  refine r_ishl C dX8_layOrders_5 ?_
  rw [hsh]
  refine r_iconst C dX8_layOrders_6 (by decide) ?_
  refine r_isub C dX8_layOrders_7 (by omega) ?_
  refine r_istore_n C dX8_layOrders_8 (by decide) ?_
  refine r_aload_n C dX8_layOrders_9 rfl ?_
  refine r_get C dX8_layOrders_10 flX8_40 hp.o rfl ?_
  refine r_iload_n C dX8_layOrders_13 rfl ?_
  refine r_iconst C dX8_layOrders_14 (by decide) ?_
  refine w_be C dX8_layOrders_15 hp (by omega) (by omega) (fun h1 hp1 k1 => ?_)
  refine r_iload_n C dX8_layOrders_16 rfl ?_
  refine r_iconst C dX8_layOrders_17 (by decide) ?_
  refine r_isub C dX8_layOrders_18 (by omega) ?_
  refine r_istore_n C dX8_layOrders_19 (by decide) ?_
  refine loop (W.toNat + 1) (W - 1 - 1) h1 _ none none none none (by omega) (by omega) (by omega) hp1 (k1.mono (fun t q => by omega)) (fun q q0 q1 => ?_)
  rw [show q = W - 1 by omega, fu_s, hfull]
end
theorem ff_ok {nm : Int → Int} {pg pl un : Int} : ∀ (j : Nat) (p q : Int), pg - p < j → p ≤ q → q < pg → bAnd (bShr pl q) 1 = 0 → bAnd (nm q) un = 0 → p ≤ ff nm pg pl un j p ∧ ff nm pg pl un j p < pg ∧ bAnd (bShr pl (ff nm pg pl un j p)) 1 = 0 := by
  intro j
  induction j with
  | zero => intro p q h1; intros; omega
  | succ j ih =>
    intro p q h1 h2 h3 h4 h5
    unfold ff
    rw [if_neg (by omega)]
    by_cases hc : bAnd (bShr pl p) 1 = 0 ∧ bAnd (nm p) un = 0
    · rw [if_pos hc]; exact ⟨by omega, by omega, hc.1⟩
    · rw [if_neg hc]
      have hpq : ¬ p = q := fun e => hc (by rw [e]; exact ⟨h4, h5⟩)
      obtain ⟨a1, a2, a3⟩ := ih (p + 1) q (by omega) (by omega) h3 h4 h5
      exact ⟨by omega, a2, a3⟩
section
variable {h : Pic} {m : Nat} {pn : Int} {pf : Int → Int} {vs pg : Int} {mn : Int → Int} {tx : Int → Int → Int} {tl du kp : Int → Int} {im : Int → Bs}
theorem N_order {w : Int} (hm : RM h m pn pf vs pg mn tx tl du kp im) : Meets yX8_order cX8_order 8 (some .int) 10 0 0 [vR m, vI w] h (pX (fun z h' => z = aOrder pg mn tx tl w ∧ RM h' m pn pf vs pg mn tx tl du kp im ∧ Kp SM h h')) := by
  obtain ⟨A, pd, us, gi, op, th, la, lv, sl, T, S, M, tL, dU, rs, pA, pS, pH, bV, be, dO, hB, sA, nO, mI, mK, hp, hpt, hba, hsz, hld, him⟩ := id hm
  obtain ⟨⟨hv1, hv6, hp0, hp12⟩, -⟩ := id hba
  have hok := hba.okT
  refine Meets.of (plainFor_of_name (by decide)) (Nat.le_of_ble_eq_true rfl) (fun X C hX hN hA => ?_)
  refine r_iload_n C dX8_order_0 rfl ?_
  refine r_iconst C dX8_order_1 (by decide) ?_
  refine r_icmp_ne (tgt := 48) C dX8_order_2 (by decide) (fun hc2 => ?_) (fun hc2 => ?_)
  rotate_left
  · have hv : aOrder pg mn tx tl w = sm (fun p => nmC mn tx (td tl p) p) pg := if_pos hc2
    rw [hv]
    have loop : ∀ (j : Nat) (i : Int), 0 ≤ i → i ≤ pg → pg - i < j → Go X (Qm X (pX (fun z h' => z = sm (fun p => nmC mn tx (td tl p) p) pg ∧ RM h' m pn pf vs pg mn tx tl du kp im ∧ Kp SM h h')) 0 0) 0 0 h 9 [some (vR m), some (vI w), some (vI (sm (fun p => nmC mn tx (td tl p) p) i)), some (vI i), none, none, none, none] [] := by
      intro j
      induction j with
      | zero => intro i g1 g2 g3; exact absurd g3 (by omega)
      | succ j ih =>
        intro i g1 g2 g3
        have hr1 := sm_rng (g := fun p => nmC mn tx (td tl p) p) (fun i => nmC_rng mn tx _ i) g1
        have hs := sm_s (g := fun p => nmC mn tx (td tl p) p) g1
        have hcr := nmC_rng mn tx (td tl i) i
        refine r_iload_n C dX8_order_9 rfl ?_
        refine r_aload_n C dX8_order_10 rfl ?_
        refine r_get C dX8_order_11 flX8_70 hp.o rfl ?_
        refine r_icmp_ge (tgt := 46) C dX8_order_14 (by decide) (fun hc14 => ?_) (fun hc14 => ?_)
        · have hi : i = pg := by omega
          refine r_iload_n C dX8_order_46 rfl ?_
          exact r_iret C dX8_order_47 (by decide) (by decide) ⟨_, rfl, by rw [hi], hm, Kp.rf⟩
        have hz := ih (i + 1) (by omega) (by omega) (by omega)
        rw [hs] at hz
        have hpl := pow_le (j := i.toNat) (by omega)
        refine r_iload_n C dX8_order_17 rfl ?_
        refine r_aload_n C dX8_order_18 rfl ?_
        refine r_iload_n C dX8_order_19 rfl ?_
        refine r_cVi C dX8_order_20 mlX8_126 kX8_namedIn (n_namedP (p := i) hp hba g1 hc14) hp.o rfl rfl rfl (Nat.le_of_ble_eq_true rfl) (fit hX (by decide)) ?_
        refine r_aload_n C dX8_order_23 rfl ?_
        refine r_iconst C dX8_order_24 (by decide) ?_
        refine r_iload_n C dX8_order_25 rfl ?_
        refine r_ishl C dX8_order_26 ?_
        rw [shl_pg g1 (by omega)]
        refine r_iconst C dX8_order_27 (by decide) ?_
        refine r_isub C dX8_order_28 (by omega) ?_
        refine r_cVi C dX8_order_29 mlX8_142 kX8_toldBy (n_toldBy (s := 2 ^ i.toNat - 1) hp hba) hp.o rfl rfl rfl (Nat.le_of_ble_eq_true rfl) (fit hX (by decide)) ?_
        rw [tB_first hp12 hok g1 (by omega)]
        refine r_iconst C dX8_order_32 (by decide) ?_
        refine r_ixor C dX8_order_33 ?_
        refine r_iand C dX8_order_34 ?_
        refine r_cSi C dX8_order_35 mlX8_139 kX8_bits (n_bits (s := bAnd (nmP mn tx i) (bXor (td tl i) (-1)))) rfl rfl (Nat.le_of_ble_eq_true rfl) (fit hX (by decide)) ?_
        refine r_iadd C dX8_order_38 (show Rg (sm (fun p => nmC mn tx (td tl p) p) i + nmC mn tx (td tl i) i) by omega) ?_
        refine r_istore_n C dX8_order_39 (by decide) ?_
        refine r_iinc C dX8_order_40 rfl (by decide) (by omega) ?_
        refine r_goto (tgt := 9) C dX8_order_43 (by decide) ?_
        exact hz
    refine r_iconst C dX8_order_5 (by decide) ?_
    refine r_istore_n C dX8_order_6 (by decide) ?_
    refine r_iconst C dX8_order_7 (by decide) ?_
    refine r_istore_n C dX8_order_8 (by decide) ?_
    exact loop 13 0 (by omega) (by omega) (by omega)
  have hRM : ∀ h' be', MP h' m A vs pg pd us gi op th la lv sl T S M tL dU rs pA pS pH bV be' dO hB sA nO mI mK → RM h' m pn pf vs pg mn tx tl du kp im := fun h' be' hp' => ⟨A, pd, us, gi, op, th, la, lv, sl, T, S, M, tL, dU, rs, pA, pS, pH, bV, be', dO, hB, sA, nO, mI, mK, hp', hpt, hba, hsz, hld, him⟩
  have hpl := pow_le (j := pg.toNat) (by omega)
  refine r_aload_n C dX8_order_48 rfl ?_
  refine r_cVv C dX8_order_49 mlX8_145 kX8_layOrders (n_layOrders hp hba) hp.o rfl rfl rfl (Nat.le_of_ble_eq_true rfl) (fit hX (by decide)) ?_
  rintro h1 ⟨be1, hp1, k1, hbe⟩
  refine r_iload_n C dX8_order_52 rfl ?_
  refine r_bipush C dX8_order_53 (by decide) ?_
  refine r_icmp_ne (tgt := 65) C dX8_order_55 (by decide) (fun hc55 => ?_) (fun hc55 => ?_)
  rotate_left
  · have hv : aOrder pg mn tx tl w = sm (nmC mn tx (td tl pg)) pg := (if_neg hc2).trans (if_pos hc55)
    rw [hv]
    refine r_aload_n C dX8_order_58 rfl ?_
    refine r_get C dX8_order_59 flX8_40 hp1.o rfl ?_
    refine r_iconst C dX8_order_62 (by decide) ?_
    refine r_iald C dX8_order_63 hp1.abe (by omega) (by omega) ?_
    exact r_iret C dX8_order_64 (by decide) (by decide) ⟨_, rfl, (hbe 0 (by omega) (by omega)).trans (bs_0 hp0), hRM h1 be1 hp1, k1⟩
  refine r_iload_n C dX8_order_65 rfl ?_
  refine r_iconst C dX8_order_66 (by decide) ?_
  refine r_aload_n C dX8_order_67 rfl ?_
  refine r_get C dX8_order_68 flX8_70 hp1.o rfl ?_
  refine r_iconst C dX8_order_71 (by decide) ?_
  refine r_isub C dX8_order_72 (by omega) ?_
  refine r_cSi C dX8_order_73 mlX8_66 kX8_in (n_in (v := w) (lo := 0) (hi := pg - 1)) rfl rfl (Nat.le_of_ble_eq_true rfl) (fit hX (by decide)) ?_
  refine r_if_ne (tgt := 82) C dX8_order_76 (by decide) (fun hc76 => ?_) (fun hc76 => ?_)
  rotate_left
  · have hno := zb_0.mp hc76
    have hv : aOrder pg mn tx tl w = -6 := (if_neg hc2).trans ((if_neg hc55).trans (if_neg (by omega)))
    rw [hv]
    refine r_bipush C dX8_order_79 (by decide) ?_
    exact r_iret C dX8_order_81 (by decide) (by decide) ⟨_, rfl, rfl, hRM h1 be1 hp1, k1⟩
  have hww := zb_n0.mp hc76
  have hv : aOrder pg mn tx tl w = plR (nmP mn tx) tl pg (td tl pg) w.toNat 0 0 := (if_neg hc2).trans ((if_neg hc55).trans (if_pos (by omega)))
  rw [hv]
  have hfull : cnt (2 ^ pg.toNat - 1) = pg := by rw [cnt_full (by omega)]; omega
  have hlt : ∀ s f, 0 ≤ s → s < 2 ^ pg.toNat → 0 ≤ f → f < pg → tb s f.toNat = false → s < bOr s (bShl 1 f) ∧ bOr s (bShl 1 f) < 2 ^ pg.toNat := fun s f s0 s1 f0 f1 hf => or_rng (by omega) s0 s1 f0 (by omega) hf
  have hwit : ∀ s, 0 ≤ s → s < 2 ^ pg.toNat → cnt s < pg → ∃ q : Int, 0 ≤ q ∧ q < pg ∧ tb s q.toNat = false ∧ nmC mn tx (tB tl s pg) q = nmC mn tx (td tl pg) q := fun s s0 s1 s2 => bs_wit hba.IB hp0 hp12 s0 s1 (fun e => by rw [e, hfull] at s2; omega)
  generalize (2 : Int) ^ pg.toNat = W at hpl hbe hfull hlt hwit
  generalize hR : plR (nmP mn tx) tl pg (td tl pg) w.toNat 0 0 = R
  obtain ⟨PQ, hPQ⟩ : ∃ PQ : State → Prop, PQ = Qm X (pX (fun z h' => z = R ∧ RM h' m pn pf vs pg mn tx tl du kp im ∧ Kp SM h h')) 0 0 := ⟨_, rfl⟩
  rw [← hPQ]
  have loop : ∀ (j : Nat) (k s f : Int) (o5 o6 o7 : Option Va), 0 ≤ k → k ≤ w + 1 → w + 1 - k < j → 0 ≤ s → s < W → cnt s = k → (k ≤ w → plR (nmP mn tx) tl pg (td tl pg) (w - k).toNat s (tB tl s pg) = R) → (¬ k ≤ w → f = R) → Go X PQ 0 0 h1 90 [some (vR m), some (vI w), some (vI s), some (vI f), some (vI k), o5, o6, o7] [] := by
    intro j
    induction j with
    | zero => intro k s f o5 o6 o7 g1 g2 g3; exact absurd g3 (by omega)
    | succ j ih =>
      intro k s f o5 o6 o7 g1 g2 g3 g4 g5 g6 g7 g8
      refine r_iload C dX8_order_90 rfl ?_
      refine r_iload_n C dX8_order_92 rfl ?_
      refine r_icmp_gt (tgt := 203) C dX8_order_93 (by decide) (fun hc93 => ?_) (fun hc93 => ?_)
      · refine r_iload_n C dX8_order_203 rfl ?_
        rw [hPQ]
        exact r_iret C dX8_order_204 (by decide) (by decide) ⟨_, rfl, g8 (by omega), hRM h1 be1 hp1, k1⟩
      have hpl := g7 hc93
      obtain ⟨q', w0, w1, w2, w3⟩ := hwit s g4 g5 (by omega)
      have hsub : ∀ i, i < 32 → tb (tB tl s pg) i = true → tb (td tl pg) i = true := fun i hi q => tB_sub hp0 hp12 hok hi q
      have hb' : ∀ q, 0 ≤ q → q < pg → (bAnd (bShr s q) 1 = 0 ↔ tb s q.toNat = false) := fun q q0 q1 => by
        have e1 := bit_1 (x := s) q0 (show q < 32 by omega)
        have e2 := bit_01 (x := s) q0 (show q < 32 by omega)
        cases z : tb s q.toNat with
        | false => exact ⟨fun _ => rfl, fun _ => e2.resolve_right (fun y => by rw [e1.mp y] at z; exact absurd z (by decide))⟩
        | true => rw [e1.mpr z]; exact ⟨fun y => absurd y (by decide), fun y => absurd y (by decide)⟩
      obtain ⟨f0, f1, f2⟩ := ff_ok (nm := nmP mn tx) (pg := pg) (pl := s) (un := bAnd (td tl pg) (bXor (tB tl s pg) (-1))) 13 0 q' (by omega) w0 w1 ((hb' q' w0 w1).mpr w2) ((nmC_eq hsub).mp w3)
      generalize hF : ff (nmP mn tx) pg s (bAnd (td tl pg) (bXor (tB tl s pg) (-1))) 13 0 = F at f0 f1 f2
      have f3 := (hb' F f0 f1).mp f2
      obtain ⟨l1, l2⟩ := hlt s F g4 g5 f0 f1 f3
      have hcn := cnt_add (s := s) f0 (by omega) f3
      refine r_aload_n C dX8_order_96 rfl ?_
      refine r_iload_n C dX8_order_97 rfl ?_
      refine r_cVi C dX8_order_98 mlX8_142 kX8_toldBy (n_toldBy (s := s) hp1 hba) hp1.o rfl rfl rfl (Nat.le_of_ble_eq_true rfl) (fit hX (by decide)) ?_
      have hend : ∀ (o6 o7 : Option Va), Go X PQ 0 0 h1 191 [some (vR m), some (vI w), some (vI s), some (vI F), some (vI k), some (vI (tB tl s pg)), o6, o7] [] := by
        intro o6 o7
        refine r_iload_n C dX8_order_191 rfl ?_
        refine r_iconst C dX8_order_192 (by decide) ?_
        refine r_iload_n C dX8_order_193 rfl ?_
        refine r_ishl C dX8_order_194 ?_
        refine r_ior C dX8_order_195 ?_
        refine r_istore_n C dX8_order_196 (by decide) ?_
        refine r_iinc C dX8_order_197 rfl (by decide) (by omega) ?_
        refine r_goto (tgt := 90) C dX8_order_200 (by decide) ?_
        refine ih (k + 1) _ F _ _ _ (by omega) (by omega) (by omega) (by omega) l2 (by omega) (fun z => ?_) (fun z => ?_)
        · rw [tB_or hp12 hok f0 f1, ← hpl, show (w - k).toNat = (w - (k + 1)).toNat + 1 by omega]
          conv => rhs; unfold plR
          rw [hF, if_neg (show ¬ F = -6 by omega)]
        · rw [← hpl, show (w - k).toNat = 0 by omega]
          exact hF.symm
      have inner : ∀ (jj : Nat) (p : Int) (o7 : Option Va), 0 ≤ p → p ≤ pg → pg - p < jj → ff (nmP mn tx) pg s (bAnd (td tl pg) (bXor (tB tl s pg) (-1))) jj p = F → Go X PQ 0 0 h1 109 [some (vR m), some (vI w), some (vI s), some (vI (-6)), some (vI k), some (vI (tB tl s pg)), some (vI p), o7] [] := by
        intro jj
        induction jj with
        | zero => intro p o7 d1 d2 d3; exact absurd d3 (by omega)
        | succ jj ihj =>
          intro p o7 d1 d2 d3 d4
          unfold ff at d4
          refine r_iload C dX8_order_109 rfl ?_
          refine r_aload_n C dX8_order_111 rfl ?_
          refine r_get C dX8_order_112 flX8_70 hp1.o rfl ?_
          refine r_icmp_ge (tgt := 191) C dX8_order_115 (by decide) (fun hc115 => ?_) (fun hc115 => ?_)
          · rw [if_pos hc115] at d4; exact absurd d4 (by omega)
          rw [if_neg (by omega)] at d4
          refine r_iload_n C dX8_order_118 rfl ?_
          refine r_if_ge (tgt := 191) C dX8_order_119 (by decide) (fun hc119 => ?_) (fun hc119 => ?_)
          · exact absurd hc119 (by decide)
          have hnot : ¬ (bAnd (bShr s p) 1 = 0 ∧ bAnd (nmP mn tx p) (bAnd (td tl pg) (bXor (tB tl s pg) (-1))) = 0) → Go X PQ 0 0 h1 170 [some (vR m), some (vI w), some (vI s), some (vI (-6)), some (vI k), some (vI (tB tl s pg)), some (vI p), o7] [] := by
            intro q
            rw [if_neg q] at d4
            refine r_iconst C dX8_order_170 (by decide) ?_
            refine r_istore C dX8_order_171 (by decide) ?_
            refine r_iload C dX8_order_173 rfl ?_
            refine r_if_eq (tgt := 183) C dX8_order_175 (by decide) (fun hc175 => ?_) (fun hc175 => ?_)
            · refine r_iload_n C dX8_order_183 rfl ?_
              refine r_istore_n C dX8_order_184 (by decide) ?_
              refine r_iinc C dX8_order_185 rfl (by decide) (by omega) ?_
              refine r_goto (tgt := 109) C dX8_order_188 (by decide) ?_
              exact ihj (p + 1) _ (by omega) (by omega) (by omega) d4
            · exact absurd rfl hc175
          refine r_iload_n C dX8_order_122 rfl ?_
          refine r_iload C dX8_order_123 rfl ?_
          refine r_ishr C dX8_order_125 ?_
          refine r_iconst C dX8_order_126 (by decide) ?_
          refine r_iand C dX8_order_127 ?_
          refine r_if_ne (tgt := 170) C dX8_order_128 (by decide) (fun hc128 => ?_) (fun hc128 => ?_)
          · exact hnot (fun q => hc128 q.1)
          have hb0 := (hb' p d1 hc115).mp hc128
          obtain ⟨p1, p2⟩ := hlt s p g4 g5 d1 hc115 hb0
          have hbo := bs_or (mn := mn) (tx := tx) (tl := tl) (s := s) hp12 d1 hc115 hb0
          have hbr := bs_rng (mn := mn) (tx := tx) (tl := tl) hp0 hp12 s
          have hbr2 := bs_rng (mn := mn) (tx := tx) (tl := tl) hp0 hp12 (bOr s (bShl 1 p))
          have hcr := nmC_rng mn tx (tB tl s pg) p
          refine r_aload_n C dX8_order_131 rfl ?_
          refine r_get C dX8_order_132 flX8_40 hp1.o rfl ?_
          refine r_iload_n C dX8_order_135 rfl ?_
          refine r_iconst C dX8_order_136 (by decide) ?_
          refine r_iload C dX8_order_137 rfl ?_
          refine r_ishl C dX8_order_139 ?_
          refine r_ior C dX8_order_140 ?_
          refine r_iald C dX8_order_141 hp1.abe (by omega) (by omega) ?_
          rw [hbe _ (by omega) p2, hbo]
          rw [hbo] at hbr2
          refine r_aload_n C dX8_order_142 rfl ?_
          refine r_iload C dX8_order_143 rfl ?_
          refine r_cVi C dX8_order_145 mlX8_126 kX8_namedIn (n_namedP (p := p) hp1 hba d1 hc115) hp1.o rfl rfl rfl (Nat.le_of_ble_eq_true rfl) (fit hX (by decide)) ?_
          refine r_iload C dX8_order_148 rfl ?_
          refine r_iconst C dX8_order_150 (by decide) ?_
          refine r_ixor C dX8_order_151 ?_
          refine r_iand C dX8_order_152 ?_
          refine r_cSi C dX8_order_153 mlX8_139 kX8_bits (n_bits (s := bAnd (nmP mn tx p) (bXor (tB tl s pg) (-1)))) rfl rfl (Nat.le_of_ble_eq_true rfl) (fit hX (by decide)) ?_
          refine r_iadd C dX8_order_156 (show Rg (bs mn tx tl pg s - nmC mn tx (td tl pg) p + nmC mn tx (tB tl s pg) p) by omega) ?_
          have hown : cnt (bAnd (nmP mn tx p) (bXor (tB tl s pg) (-1))) = nmC mn tx (tB tl s pg) p := rfl
          rw [hown]
          refine r_aload_n C dX8_order_157 rfl ?_
          refine r_get C dX8_order_158 flX8_40 hp1.o rfl ?_
          refine r_iload_n C dX8_order_161 rfl ?_
          refine r_iald C dX8_order_162 hp1.abe (by omega) (by omega) ?_
          rw [hbe s g4 g5]
          have heq := nmC_eq (mn := mn) (tx := tx) (p := p) hsub
          refine r_icmp_ne (tgt := 170) C dX8_order_163 (by decide) (fun hc163 => ?_) (fun hc163 => ?_)
          · exact hnot (fun q => hc163 (by have := heq.mpr q.2; omega))
          rw [if_pos ⟨hc128, heq.mp (by omega)⟩] at d4
          refine r_iconst C dX8_order_166 (by decide) ?_
          refine r_goto (tgt := 171) C dX8_order_167 (by decide) ?_
          refine r_istore C dX8_order_171 (by decide) ?_
          refine r_iload C dX8_order_173 rfl ?_
          refine r_if_eq (tgt := 183) C dX8_order_175 (by decide) (fun hc175 => ?_) (fun hc175 => ?_)
          · exact absurd hc175 (by decide)
          refine r_iload C dX8_order_178 rfl ?_
          refine r_goto (tgt := 184) C dX8_order_180 (by decide) ?_
          refine r_istore_n C dX8_order_184 (by decide) ?_
          refine r_iinc C dX8_order_185 rfl (by decide) (by omega) ?_
          refine r_goto (tgt := 109) C dX8_order_188 (by decide) ?_
          rw [d4]
          refine r_iload C dX8_order_109 rfl ?_
          refine r_aload_n C dX8_order_111 rfl ?_
          refine r_get C dX8_order_112 flX8_70 hp1.o rfl ?_
          refine r_icmp_ge (tgt := 191) C dX8_order_115 (by decide) (fun hc115' => ?_) (fun hc115' => ?_)
          · exact hend _ _
          refine r_iload_n C dX8_order_118 rfl ?_
          refine r_if_ge (tgt := 191) C dX8_order_119 (by decide) (fun hc119' => ?_) (fun hc119' => ?_)
          · exact hend _ _
          · exact absurd hc119' (by omega)
      refine r_istore C dX8_order_101 (by decide) ?_
      refine r_bipush C dX8_order_103 (by decide) ?_
      refine r_istore_n C dX8_order_105 (by decide) ?_
      refine r_iconst C dX8_order_106 (by decide) ?_
      refine r_istore C dX8_order_107 (by decide) ?_
      exact inner 13 0 _ (by omega) (by omega) (by omega) hF
  refine r_iconst C dX8_order_82 (by decide) ?_
  refine r_istore_n C dX8_order_83 (by decide) ?_
  refine r_bipush C dX8_order_84 (by decide) ?_
  refine r_istore_n C dX8_order_86 (by decide) ?_
  refine r_iconst C dX8_order_87 (by decide) ?_
  refine r_istore C dX8_order_88 (by decide) ?_
  exact loop (w.toNat + 2) 0 0 (-6) none none none (by omega) (by omega) (by omega) (by omega) (by omega) cnt_0 (fun _ => by rw [tB_0 hp0 hp12 hok, Int.sub_zero]; exact hR) (fun q => by omega)
end
