/-! the model: fewest, blame -/
theorem tb_nat {x : Int} {n i : Nat} (h0 : 0 ≤ x) (h1 : x < ((2 ^ n : Nat) : Int)) (hn : n ≤ 31) (hi : n ≤ i) : tb x i = false := by
  have hle : 2 ^ n ≤ 2 ^ 31 := Nat.pow_le_pow_right (by omega) hn
  have hb : (Int32.ofInt x).toBitVec.toInt = x := o_toInt (by omega)
  have hlt : (Int32.ofInt x).toBitVec.toNat < 2 ^ n := by
    rw [BitVec.toInt_eq_toNat_cond] at hb
    split at hb <;> omega
  exact Nat.testBit_lt_two_pow (Nat.lt_of_lt_of_le hlt (Nat.pow_le_pow_right (by omega) hi))
theorem tb_fu_all : (List.range 13).all (fun p => (List.range 32).all (fun i => tb ((2 : Int) ^ p - 1) i == decide (i < p))) = true := by decide +kernel
theorem tb_full {p i : Nat} (hp : p ≤ 12) (hi : i < 32) : tb (2 ^ p - 1) i = decide (i < p) := by
  have := List.all_eq_true.mp (List.all_eq_true.mp tb_fu_all p (List.mem_range.mpr (by omega))) i (List.mem_range.mpr hi)
  exact eq_of_beq this
theorem cnt_fu_all : (List.range 13).all (fun p => decide (cnt ((2 : Int) ^ p - 1) = (p : Int))) = true := by decide +kernel
theorem cnt_full {p : Nat} (hp : p ≤ 12) : cnt (2 ^ p - 1) = p := of_decide_eq_true (List.all_eq_true.mp cnt_fu_all p (List.mem_range.mpr (by omega)))
theorem cnt_lt_full {p : Nat} {s : Int} (hp : p ≤ 12) (h0 : 0 ≤ s) (h1 : s < 2 ^ p) : cnt s < p ∨ s = 2 ^ p - 1 := by
  by_cases e : s = 2 ^ p - 1
  · exact Or.inr e
  · refine Or.inl ?_
    rw [← cnt_full hp]
    have hpl := pow_le hp
    have hp2 : ((2 ^ p : Nat) : Int) = 2 ^ p := by simp
    have h1' : s < ((2 ^ p : Nat) : Int) := by rw [hp2]; exact h1
    have hsub : ∀ i, i < 32 → tb s i = true → tb (2 ^ p - 1) i = true := fun i hi q => by
      rw [tb_full hp hi, decide_eq_true_iff]
      rcases Nat.lt_or_ge i p with z | z
      · exact z
      · rw [tb_nat h0 h1' (by omega) z] at q; exact absurd q (by decide)
    obtain ⟨m, m1, m2⟩ : ∃ m, m < p ∧ tb s m = false := Classical.byContradiction (fun q => e (tb_ext (by omega) (by omega) (fun i hi => by
      rw [tb_full hp hi]
      rcases Nat.lt_or_ge i p with z | z
      · rw [decide_eq_true z]
        cases hb : tb s i with
        | true => rfl
        | false => exact absurd ⟨i, z, hb⟩ q
      · rw [tb_nat h0 h1' (by omega) z, decide_eq_false (by omega)])))
    exact cnt_lt hsub (by omega) m2 (by rw [tb_full hp (by omega)]; exact decide_eq_true m1)
/-- what the model has found over the sets 0 to j - 1 -/
noncomputable def fmN (P : Int → Prop) : Nat → Int
  | 0 => -6
  | j + 1 => by classical exact if (fmN P j < 0 ∨ cnt j < cnt (fmN P j)) ∧ P j then (j : Int) else fmN P j
theorem fmN_t {P : Int → Prop} {j : Nat} (h1 : fmN P j < 0 ∨ cnt j < cnt (fmN P j)) (h2 : P j) : fmN P (j + 1) = j := by
  conv => lhs; unfold fmN
  exact if_pos ⟨h1, h2⟩
theorem fmN_f {P : Int → Prop} {j : Nat} (h : ¬ ((fmN P j < 0 ∨ cnt j < cnt (fmN P j)) ∧ P j)) : fmN P (j + 1) = fmN P j := by
  conv => lhs; unfold fmN
  exact if_neg h
theorem fm_fw {P : Int → Prop} {pg : Nat} (hpg : pg ≤ 12) : ∀ j : Nat, j ≤ 2 ^ pg → (fmN P j = -6 ∧ fwN P pg j = (2 ^ pg - 1, (pg : Int)) ∧ ∀ s : Int, 0 ≤ s → s < j → ¬ P s) ∨ (0 ≤ fmN P j ∧ fwN P pg j = (fmN P j, cnt (fmN P j))) := by
  have hpl := pow_le hpg
  have hp2 : ((2 ^ pg : Nat) : Int) = 2 ^ pg := by simp
  intro j
  induction j with
  | zero => intro _; exact Or.inl ⟨rfl, rfl, fun s s0 s1 => by omega⟩
  | succ j ih =>
    intro hj
    have hj' : (j : Int) < 2 ^ pg := by rw [← hp2]; omega
    rcases ih (by omega) with ⟨a1, a2, a3⟩ | ⟨a1, a2⟩
    · by_cases hP : P j
      · right
        rw [fmN_t (Or.inl (by omega)) hP]
        refine ⟨by omega, ?_⟩
        rcases cnt_lt_full (s := (j : Int)) hpg (by omega) hj' with q | q
        · exact fwN_t ⟨by rw [a2]; exact q, hP⟩
        · have hc : cnt (j : Int) = pg := by rw [q]; exact cnt_full hpg
          rw [fwN_f (fun z => absurd (show cnt (j : Int) < pg by have z1 := z.1; rw [a2] at z1; exact z1) (by omega)), a2, hc, ← q]
      · left
        refine ⟨(fmN_f (fun z => hP z.2)).trans a1, (fwN_f (fun z => hP z.2)).trans a2, fun s s0 s1 => ?_⟩
        rcases (show s < j ∨ s = j by omega) with q | q
        · exact a3 s s0 q
        · rw [q]; exact hP
    · right
      by_cases hc : cnt j < cnt (fmN P j) ∧ P j
      · rw [fmN_t (Or.inr hc.1) hc.2]
        exact ⟨by omega, fwN_t ⟨by rw [a2]; exact hc.1, hc.2⟩⟩
      · rw [fmN_f (fun z => hc ⟨z.1.resolve_left (by omega), z.2⟩), fwN_f (fun z => hc ⟨by have z1 := z.1; rw [a2] at z1; exact z1, z.2⟩)]
        exact ⟨a1, a2⟩
theorem fw_fm {P : Int → Prop} {pg : Nat} (hpg : pg ≤ 12) (hf : P (2 ^ pg - 1)) : fmN P (2 ^ pg) = fw P pg := by
  have hpl := pow_le hpg
  have hp2 : ((2 ^ pg : Nat) : Int) = 2 ^ pg := by simp
  unfold fw
  rcases fm_fw (P := P) hpg (2 ^ pg) (Nat.le_refl _) with ⟨a1, a2, a3⟩ | ⟨a1, a2⟩
  · exact absurd hf (a3 _ (by omega) (by rw [hp2]; omega))
  · rw [a2]
theorem mt_full {g : Int → Int} {n pg : Int} (h1 : pg ≤ 12) (hd : ∀ k, 0 ≤ k → k < n → Rg (g k) ∧ ∀ i : Nat, i < 32 → tb (g k) i = true → (i : Int) < pg) : mtN g n (2 ^ pg.toNat - 1) := fun k k0 k1 => by
  obtain ⟨d1, d2⟩ := hd k k0 k1
  by_cases e : bAnd (g k) (2 ^ pg.toNat - 1) = 0
  · refine Or.inl (tb_ext d1 (by omega) (fun i hi => ?_))
    rw [tb_0]
    have a1 := and_0.mp e i hi
    rw [tb_full (by omega) hi] at a1
    cases hb : tb (g k) i with
    | false => rfl
    | true => exact absurd ⟨hb, decide_eq_true (by have := d2 i hi hb; omega)⟩ a1
  · exact Or.inr e
theorem mtN_congr {g g' : Int → Int} {n s : Int} (h : ∀ k, 0 ≤ k → k < n → g k = g' k) : mtN g n s ↔ mtN g' n s :=
  ⟨fun q k k0 k1 => by rw [← h k k0 k1]; exact q k k0 k1, fun q k k0 k1 => by rw [h k k0 k1]; exact q k k0 k1⟩
theorem shl_pg {pg : Int} (h0 : 0 ≤ pg) (h1 : pg ≤ 12) : bShl 1 pg = 2 ^ pg.toNat := by
  obtain ⟨j, rfl⟩ := Int.eq_ofNat_of_zero_le h0
  exact shl_pow (by omega)
section
variable {h : Pic} {m : Nat} {A : Nat → Nat} {vs pg pd us gi op th la lv sl : Int} {T S M tL dU rs pA pS pH bV be dO hB sA nO mI mK : Int → Int}
theorem n_fewest (hp : MP h m A vs pg pd us gi op th la lv sl T S M tL dU rs pA pS pH bV be dO hB sA nO mI mK) (h0 : 0 ≤ pg) (h1 : pg ≤ 12) (ht0 : 0 ≤ th) (ht1 : th ≤ 320) (hd : ∀ k, 0 ≤ k → k < th → Rg (dO k) ∧ ∀ i : Nat, i < 32 → tb (dO k) i = true → (i : Int) < pg) : Meets yX8_fewest cX8_fewest 5 (some .int) 1 0 0 [vR m] h (pI (fw (mtN dO th) pg.toNat) h) := by
  rw [← fw_fm (by omega) (mt_full h1 hd)]
  have hP := pow_le (j := pg.toNat) (by omega)
  have hP2 : ((2 ^ pg.toNat : Nat) : Int) = 2 ^ pg.toNat := by simp
  have hsh := shl_pg h0 h1
  refine Meets.of (plainFor_of_name (by decide)) (Nat.le_of_ble_eq_true rfl) (fun X C hX hN hA => ?_)
  have loop : ∀ (j i : Nat) (o3 o4 : Option Va), i ≤ 2 ^ pg.toNat → 2 ^ pg.toNat - i < j → Go X (Qm X (pI (fmN (mtN dO th) (2 ^ pg.toNat)) h) 0 0) 0 0 h 5 [some (vR m), some (vI (fmN (mtN dO th) i)), some (vI i), o3, o4] [] := by
    intro j
    induction j with
    | zero => intro i o3 o4 g1 g2; exact absurd g2 (by omega)
    | succ j ih =>
      intro i o3 o4 g1 g2
      refine r_iload_n C dX8_fewest_5 rfl ?_
      refine r_iconst C dX8_fewest_6 (by decide) ?_
      refine r_aload_n C dX8_fewest_7 rfl ?_
      refine r_get C dX8_fewest_8 flX8_70 hp.o rfl ?_
      refine r_ishl C dX8_fewest_11 ?_
      rw [hsh]
      refine r_icmp_ge (tgt := 98) C dX8_fewest_12 (by decide) (fun hc12 => ?_) (fun hc12 => ?_)
      · have hi : i = 2 ^ pg.toNat := by rw [← hP2] at hc12; omega
        refine r_iload_n C dX8_fewest_98 rfl ?_
        exact r_iret C dX8_fewest_99 (by decide) (by decide) ⟨by rw [hi], rfl⟩
      have hlt : i < 2 ^ pg.toNat := by rw [← hP2] at hc12; omega
      have hnext : ∀ (b : Int) (o3 o4 : Option Va), fmN (mtN dO th) (i + 1) = b → Go X (Qm X (pI (fmN (mtN dO th) (2 ^ pg.toNat)) h) 0 0) 0 0 h 92 [some (vR m), some (vI b), some (vI i), o3, o4] [] := by
        intro b o3 o4 hb
        have hz := ih (i + 1) o3 o4 (by omega) (by omega)
        rw [hb] at hz
        refine r_iinc C dX8_fewest_92 rfl (by decide) (by omega) ?_
        refine r_goto (tgt := 5) C dX8_fewest_95 (by decide) ?_
        exact hz
      have hdo : (fmN (mtN dO th) i < 0 ∨ cnt i < cnt (fmN (mtN dO th) i)) → Go X (Qm X (pI (fmN (mtN dO th) (2 ^ pg.toNat)) h) 0 0) 0 0 h 30 [some (vR m), some (vI (fmN (mtN dO th) i)), some (vI i), o3, o4] [] := by
        intro hq
        have fin : ∀ (z k : Int), z = zb (mtN dO th i) → Go X (Qm X (pI (fmN (mtN dO th) (2 ^ pg.toNat)) h) 0 0) 0 0 h 82 [some (vR m), some (vI (fmN (mtN dO th) i)), some (vI i), some (vI z), some (vI k)] [] := by
          intro z k hz
          refine r_iload_n C dX8_fewest_82 rfl ?_
          refine r_if_eq (tgt := 90) C dX8_fewest_83 (by decide) (fun hc83 => ?_) (fun hc83 => ?_)
          · rw [hz] at hc83
            refine r_iload_n C dX8_fewest_90 rfl ?_
            refine r_istore_n C dX8_fewest_91 (by decide) ?_
            exact hnext _ _ _ (fmN_f (fun q => zb_0.mp hc83 q.2))
          · rw [hz] at hc83
            refine r_iload_n C dX8_fewest_86 rfl ?_
            refine r_goto (tgt := 91) C dX8_fewest_87 (by decide) ?_
            refine r_istore_n C dX8_fewest_91 (by decide) ?_
            exact hnext _ _ _ (fmN_t hq (zb_n0.mp hc83))
        have inner : ∀ (jj : Nat) (k z : Int), 0 ≤ k → k ≤ th → th - k < jj → z = zb (mtN dO k i) → Go X (Qm X (pI (fmN (mtN dO th) (2 ^ pg.toNat)) h) 0 0) 0 0 h 35 [some (vR m), some (vI (fmN (mtN dO th) i)), some (vI i), some (vI z), some (vI k)] [] := by
          intro jj
          induction jj with
          | zero => intro k z c1 c2 c3; exact absurd c3 (by omega)
          | succ jj ihj =>
            intro k z c1 c2 c3 c4
            refine r_iload C dX8_fewest_35 rfl ?_
            refine r_aload_n C dX8_fewest_37 rfl ?_
            refine r_get C dX8_fewest_38 flX8_148 hp.o rfl ?_
            refine r_icmp_ge (tgt := 82) C dX8_fewest_41 (by decide) (fun hc41 => ?_) (fun hc41 => ?_)
            · exact fin z k (by rw [c4, show k = th by omega])
            refine r_iload_n C dX8_fewest_44 rfl ?_
            refine r_if_eq (tgt := 82) C dX8_fewest_45 (by decide) (fun hc45 => ?_) (fun hc45 => ?_)
            · rw [c4] at hc45
              refine fin z k (c4.trans ?_)
              rw [hc45]
              exact (zb_f (fun q => zb_0.mp hc45 (fun a a0 a1 => q a a0 (by omega)))).symm
            rw [c4] at hc45
            have hyes := zb_n0.mp hc45
            refine r_aload_n C dX8_fewest_48 rfl ?_
            refine r_get C dX8_fewest_49 flX8_43 hp.o rfl ?_
            refine r_iload C dX8_fewest_52 rfl ?_
            refine r_iald C dX8_fewest_54 hp.adO (by omega) (by omega) ?_
            refine r_if_eq (tgt := 70) C dX8_fewest_55 (by decide) (fun hc55 => ?_) (fun hc55 => ?_)
            · refine r_iconst C dX8_fewest_70 (by decide) ?_
              refine r_goto (tgt := 75) C dX8_fewest_71 (by decide) ?_
              refine r_istore_n C dX8_fewest_75 (by decide) ?_
              refine r_iinc C dX8_fewest_76 rfl (by decide) (by omega) ?_
              refine r_goto (tgt := 35) C dX8_fewest_79 (by decide) ?_
              exact ihj (k + 1) 1 (by omega) (by omega) (by omega) (zb_t ((mtN_s c1).mpr ⟨hyes, Or.inl hc55⟩)).symm
            refine r_aload_n C dX8_fewest_58 rfl ?_
            refine r_get C dX8_fewest_59 flX8_43 hp.o rfl ?_
            refine r_iload C dX8_fewest_62 rfl ?_
            refine r_iald C dX8_fewest_64 hp.adO (by omega) (by omega) ?_
            refine r_iload_n C dX8_fewest_65 rfl ?_
            refine r_iand C dX8_fewest_66 ?_
            refine r_if_eq (tgt := 74) C dX8_fewest_67 (by decide) (fun hc67 => ?_) (fun hc67 => ?_)
            · refine r_iconst C dX8_fewest_74 (by decide) ?_
              refine r_istore_n C dX8_fewest_75 (by decide) ?_
              refine r_iinc C dX8_fewest_76 rfl (by decide) (by omega) ?_
              refine r_goto (tgt := 35) C dX8_fewest_79 (by decide) ?_
              exact ihj (k + 1) 0 (by omega) (by omega) (by omega) (zb_f (fun q => ((mtN_s c1).mp q).2.elim hc55 (fun z => z hc67))).symm
            · refine r_iconst C dX8_fewest_70 (by decide) ?_
              refine r_goto (tgt := 75) C dX8_fewest_71 (by decide) ?_
              refine r_istore_n C dX8_fewest_75 (by decide) ?_
              refine r_iinc C dX8_fewest_76 rfl (by decide) (by omega) ?_
              refine r_goto (tgt := 35) C dX8_fewest_79 (by decide) ?_
              exact ihj (k + 1) 1 (by omega) (by omega) (by omega) (zb_t ((mtN_s c1).mpr ⟨hyes, Or.inr hc67⟩)).symm
        refine r_iconst C dX8_fewest_30 (by decide) ?_
        refine r_istore_n C dX8_fewest_31 (by decide) ?_
        refine r_iconst C dX8_fewest_32 (by decide) ?_
        refine r_istore C dX8_fewest_33 (by decide) ?_
        exact inner (th.toNat + 1) 0 1 (by omega) (by omega) (by omega) (zb_t mtN_0).symm
      refine r_iload_n C dX8_fewest_15 rfl ?_
      refine r_if_lt (tgt := 30) C dX8_fewest_16 (by decide) (fun hc16 => ?_) (fun hc16 => ?_)
      · exact hdo (Or.inl hc16)
      refine r_iload_n C dX8_fewest_19 rfl ?_
      refine r_cSi C dX8_fewest_20 mlX8_139 kX8_bits (n_bits (s := (i : Int))) rfl rfl (Nat.le_of_ble_eq_true rfl) (fit hX (by decide)) ?_
      refine r_iload_n C dX8_fewest_23 rfl ?_
      refine r_cSi C dX8_fewest_24 mlX8_139 kX8_bits (n_bits (s := fmN (mtN dO th) i)) rfl rfl (Nat.le_of_ble_eq_true rfl) (fit hX (by decide)) ?_
      refine r_icmp_ge (tgt := 92) C dX8_fewest_27 (by decide) (fun hc27 => ?_) (fun hc27 => ?_)
      · exact hnext _ _ _ (fmN_f (fun q => absurd q.1 (by omega)))
      · exact hdo (Or.inr hc27)
  refine r_bipush C dX8_fewest_0 (by decide) ?_
  refine r_istore_n C dX8_fewest_2 (by decide) ?_
  refine r_iconst C dX8_fewest_3 (by decide) ?_
  refine r_istore_n C dX8_fewest_4 (by decide) ?_
  exact loop (2 ^ pg.toNat + 1) 0 none none (by omega) (by omega)
end
theorem cnt8_all : (List.range 256).all (fun j => decide (cnt (j : Int) ≤ 8)) = true := by decide +kernel
theorem cnt_8 {s : Int} (h0 : 0 ≤ s) (h1 : s < 256) : cnt s ≤ 8 := by
  obtain ⟨j, rfl⟩ := Int.eq_ofNat_of_zero_le h0
  exact of_decide_eq_true (List.all_eq_true.mp cnt8_all j (List.mem_range.mpr (by omega)))
/-- what the model has found over the sets 1 to j -/
noncomputable def bmN (P : Int → Prop) : Nat → Int
  | 0 => -6
  | j + 1 => by classical exact if (bmN P j < 0 ∨ cnt ((j : Int) + 1) < cnt (bmN P j)) ∧ P ((j : Int) + 1) then (j : Int) + 1 else bmN P j
theorem bmN_t {P : Int → Prop} {j : Nat} (h1 : bmN P j < 0 ∨ cnt ((j : Int) + 1) < cnt (bmN P j)) (h2 : P ((j : Int) + 1)) : bmN P (j + 1) = (j : Int) + 1 := by
  conv => lhs; unfold bmN
  exact if_pos ⟨h1, h2⟩
theorem bmN_f {P : Int → Prop} {j : Nat} (h : ¬ ((bmN P j < 0 ∨ cnt ((j : Int) + 1) < cnt (bmN P j)) ∧ P ((j : Int) + 1))) : bmN P (j + 1) = bmN P j := by
  conv => lhs; unfold bmN
  exact if_neg h
theorem bm_bl {P : Int → Prop} : ∀ j : Nat, j ≤ 255 → (bmN P j = -6 ∧ blN P j = (-5, 9)) ∨ (0 ≤ bmN P j ∧ blN P j = (bmN P j, cnt (bmN P j))) := by
  intro j
  induction j with
  | zero => intro _; exact Or.inl ⟨rfl, rfl⟩
  | succ j ih =>
    intro hj
    have h8 := cnt_8 (s := (j : Int) + 1) (by omega) (by omega)
    rcases ih (by omega) with ⟨a1, a2⟩ | ⟨a1, a2⟩
    · by_cases hP : P ((j : Int) + 1)
      · right
        rw [bmN_t (Or.inl (by omega)) hP]
        exact ⟨by omega, blN_t ⟨by rw [a2]; show cnt ((j : Int) + 1) < 9; omega, hP⟩⟩
      · exact Or.inl ⟨(bmN_f (fun z => hP z.2)).trans a1, (blN_f (fun z => hP z.2)).trans a2⟩
    · right
      by_cases hc : cnt ((j : Int) + 1) < cnt (bmN P j) ∧ P ((j : Int) + 1)
      · rw [bmN_t (Or.inr hc.1) hc.2]
        exact ⟨by omega, blN_t ⟨by rw [a2]; exact hc.1, hc.2⟩⟩
      · rw [bmN_f (fun z => hc ⟨z.1.resolve_left (by omega), z.2⟩), blN_f (fun z => hc ⟨by have z1 := z.1; rw [a2] at z1; exact z1, z.2⟩)]
        exact ⟨a1, a2⟩
section
variable {h : Pic} {m : Nat} {pn : Int} {pf : Int → Int} {vs pg : Int} {mn : Int → Int} {tx : Int → Int → Int} {tl du kp : Int → Int} {im : Int → Bs}
theorem N_blame {p v : Int} (hm : RM h m pn pf vs pg mn tx tl du kp im) : Meets yX8_blame cX8_blame 6 (some .int) 10 0 0 [vR m, vI p, vI v] h (pX (fun z h' => z = aBlame vs pg mn tx tl du p v ∧ RM h' m pn pf vs pg mn tx tl du kp im ∧ Kp SM h h')) := by
  obtain ⟨A, pd, us, gi, op, th, la, lv, sl, T, S, M, tL, dU, rs, pA, pS, pH, bV, be, dO, hB, sA, nO, mI, mK, hp, hpt, hba, hsz, hld, him⟩ := id hm
  obtain ⟨⟨hv1, hv6, hp0, hp12⟩, -⟩ := id hba
  have hRM : ∀ h', (∃ pd us gi op pA pS pH bV, MP h' m A vs pg pd us gi op th la lv sl T S M tL dU rs pA pS pH bV be dO hB sA nO mI mK) → RM h' m pn pf vs pg mn tx tl du kp im := fun h' ⟨pd1, us1, gi1, op1, pA1, pS1, pH1, bV1, hp1⟩ => ⟨A, pd1, us1, gi1, op1, th, la, lv, sl, T, S, M, tL, dU, rs, pA1, pS1, pH1, bV1, be, dO, hB, sA, nO, mI, mK, hp1, hpt, hba, hsz, hld, him⟩
  refine Meets.of (plainFor_of_name (by decide)) (Nat.le_of_ble_eq_true rfl) (fun X C hX hN hA => ?_)
  refine r_aload_n C dX8_blame_0 rfl ?_
  refine r_iload_n C dX8_blame_1 rfl ?_
  refine r_cVi C dX8_blame_2 mlX8_132 kX8_isExample (n_isExample (p := p) hp (by omega)) hp.o rfl rfl rfl (Nat.le_of_ble_eq_true rfl) (fit hX (by decide)) ?_
  refine r_if_eq (tgt := 16) C dX8_blame_5 (by decide) (fun hc5 => ?_) (fun hc5 => ?_)
  · have hno := (not_congr hba.ex).mp (zb_0.mp hc5)
    rw [aBlame_1 (fun z => hno ⟨z.1, z.2.1, z.2.2.1⟩)]
    refine r_iconst C dX8_blame_16 (by decide) ?_
    exact r_iret C dX8_blame_17 (by decide) (by decide) ⟨_, rfl, rfl, hm, Kp.rf⟩
  obtain ⟨x0, x1, x2⟩ := hba.ex.mp (zb_n0.mp hc5)
  refine r_aload_n C dX8_blame_8 rfl ?_
  refine r_iload_n C dX8_blame_9 rfl ?_
  refine r_cVi C dX8_blame_10 mlX8_100 kX8_isVersion (n_isVersion (v := v) hp (by omega)) hp.o rfl rfl rfl (Nat.le_of_ble_eq_true rfl) (fit hX (by decide)) ?_
  refine r_if_ne (tgt := 18) C dX8_blame_13 (by decide) (fun hc13 => ?_) (fun hc13 => ?_)
  rotate_left
  · have hno := zb_0.mp hc13
    rw [aBlame_1 (fun z => hno ⟨z.2.2.2.1, by have := z.2.2.2.2; omega⟩)]
    refine r_iconst C dX8_blame_16 (by decide) ?_
    exact r_iret C dX8_blame_17 (by decide) (by decide) ⟨_, rfl, rfl, hm, Kp.rf⟩
  have hvv := zb_n0.mp hc13
  have hpv : okPV vs pg tl p v := ⟨x0, x1, x2, hvv.1, by omega⟩
  refine r_iload_n C dX8_blame_18 rfl ?_
  refine r_if_eq (tgt := 31) C dX8_blame_19 (by decide) (fun hc19 => ?_) (fun hc19 => ?_)
  · rw [aBlame_2 hpv (Or.inl hc19)]
    refine r_bipush C dX8_blame_31 (by decide) ?_
    exact r_iret C dX8_blame_33 (by decide) (by decide) ⟨_, rfl, rfl, hm, Kp.rf⟩
  refine r_aload_n C dX8_blame_22 rfl ?_
  refine r_iload_n C dX8_blame_23 rfl ?_
  refine r_iload_n C dX8_blame_24 rfl ?_
  refine r_cVx C dX8_blame_25 mlX8_135 kX8_holdsIn (n_holdsIn (p := p) (v := v) hp hba hsz x0 x1 x2 hvv.1 (by omega)) hp.o rfl rfl rfl (Nat.le_of_ble_eq_true rfl) (fit hX (by decide)) ?_
  rintro z h1 ⟨hz, g1, k1⟩
  rw [hz]
  refine r_if_eq (tgt := 34) C dX8_blame_28 (by decide) (fun hc28 => ?_) (fun hc28 => ?_)
  rotate_left
  · rw [aBlame_2 hpv (Or.inr (zb_n0.mp hc28))]
    refine r_bipush C dX8_blame_31 (by decide) ?_
    exact r_iret C dX8_blame_33 (by decide) (by decide) ⟨_, rfl, rfl, hRM h1 g1, k1⟩
  rw [aBlame_3 hpv (fun q => q.elim hc19 (zb_0.mp hc28))]
  obtain ⟨P, hP⟩ : ∃ P : Int → Prop, P = fun s => (evB mn tx v s p).1 = du p := ⟨_, rfl⟩
  rw [← hP]
  have hPe : ∀ s, P s ↔ (evB mn tx v s p).1 = du p := fun s => by rw [hP]
  obtain ⟨PQ, hPQ⟩ : ∃ PQ : State → Prop, PQ = Qm X (pX (fun z h' => z = (blN P 255).1 ∧ RM h' m pn pf vs pg mn tx tl du kp im ∧ Kp SM h h')) 0 0 := ⟨_, rfl⟩
  rw [← hPQ]
  obtain ⟨c1, c2, c3, c4, -⟩ := n_pgt hba hsz x0 x1 x2
  have loop : ∀ (j i : Nat) (h' : Pic) (o5 : Option Va), i ≤ 255 → 255 - i < j → (∃ pd us gi op pA pS pH bV, MP h' m A vs pg pd us gi op th la lv sl T S M tL dU rs pA pS pH bV be dO hB sA nO mI mK) → Kp SM h h' → Go X PQ 0 0 h' 40 [some (vR m), some (vI p), some (vI v), some (vI (bmN P i)), some (vI ((i : Int) + 1)), o5] [] := by
    intro j
    induction j with
    | zero => intro i h' o5 g1 g2; exact absurd g2 (by omega)
    | succ j ih =>
      intro i h' o5 g1 g2 g3 k'
      refine r_iload C dX8_blame_40 rfl ?_
      refine r_sipush C dX8_blame_42 (by decide) ?_
      refine r_icmp_ge (tgt := 117) C dX8_blame_45 (by decide) (fun hc45 => ?_) (fun hc45 => ?_)
      · have hi : i = 255 := by omega
        subst hi
        rcases bm_bl (P := P) 255 (by omega) with ⟨a1, a2⟩ | ⟨a1, a2⟩
        · rw [a1]
          refine r_iload_n C dX8_blame_117 rfl ?_
          refine r_if_ge (tgt := 126) C dX8_blame_118 (by decide) (fun hc118 => ?_) (fun hc118 => ?_)
          · exact absurd hc118 (by decide)
          refine r_bipush C dX8_blame_121 (by decide) ?_
          refine r_goto (tgt := 127) C dX8_blame_123 (by decide) ?_
          rw [hPQ]
          exact r_iret C dX8_blame_127 (by decide) (by decide) ⟨_, rfl, by rw [a2], hRM h' g3, k'⟩
        · refine r_iload_n C dX8_blame_117 rfl ?_
          refine r_if_ge (tgt := 126) C dX8_blame_118 (by decide) (fun hc118 => ?_) (fun hc118 => ?_)
          · refine r_iload_n C dX8_blame_126 rfl ?_
            rw [hPQ]
            exact r_iret C dX8_blame_127 (by decide) (by decide) ⟨_, rfl, by rw [a2], hRM h' g3, k'⟩
          · exact absurd a1 (by omega)
      have hnext : ∀ (h2 : Pic) (b : Int) (o5 : Option Va), (∃ pd us gi op pA pS pH bV, MP h2 m A vs pg pd us gi op th la lv sl T S M tL dU rs pA pS pH bV be dO hB sA nO mI mK) → Kp SM h h2 → bmN P (i + 1) = b → Go X PQ 0 0 h2 111 [some (vR m), some (vI p), some (vI v), some (vI b), some (vI ((i : Int) + 1)), o5] [] := by
        intro h2 b o5 q1 q2 q3
        have hz := ih (i + 1) h2 o5 (by omega) (by omega) q1 q2
        rw [q3] at hz
        refine r_iinc C dX8_blame_111 rfl (by decide) (by omega) ?_
        refine r_goto (tgt := 40) C dX8_blame_114 (by decide) ?_
        exact hz
      have hdo : (bmN P i < 0 ∨ cnt ((i : Int) + 1) < cnt (bmN P i)) → Go X PQ 0 0 h' 64 [some (vR m), some (vI p), some (vI v), some (vI (bmN P i)), some (vI ((i : Int) + 1)), o5] [] := by
        intro hq
        obtain ⟨pd', us', gi', op', pA', pS', pH', bV', hp'⟩ := g3
        have inner : ∀ (jj : Nat) (w : Int) (h2 : Pic) (bV2 : Int → Int), 0 ≤ w → w ≤ 8 → 8 - w < jj → MP h2 m A vs pg pd' us' gi' op' th la lv sl T S M tL dU rs pA' pS' pH' bV2 be dO hB sA nO mI mK → Kp SM h h2 → (∀ u, 0 ≤ u → u < w → bV2 u = v - bAnd (bShr ((i : Int) + 1) u) 1) → Go X PQ 0 0 h2 67 [some (vR m), some (vI p), some (vI v), some (vI (bmN P i)), some (vI ((i : Int) + 1)), some (vI w)] [] := by
          intro jj
          induction jj with
          | zero => intro w h2 bV2 d1 d2 d3; exact absurd d3 (by omega)
          | succ jj ihj =>
            intro w h2 bV2 d1 d2 d3 hp2 k2 hbv
            refine r_iload C dX8_blame_67 rfl ?_
            refine r_bipush C dX8_blame_69 (by decide) ?_
            refine r_icmp_ge (tgt := 96) C dX8_blame_71 (by decide) (fun hc71 => ?_) (fun hc71 => ?_)
            · have hw : ∀ w, 0 ≤ w → w < 8 → 0 ≤ bV2 w ∧ bV2 w ≤ 5 ∧ (M (8 * bV2 w + w) = 0 ∨ GT M T S (8 * bV2 w + w)) ∧ M (8 * bV2 w + w) = mn (bkS v ((i : Int) + 1) w) ∧ ∀ k, 0 ≤ k → k < mn (bkS v ((i : Int) + 1) w) → sx T (8 * bV2 w + w) k = tx (bkS v ((i : Int) + 1) w) k := fun w w0 w1 => by
                have hb := bit_01 (x := (i : Int) + 1) w0 (show w < 32 by omega)
                have hbw := hbv w w0 (by omega)
                have e : 8 * bV2 w + w = bkS v ((i : Int) + 1) w := by rw [hbw]; rfl
                have hr : 0 ≤ 8 * bV2 w + w ∧ 8 * bV2 w + w < 48 := by omega
                obtain ⟨a1, -, -, -, a5⟩ := hba.t hr.1 (by omega)
                have hg := hba.gt hsz hr.1 (by omega)
                rw [e] at a1 a5 hg ⊢
                exact ⟨by omega, by omega, hg, a1, a5⟩
              refine r_aload_n C dX8_blame_96 rfl ?_
              refine r_iload_n C dX8_blame_97 rfl ?_
              refine r_cVx C dX8_blame_98 mlX8_129 kX8_holds (n_holds (p := p) (n := mn (48 + p)) (f := tx (48 + p)) (d := du p) (wn := fun w => mn (bkS v ((i : Int) + 1) w)) (wt := fun w => tx (bkS v ((i : Int) + 1) w)) hp2 x0 (by omega) c1 hw c2 c3 c4) hp2.o rfl rfl rfl (Nat.le_of_ble_eq_true rfl) (fit hX (by decide)) ?_
              rintro z h3 ⟨hz, ⟨pd3, us3, gi3, op3, pA3, pS3, pH3, hp3⟩, k3⟩
              rw [hz]
              refine r_if_eq (tgt := 109) C dX8_blame_101 (by decide) (fun hc101 => ?_) (fun hc101 => ?_)
              · refine r_iload_n C dX8_blame_109 rfl ?_
                refine r_istore_n C dX8_blame_110 (by decide) ?_
                exact hnext h3 _ _ ⟨_, _, _, _, _, _, _, _, hp3⟩ (k2.tr k3) (bmN_f (fun q => zb_0.mp hc101 ((hPe _).mp q.2)))
              · refine r_iload C dX8_blame_104 rfl ?_
                refine r_goto (tgt := 110) C dX8_blame_106 (by decide) ?_
                refine r_istore_n C dX8_blame_110 (by decide) ?_
                exact hnext h3 _ _ ⟨_, _, _, _, _, _, _, _, hp3⟩ (k2.tr k3) (bmN_t hq ((hPe _).mpr (zb_n0.mp hc101)))
            have hb := bit_01 (x := (i : Int) + 1) d1 (show w < 32 by omega)
            refine r_aload_n C dX8_blame_74 rfl ?_
            refine r_get C dX8_blame_75 flX8_37 hp2.o rfl ?_
            refine r_iload C dX8_blame_78 rfl ?_
            refine r_iload_n C dX8_blame_80 rfl ?_
            refine r_iload C dX8_blame_81 rfl ?_
            refine r_iload C dX8_blame_83 rfl ?_
            refine r_ishr C dX8_blame_85 ?_
            refine r_iconst C dX8_blame_86 (by decide) ?_
            refine r_iand C dX8_blame_87 ?_
            refine r_isub C dX8_blame_88 (by omega) ?_
            refine w_bV C dX8_blame_89 hp2 (by omega) (by omega) (fun h3 hp3 k3 => ?_)
            refine r_iinc C dX8_blame_90 rfl (by decide) (by omega) ?_
            refine r_goto (tgt := 67) C dX8_blame_93 (by decide) ?_
            refine ihj (w + 1) h3 _ (by omega) (by omega) (by omega) hp3 (k2.tr (k3.mono (fun t q => by omega))) (fun u u0 u1 => ?_)
            by_cases hu : u = w
            · rw [hu, fu_s]
            · rw [fu_n hu]; exact hbv u u0 (by omega)
        refine r_iconst C dX8_blame_64 (by decide) ?_
        refine r_istore C dX8_blame_65 (by decide) ?_
        exact inner 9 0 h' bV' (by omega) (by omega) (by omega) hp' k' (fun u u0 u1 => by omega)
      refine r_iload_n C dX8_blame_48 rfl ?_
      refine r_if_lt (tgt := 64) C dX8_blame_49 (by decide) (fun hc49 => ?_) (fun hc49 => ?_)
      · exact hdo (Or.inl hc49)
      refine r_iload C dX8_blame_52 rfl ?_
      refine r_cSi C dX8_blame_54 mlX8_139 kX8_bits (n_bits (s := (i : Int) + 1)) rfl rfl (Nat.le_of_ble_eq_true rfl) (fit hX (by decide)) ?_
      refine r_iload_n C dX8_blame_57 rfl ?_
      refine r_cSi C dX8_blame_58 mlX8_139 kX8_bits (n_bits (s := bmN P i)) rfl rfl (Nat.le_of_ble_eq_true rfl) (fit hX (by decide)) ?_
      refine r_icmp_ge (tgt := 111) C dX8_blame_61 (by decide) (fun hc61 => ?_) (fun hc61 => ?_)
      · exact hnext h' _ _ g3 k' (bmN_f (fun q => absurd q.1 (by omega)))
      · exact hdo (Or.inr hc61)
  refine r_bipush C dX8_blame_34 (by decide) ?_
  refine r_istore_n C dX8_blame_36 (by decide) ?_
  refine r_iconst C dX8_blame_37 (by decide) ?_
  refine r_istore C dX8_blame_38 (by decide) ?_
  exact loop 256 0 h1 none (by omega) (by omega) g1 k1
end
