/-! the law -/
section
variable {h h' : Pic} {x m : Nat} {pn : Int} {pf : Int → Int} {vs pg : Int} {mn : Int → Int} {tx : Int → Int → Int} {tl du kp : Int → Int} {im : Int → Bs}
theorem RC.o (hc : RC h x pn pf vs pg mn tx tl du kp im) : ∃ fs, h x = some (ob 7 7 fs) := by
  obtain ⟨pad, pb, tr, bk, ims, kpa, rk, ao, al, ne, i0, i1, nb, z1, z2, z3, gp, kf, kn, cs, kn2, no, f, fi, c, hra, -⟩ := hc
  exact ⟨_, hra.1.1⟩
theorem RC.kept {S : Nat → Prop} (hc : RC h x pn pf vs pg mn tx tl du kp im) (k : Kp S h h') (hs : ∀ t, t < 60 → ¬ S t) : RC h' x pn pf vs pg mn tx tl du kp im := by
  obtain ⟨pad, pb, tr, bk, ims, kpa, rk, ao, al, ne, i0, i1, nb, z1, z2, z3, gp, kf, kn, cs, kn2, no, f, fi, c, hra, htr, hb, ho, hl, hos, hne⟩ := hc
  exact ⟨pad, pb, tr, bk, ims, kpa, rk, ao, al, ne, i0, i1, nb, z1, z2, z3, gp, kf, kn, cs, kn2, no, f, fi, c, hra.kp k (fun t q => hs t (by omega)) (fun t q1 q2 => hs t (by omega)) (fun t q1 q2 => hs t (by omega)), htr.kp k (hs _ (by omega)) (hs _ (by omega)), hb.kp k (hs _ (by omega)) (hs _ (by omega)) (fun t q1 q2 => hs t (by omega)), ho.kp k (fun t q1 q2 => hs t (by omega)), hl.kp k (fun t q1 q2 => hs t (by omega)), hos, hne.kp k (hs _ (by omega)) (hs _ (by omega))⟩
theorem RM.kept {S_ : Nat → Prop} (hm : RM h m pn pf vs pg mn tx tl du kp im) (k : Kp S_ h h') (hs : ∀ t, 60 ≤ t → ¬ S_ t) : RM h' m pn pf vs pg mn tx tl du kp im := by
  obtain ⟨A, pd, us, gi, op, th, la, lv, sl, T, S, M, tL, dU, rs, pA, pS, pH, bV, be, dO, hB, sA, nO, mI, mK, hp, hr⟩ := hm
  exact ⟨A, pd, us, gi, op, th, la, lv, sl, T, S, M, tL, dU, rs, pA, pS, pH, bV, be, dO, hB, sA, nO, mI, mK, hp.kp k hs, hr⟩
theorem RM.IB (hm : RM h m pn pf vs pg mn tx tl du kp im) : IB vs pg mn tx tl du := by
  obtain ⟨A, pd, us, gi, op, th, la, lv, sl, T, S, M, tL, dU, rs, pA, pS, pH, bV, be, dO, hB, sA, nO, mI, mK, hp, hpt, hba, hr⟩ := hm
  exact hba.IB
end
section
variable {X : Ctx} {Q : State → Prop} {k n : Nat} {h : Pic} {pc : Nat} {L : List (Option Va)} {st : List Va} {cc : ByteArray} {nL : Nat} {own : String} {ret : Option FieldType}
theorem r_sld {b N : Nat} {xs : Nat → Int32} {i : Int} (C : Cx X cc nL own ret) (hd : decode cc pc = .ok (.iaload, 1)) (hX : va_X b N xs X.2.1.1 X.2.1.1.heap) (hbl : b < X.2.1.1.heap.size) (hbA : ¬ X.2.2.2.2 ≤ b) (h0 : 0 ≤ i) (h1 : i < (N : Int)) (kk : Go X Q k n h (pc + 1) L (vI (xs i.toNat).toInt :: st)) : Go X Q k n h pc L (vI i :: vR b :: st) := fun H locs ls hP hS hL hR => by
  have hi : Rg i := Rh hR
  have hin : vp_in (Int32.ofInt i) N := o_in (n := (N : Int)) h0 h1 hi
  refine va_sld C.1 C.2.1 hX hbl hbA hS hin hd ?_
  have K := kk H locs ls hP hS hL (Rc (v := vI (xs i.toNat).toInt) (b_rg _) (Rt (Rt hR)))
  have e : (vI (xs i.toNat).toInt :: st).map cv = .int (xs i.toNat) :: st.map cv := by
    show Value.int (Int32.ofInt (xs i.toNat).toInt) :: _ = _
    rw [Int32.ofInt_toInt]
  rw [e] at K
  rw [o_clamp hi]
  exact K
theorem r_slen {b N : Nat} {xs : Nat → Int32} (C : Cx X cc nL own ret) (hd : decode cc pc = .ok (.arraylength, 1)) (hX : va_X b N xs X.2.1.1 X.2.1.1.heap) (hbl : b < X.2.1.1.heap.size) (hbA : ¬ X.2.2.2.2 ≤ b) (hN : N ≤ 2048) (kk : Go X Q k n h (pc + 1) L (vI (N : Int) :: st)) : Go X Q k n h pc L (vR b :: st) := fun H locs ls hP hS hL hR => by
  refine va_slen C.1 C.2.1 hX hbl hbA hS hd ?_
  have K := kk H locs ls hP hS hL (Rc (v := vI (N : Int)) (by show Rg (N : Int); omega) (Rt hR))
  have e : (vI (N : Int) :: st).map cv = .int (Int32.ofNat N) :: st.map cv := by
    show Value.int (Int32.ofInt (N : Int)) :: _ = _
    rw [Int32.ofInt_eq_ofNat]
  rw [e] at K
  exact K
end
theorem and_31 (z : Int) : 0 ≤ bAnd z 31 ∧ bAnd z 31 ≤ 31 := by
  have e : bAnd z 31 = bAnd 31 z := tb_ext (b_rg _) (b_rg _) (fun i _ => by rw [tb_and, tb_and, Bool.and_comm])
  rw [e]
  exact and_rng z (by omega) (by omega)
theorem lw_fit {X : Ctx} {d bL mc ms k n : Nat} (hX : X.1.2.2.2 = room_1) (q : d ≤ 200 ∧ bL ≤ 21 ∧ k + mc ≤ 600000 ∧ n + ms ≤ 7302250) : Fits X d bL mc ms k n := by
  unfold Fits
  rw [hX]
  show d + 1 ≤ 2048 ∧ 8 + (bL + 11) + 40 * d ≤ 84000 ∧ k + mc ≤ 600000 ∧ n + ms ≤ 7302250
  omega
section
variable {X : Ctx} {Z : State → Prop}
theorem law_say (C : Cx X cL_law 4 RL (some .boolean)) (hX : X.1.2.2.2 = room_1) {b N : Nat} {xs : Nat → Int32} (hxs : va_X b N xs X.2.1.1 X.2.1.1.heap) (hbl : b < X.2.1.1.heap.size) (hbA : ¬ X.2.2.2.2 ≤ b) {x m k n : Nat} {i : Int} (hi0 : 0 ≤ i) (hi1 : i + 4 ≤ (N : Int)) (hN : N ≤ 2048) (hk : k + 2 ≤ 600000) (hn : n + 42 ≤ 7302250) {h : Pic} {pn : Int} {pf : Int → Int} {vs pg : Int} {mn : Int → Int} {tx : Int → Int → Int} {tl du kp : Int → Int} {im : Int → Bs} (hc : RC h x pn pf vs pg mn tx tl du kp im) (hm : RM h m pn pf vs pg mn tx tl du kp im) (nx : ∀ (k' n' : Nat) (h' : Pic) (pn : Int) (pf : Int → Int) (vs pg : Int) (mn : Int → Int) (tx : Int → Int → Int) (tl du kp : Int → Int) (im : Int → Bs), k' ≤ k + 2 → n' ≤ n + 42 → RC h' x pn pf vs pg mn tx tl du kp im → RM h' m pn pf vs pg mn tx tl du kp im → Go X Z k' n' h' 803 [some (vR b), some (vR x), some (vR m), some (vI i)] []) : Go X Z k n h 148 [some (vR b), some (vR x), some (vR m), some (vI i)] [] := by
  obtain ⟨fs, ho⟩ := hc.o
  refine r_aload_n C dL_law_148 rfl ?_
  refine r_aload_n C dL_law_149 rfl ?_
  refine r_iload_n C dL_law_150 rfl ?_
  refine r_iconst C dL_law_151 (by decide) ?_
  refine r_iadd C dL_law_152 (by omega) ?_
  refine r_sld C dL_law_153 hxs hbl hbA (by omega) (by omega) ?_
  refine r_cVx C dL_law_154 mlL_13 kX7_say (C_say (s := (xs (i + 1).toNat).toInt) hc) ho rfl rfl rfl (Nat.le_of_ble_eq_true rfl) (lw_fit hX (by omega)) ?_
  rintro z1 h1 ⟨hz1, hc1, k1⟩
  have hm1 := hm.kept k1 (fun t q1 q2 => by omega)
  obtain ⟨fs2, ho2⟩ := hm1.o
  refine r_aload_n C dL_law_157 rfl ?_
  refine r_aload_n C dL_law_158 rfl ?_
  refine r_iload_n C dL_law_159 rfl ?_
  refine r_iconst C dL_law_160 (by decide) ?_
  refine r_iadd C dL_law_161 (by omega) ?_
  refine r_sld C dL_law_162 hxs hbl hbA (by omega) (by omega) ?_
  refine r_cVx C dL_law_163 mlL_17 kX8_say (N_say (s := (xs (i + 1).toNat).toInt) hm1) ho2 rfl rfl rfl (Nat.le_of_ble_eq_true rfl) (lw_fit hX (by omega)) ?_
  rintro z2 h2 ⟨hz2, hm2, k2⟩
  have hc2 := hc1.kept k2 (fun t q1 q2 => by omega)
  refine r_icmp_eq (tgt := 803) C dL_law_166 (by decide) (fun _ => ?_) (fun q => absurd (hz1.trans hz2.symm) q)
  exact nx _ _ _ _ _ _ _ _ _ _ _ _ _ (by omega) (by omega) hc2 hm2
theorem law_wipe (C : Cx X cL_law 4 RL (some .boolean)) (hX : X.1.2.2.2 = room_1) {b N : Nat} {xs : Nat → Int32} (hxs : va_X b N xs X.2.1.1 X.2.1.1.heap) (hbl : b < X.2.1.1.heap.size) (hbA : ¬ X.2.2.2.2 ≤ b) {x m k n : Nat} {i : Int} (hi0 : 0 ≤ i) (hi1 : i + 4 ≤ (N : Int)) (hN : N ≤ 2048) (hk : k + 2 ≤ 600000) (hn : n + 42 ≤ 7302250) {h : Pic} {pn : Int} {pf : Int → Int} {vs pg : Int} {mn : Int → Int} {tx : Int → Int → Int} {tl du kp : Int → Int} {im : Int → Bs} (hc : RC h x pn pf vs pg mn tx tl du kp im) (hm : RM h m pn pf vs pg mn tx tl du kp im) (nx : ∀ (k' n' : Nat) (h' : Pic) (pn : Int) (pf : Int → Int) (vs pg : Int) (mn : Int → Int) (tx : Int → Int → Int) (tl du kp : Int → Int) (im : Int → Bs), k' ≤ k + 2 → n' ≤ n + 42 → RC h' x pn pf vs pg mn tx tl du kp im → RM h' m pn pf vs pg mn tx tl du kp im → Go X Z k' n' h' 803 [some (vR b), some (vR x), some (vR m), some (vI i)] []) : Go X Z k n h 171 [some (vR b), some (vR x), some (vR m), some (vI i)] [] := by
  obtain ⟨fs, ho⟩ := hc.o
  refine r_aload_n C dL_law_171 rfl ?_
  refine r_cVx C dL_law_172 mlL_18 kX7_wipe (C_wipe  hc) ho rfl rfl rfl (Nat.le_of_ble_eq_true rfl) (lw_fit hX (by omega)) ?_
  rintro z1 h1 ⟨hz1, hc1, k1⟩
  have hm1 := hm.kept k1 (fun t q1 q2 => by omega)
  obtain ⟨fs2, ho2⟩ := hm1.o
  refine r_aload_n C dL_law_175 rfl ?_
  refine r_cVx C dL_law_176 mlL_22 kX8_wipe (N_wipe  hm1) ho2 rfl rfl rfl (Nat.le_of_ble_eq_true rfl) (lw_fit hX (by omega)) ?_
  rintro z2 h2 ⟨hz2, hm2, k2⟩
  have hc2 := hc1.kept k2 (fun t q1 q2 => by omega)
  refine r_icmp_eq (tgt := 803) C dL_law_179 (by decide) (fun _ => ?_) (fun q => absurd (hz1.trans hz2.symm) q)
  exact nx _ _ _ _ _ _ _ _ _ _ _ _ _ (by omega) (by omega) hc2 hm2
theorem law_fault (C : Cx X cL_law 4 RL (some .boolean)) (hX : X.1.2.2.2 = room_1) {b N : Nat} {xs : Nat → Int32} (hxs : va_X b N xs X.2.1.1 X.2.1.1.heap) (hbl : b < X.2.1.1.heap.size) (hbA : ¬ X.2.2.2.2 ≤ b) {x m k n : Nat} {i : Int} (hi0 : 0 ≤ i) (hi1 : i + 4 ≤ (N : Int)) (hN : N ≤ 2048) (hk : k + 2 ≤ 600000) (hn : n + 42 ≤ 7302250) {h : Pic} {pn : Int} {pf : Int → Int} {vs pg : Int} {mn : Int → Int} {tx : Int → Int → Int} {tl du kp : Int → Int} {im : Int → Bs} (hc : RC h x pn pf vs pg mn tx tl du kp im) (hm : RM h m pn pf vs pg mn tx tl du kp im) (nx : ∀ (k' n' : Nat) (h' : Pic) (pn : Int) (pf : Int → Int) (vs pg : Int) (mn : Int → Int) (tx : Int → Int → Int) (tl du kp : Int → Int) (im : Int → Bs), k' ≤ k + 2 → n' ≤ n + 42 → RC h' x pn pf vs pg mn tx tl du kp im → RM h' m pn pf vs pg mn tx tl du kp im → Go X Z k' n' h' 803 [some (vR b), some (vR x), some (vR m), some (vI i)] []) : Go X Z k n h 184 [some (vR b), some (vR x), some (vR m), some (vI i)] [] := by
  obtain ⟨fs, ho⟩ := hc.o
  refine r_aload_n C dL_law_184 rfl ?_
  refine r_cVi C dL_law_185 mlL_23 kX7_fault (C_fault  hc) ho rfl rfl rfl (Nat.le_of_ble_eq_true rfl) (lw_fit hX (by omega)) ?_
  have hc1 := hc
  have hm1 := hm
  obtain ⟨fs2, ho2⟩ := hm1.o
  refine r_aload_n C dL_law_188 rfl ?_
  refine r_cVx C dL_law_189 mlL_26 kX8_fault (N_fault  hm1) ho2 rfl rfl rfl (Nat.le_of_ble_eq_true rfl) (lw_fit hX (by omega)) ?_
  rintro z2 h2 ⟨hz2, hm2, k2⟩
  have hc2 := hc1.kept k2 (fun t q1 q2 => by omega)
  refine r_icmp_eq (tgt := 803) C dL_law_192 (by decide) (fun _ => ?_) (fun q => absurd (hz2.symm) q)
  exact nx _ _ _ _ _ _ _ _ _ _ _ _ _ (by omega) (by omega) hc2 hm2
theorem law_version (C : Cx X cL_law 4 RL (some .boolean)) (hX : X.1.2.2.2 = room_1) {b N : Nat} {xs : Nat → Int32} (hxs : va_X b N xs X.2.1.1 X.2.1.1.heap) (hbl : b < X.2.1.1.heap.size) (hbA : ¬ X.2.2.2.2 ≤ b) {x m k n : Nat} {i : Int} (hi0 : 0 ≤ i) (hi1 : i + 4 ≤ (N : Int)) (hN : N ≤ 2048) (hk : k + 2 ≤ 600000) (hn : n + 42 ≤ 7302250) {h : Pic} {pn : Int} {pf : Int → Int} {vs pg : Int} {mn : Int → Int} {tx : Int → Int → Int} {tl du kp : Int → Int} {im : Int → Bs} (hc : RC h x pn pf vs pg mn tx tl du kp im) (hm : RM h m pn pf vs pg mn tx tl du kp im) (nx : ∀ (k' n' : Nat) (h' : Pic) (pn : Int) (pf : Int → Int) (vs pg : Int) (mn : Int → Int) (tx : Int → Int → Int) (tl du kp : Int → Int) (im : Int → Bs), k' ≤ k + 2 → n' ≤ n + 42 → RC h' x pn pf vs pg mn tx tl du kp im → RM h' m pn pf vs pg mn tx tl du kp im → Go X Z k' n' h' 803 [some (vR b), some (vR x), some (vR m), some (vI i)] []) : Go X Z k n h 197 [some (vR b), some (vR x), some (vR m), some (vI i)] [] := by
  obtain ⟨fs, ho⟩ := hc.o
  refine r_aload_n C dL_law_197 rfl ?_
  refine r_cVx C dL_law_198 mlL_27 kX7_version (C_version  hc hm.IB) ho rfl rfl rfl (Nat.le_of_ble_eq_true rfl) (lw_fit hX (by omega)) ?_
  rintro z1 h1 ⟨hz1, hc1, k1⟩
  have hm1 := hm.kept k1 (fun t q1 q2 => by omega)
  obtain ⟨fs2, ho2⟩ := hm1.o
  refine r_aload_n C dL_law_201 rfl ?_
  refine r_cVx C dL_law_202 mlL_30 kX8_version (N_version  hm1) ho2 rfl rfl rfl (Nat.le_of_ble_eq_true rfl) (lw_fit hX (by omega)) ?_
  rintro z2 h2 ⟨hz2, hm2, k2⟩
  have hc2 := hc1.kept k2 (fun t q1 q2 => by omega)
  refine r_icmp_eq (tgt := 803) C dL_law_205 (by decide) (fun _ => ?_) (fun q => absurd (hz1.trans hz2.symm) q)
  exact nx _ _ _ _ _ _ _ _ _ _ _ _ _ (by omega) (by omega) hc2 hm2
theorem law_word (C : Cx X cL_law 4 RL (some .boolean)) (hX : X.1.2.2.2 = room_1) {b N : Nat} {xs : Nat → Int32} (hxs : va_X b N xs X.2.1.1 X.2.1.1.heap) (hbl : b < X.2.1.1.heap.size) (hbA : ¬ X.2.2.2.2 ≤ b) {x m k n : Nat} {i : Int} (hi0 : 0 ≤ i) (hi1 : i + 4 ≤ (N : Int)) (hN : N ≤ 2048) (hk : k + 2 ≤ 600000) (hn : n + 42 ≤ 7302250) {h : Pic} {pn : Int} {pf : Int → Int} {vs pg : Int} {mn : Int → Int} {tx : Int → Int → Int} {tl du kp : Int → Int} {im : Int → Bs} (hc : RC h x pn pf vs pg mn tx tl du kp im) (hm : RM h m pn pf vs pg mn tx tl du kp im) (nx : ∀ (k' n' : Nat) (h' : Pic) (pn : Int) (pf : Int → Int) (vs pg : Int) (mn : Int → Int) (tx : Int → Int → Int) (tl du kp : Int → Int) (im : Int → Bs), k' ≤ k + 2 → n' ≤ n + 42 → RC h' x pn pf vs pg mn tx tl du kp im → RM h' m pn pf vs pg mn tx tl du kp im → Go X Z k' n' h' 803 [some (vR b), some (vR x), some (vR m), some (vI i)] []) : Go X Z k n h 210 [some (vR b), some (vR x), some (vR m), some (vI i)] [] := by
  obtain ⟨fs, ho⟩ := hc.o
  refine r_aload_n C dL_law_210 rfl ?_
  refine r_aload_n C dL_law_211 rfl ?_
  refine r_iload_n C dL_law_212 rfl ?_
  refine r_iconst C dL_law_213 (by decide) ?_
  refine r_iadd C dL_law_214 (by omega) ?_
  refine r_sld C dL_law_215 hxs hbl hbA (by omega) (by omega) ?_
  refine r_cVx C dL_law_216 mlL_31 kX7_word (C_word (w := (xs (i + 1).toNat).toInt) hc hm.IB) ho rfl rfl rfl (Nat.le_of_ble_eq_true rfl) (lw_fit hX (by omega)) ?_
  rintro z1 h1 ⟨hz1, hc1, k1⟩
  have hm1 := hm.kept k1 (fun t q1 q2 => by omega)
  obtain ⟨fs2, ho2⟩ := hm1.o
  refine r_aload_n C dL_law_219 rfl ?_
  refine r_aload_n C dL_law_220 rfl ?_
  refine r_iload_n C dL_law_221 rfl ?_
  refine r_iconst C dL_law_222 (by decide) ?_
  refine r_iadd C dL_law_223 (by omega) ?_
  refine r_sld C dL_law_224 hxs hbl hbA (by omega) (by omega) ?_
  refine r_cVx C dL_law_225 mlL_34 kX8_word (N_word (w := (xs (i + 1).toNat).toInt) hm1) ho2 rfl rfl rfl (Nat.le_of_ble_eq_true rfl) (lw_fit hX (by omega)) ?_
  rintro z2 h2 ⟨hz2, hm2, k2⟩
  have hc2 := hc1.kept k2 (fun t q1 q2 => by omega)
  refine r_icmp_eq (tgt := 803) C dL_law_228 (by decide) (fun _ => ?_) (fun q => absurd (hz1.trans hz2.symm) q)
  exact nx _ _ _ _ _ _ _ _ _ _ _ _ _ (by omega) (by omega) hc2 hm2
theorem law_written (C : Cx X cL_law 4 RL (some .boolean)) (hX : X.1.2.2.2 = room_1) {b N : Nat} {xs : Nat → Int32} (hxs : va_X b N xs X.2.1.1 X.2.1.1.heap) (hbl : b < X.2.1.1.heap.size) (hbA : ¬ X.2.2.2.2 ≤ b) {x m k n : Nat} {i : Int} (hi0 : 0 ≤ i) (hi1 : i + 4 ≤ (N : Int)) (hN : N ≤ 2048) (hk : k + 2 ≤ 600000) (hn : n + 42 ≤ 7302250) {h : Pic} {pn : Int} {pf : Int → Int} {vs pg : Int} {mn : Int → Int} {tx : Int → Int → Int} {tl du kp : Int → Int} {im : Int → Bs} (hc : RC h x pn pf vs pg mn tx tl du kp im) (hm : RM h m pn pf vs pg mn tx tl du kp im) (nx : ∀ (k' n' : Nat) (h' : Pic) (pn : Int) (pf : Int → Int) (vs pg : Int) (mn : Int → Int) (tx : Int → Int → Int) (tl du kp : Int → Int) (im : Int → Bs), k' ≤ k + 2 → n' ≤ n + 42 → RC h' x pn pf vs pg mn tx tl du kp im → RM h' m pn pf vs pg mn tx tl du kp im → Go X Z k' n' h' 803 [some (vR b), some (vR x), some (vR m), some (vI i)] []) : Go X Z k n h 233 [some (vR b), some (vR x), some (vR m), some (vI i)] [] := by
  obtain ⟨fs, ho⟩ := hc.o
  refine r_aload_n C dL_law_233 rfl ?_
  refine r_aload_n C dL_law_234 rfl ?_
  refine r_iload_n C dL_law_235 rfl ?_
  refine r_iconst C dL_law_236 (by decide) ?_
  refine r_iadd C dL_law_237 (by omega) ?_
  refine r_sld C dL_law_238 hxs hbl hbA (by omega) (by omega) ?_
  refine r_aload_n C dL_law_239 rfl ?_
  refine r_iload_n C dL_law_240 rfl ?_
  refine r_iconst C dL_law_241 (by decide) ?_
  refine r_iadd C dL_law_242 (by omega) ?_
  refine r_sld C dL_law_243 hxs hbl hbA (by omega) (by omega) ?_
  refine r_aload_n C dL_law_244 rfl ?_
  refine r_iload_n C dL_law_245 rfl ?_
  refine r_iconst C dL_law_246 (by decide) ?_
  refine r_iadd C dL_law_247 (by omega) ?_
  refine r_sld C dL_law_248 hxs hbl hbA (by omega) (by omega) ?_
  refine r_cVi C dL_law_249 mlL_35 kX7_written (C_written (v := (xs (i + 1).toNat).toInt) (w := (xs (i + 2).toNat).toInt) (i := (xs (i + 3).toNat).toInt) hc) ho rfl rfl rfl (Nat.le_of_ble_eq_true rfl) (lw_fit hX (by omega)) ?_
  have hc1 := hc
  have hm1 := hm
  obtain ⟨fs2, ho2⟩ := hm1.o
  refine r_aload_n C dL_law_252 rfl ?_
  refine r_aload_n C dL_law_253 rfl ?_
  refine r_iload_n C dL_law_254 rfl ?_
  refine r_iconst C dL_law_255 (by decide) ?_
  refine r_iadd C dL_law_256 (by omega) ?_
  refine r_sld C dL_law_257 hxs hbl hbA (by omega) (by omega) ?_
  refine r_aload_n C dL_law_258 rfl ?_
  refine r_iload_n C dL_law_259 rfl ?_
  refine r_iconst C dL_law_260 (by decide) ?_
  refine r_iadd C dL_law_261 (by omega) ?_
  refine r_sld C dL_law_262 hxs hbl hbA (by omega) (by omega) ?_
  refine r_aload_n C dL_law_263 rfl ?_
  refine r_iload_n C dL_law_264 rfl ?_
  refine r_iconst C dL_law_265 (by decide) ?_
  refine r_iadd C dL_law_266 (by omega) ?_
  refine r_sld C dL_law_267 hxs hbl hbA (by omega) (by omega) ?_
  refine r_cVi C dL_law_268 mlL_39 kX8_written (N_written (v := (xs (i + 1).toNat).toInt) (w := (xs (i + 2).toNat).toInt) (i := (xs (i + 3).toNat).toInt) hm1) ho2 rfl rfl rfl (Nat.le_of_ble_eq_true rfl) (lw_fit hX (by omega)) ?_
  have hc2 := hc1
  have hm2 := hm1
  refine r_icmp_eq (tgt := 803) C dL_law_271 (by decide) (fun _ => ?_) (fun q => absurd (rfl) q)
  exact nx _ _ _ _ _ _ _ _ _ _ _ _ _ (by omega) (by omega) hc2 hm2
theorem law_comes (C : Cx X cL_law 4 RL (some .boolean)) (hX : X.1.2.2.2 = room_1) {b N : Nat} {xs : Nat → Int32} (hxs : va_X b N xs X.2.1.1 X.2.1.1.heap) (hbl : b < X.2.1.1.heap.size) (hbA : ¬ X.2.2.2.2 ≤ b) {x m k n : Nat} {i : Int} (hi0 : 0 ≤ i) (hi1 : i + 4 ≤ (N : Int)) (hN : N ≤ 2048) (hk : k + 2 ≤ 600000) (hn : n + 42 ≤ 7302250) {h : Pic} {pn : Int} {pf : Int → Int} {vs pg : Int} {mn : Int → Int} {tx : Int → Int → Int} {tl du kp : Int → Int} {im : Int → Bs} (hc : RC h x pn pf vs pg mn tx tl du kp im) (hm : RM h m pn pf vs pg mn tx tl du kp im) (nx : ∀ (k' n' : Nat) (h' : Pic) (pn : Int) (pf : Int → Int) (vs pg : Int) (mn : Int → Int) (tx : Int → Int → Int) (tl du kp : Int → Int) (im : Int → Bs), k' ≤ k + 2 → n' ≤ n + 42 → RC h' x pn pf vs pg mn tx tl du kp im → RM h' m pn pf vs pg mn tx tl du kp im → Go X Z k' n' h' 803 [some (vR b), some (vR x), some (vR m), some (vI i)] []) : Go X Z k n h 276 [some (vR b), some (vR x), some (vR m), some (vI i)] [] := by
  obtain ⟨fs, ho⟩ := hc.o
  refine r_aload_n C dL_law_276 rfl ?_
  refine r_aload_n C dL_law_277 rfl ?_
  refine r_iload_n C dL_law_278 rfl ?_
  refine r_iconst C dL_law_279 (by decide) ?_
  refine r_iadd C dL_law_280 (by omega) ?_
  refine r_sld C dL_law_281 hxs hbl hbA (by omega) (by omega) ?_
  refine r_aload_n C dL_law_282 rfl ?_
  refine r_iload_n C dL_law_283 rfl ?_
  refine r_iconst C dL_law_284 (by decide) ?_
  refine r_iadd C dL_law_285 (by omega) ?_
  refine r_sld C dL_law_286 hxs hbl hbA (by omega) (by omega) ?_
  refine r_cVx C dL_law_287 mlL_40 kX7_comes (C_comes (v := (xs (i + 1).toNat).toInt) (g := (xs (i + 2).toNat).toInt) hc hm.IB) ho rfl rfl rfl (Nat.le_of_ble_eq_true rfl) (lw_fit hX (by omega)) ?_
  rintro z1 h1 ⟨hz1, hc1, k1⟩
  have hm1 := hm.kept k1 (fun t q1 q2 => by omega)
  obtain ⟨fs2, ho2⟩ := hm1.o
  refine r_aload_n C dL_law_290 rfl ?_
  refine r_aload_n C dL_law_291 rfl ?_
  refine r_iload_n C dL_law_292 rfl ?_
  refine r_iconst C dL_law_293 (by decide) ?_
  refine r_iadd C dL_law_294 (by omega) ?_
  refine r_sld C dL_law_295 hxs hbl hbA (by omega) (by omega) ?_
  refine r_aload_n C dL_law_296 rfl ?_
  refine r_iload_n C dL_law_297 rfl ?_
  refine r_iconst C dL_law_298 (by decide) ?_
  refine r_iadd C dL_law_299 (by omega) ?_
  refine r_sld C dL_law_300 hxs hbl hbA (by omega) (by omega) ?_
  refine r_cVx C dL_law_301 mlL_44 kX8_comes (N_comes (v := (xs (i + 1).toNat).toInt) (g := (xs (i + 2).toNat).toInt) hm1) ho2 rfl rfl rfl (Nat.le_of_ble_eq_true rfl) (lw_fit hX (by omega)) ?_
  rintro z2 h2 ⟨hz2, hm2, k2⟩
  have hc2 := hc1.kept k2 (fun t q1 q2 => by omega)
  refine r_icmp_eq (tgt := 803) C dL_law_304 (by decide) (fun _ => ?_) (fun q => absurd (hz1.trans hz2.symm) q)
  exact nx _ _ _ _ _ _ _ _ _ _ _ _ _ (by omega) (by omega) hc2 hm2
theorem law_tells (C : Cx X cL_law 4 RL (some .boolean)) (hX : X.1.2.2.2 = room_1) {b N : Nat} {xs : Nat → Int32} (hxs : va_X b N xs X.2.1.1 X.2.1.1.heap) (hbl : b < X.2.1.1.heap.size) (hbA : ¬ X.2.2.2.2 ≤ b) {x m k n : Nat} {i : Int} (hi0 : 0 ≤ i) (hi1 : i + 4 ≤ (N : Int)) (hN : N ≤ 2048) (hk : k + 2 ≤ 600000) (hn : n + 42 ≤ 7302250) {h : Pic} {pn : Int} {pf : Int → Int} {vs pg : Int} {mn : Int → Int} {tx : Int → Int → Int} {tl du kp : Int → Int} {im : Int → Bs} (hc : RC h x pn pf vs pg mn tx tl du kp im) (hm : RM h m pn pf vs pg mn tx tl du kp im) (nx : ∀ (k' n' : Nat) (h' : Pic) (pn : Int) (pf : Int → Int) (vs pg : Int) (mn : Int → Int) (tx : Int → Int → Int) (tl du kp : Int → Int) (im : Int → Bs), k' ≤ k + 2 → n' ≤ n + 42 → RC h' x pn pf vs pg mn tx tl du kp im → RM h' m pn pf vs pg mn tx tl du kp im → Go X Z k' n' h' 803 [some (vR b), some (vR x), some (vR m), some (vI i)] []) : Go X Z k n h 309 [some (vR b), some (vR x), some (vR m), some (vI i)] [] := by
  obtain ⟨fs, ho⟩ := hc.o
  refine r_aload_n C dL_law_309 rfl ?_
  refine r_aload_n C dL_law_310 rfl ?_
  refine r_iload_n C dL_law_311 rfl ?_
  refine r_iconst C dL_law_312 (by decide) ?_
  refine r_iadd C dL_law_313 (by omega) ?_
  refine r_sld C dL_law_314 hxs hbl hbA (by omega) (by omega) ?_
  refine r_cVx C dL_law_315 mlL_45 kX7_tells (C_tells (w := (xs (i + 1).toNat).toInt) hc hm.IB) ho rfl rfl rfl (Nat.le_of_ble_eq_true rfl) (lw_fit hX (by omega)) ?_
  rintro z1 h1 ⟨hz1, hc1, k1⟩
  have hm1 := hm.kept k1 (fun t q1 q2 => by omega)
  obtain ⟨fs2, ho2⟩ := hm1.o
  refine r_aload_n C dL_law_318 rfl ?_
  refine r_aload_n C dL_law_319 rfl ?_
  refine r_iload_n C dL_law_320 rfl ?_
  refine r_iconst C dL_law_321 (by decide) ?_
  refine r_iadd C dL_law_322 (by omega) ?_
  refine r_sld C dL_law_323 hxs hbl hbA (by omega) (by omega) ?_
  refine r_cVx C dL_law_324 mlL_48 kX8_tells (N_tells (w := (xs (i + 1).toNat).toInt) hm1) ho2 rfl rfl rfl (Nat.le_of_ble_eq_true rfl) (lw_fit hX (by omega)) ?_
  rintro z2 h2 ⟨hz2, hm2, k2⟩
  have hc2 := hc1.kept k2 (fun t q1 q2 => by omega)
  refine r_icmp_eq (tgt := 803) C dL_law_327 (by decide) (fun _ => ?_) (fun q => absurd (hz1.trans hz2.symm) q)
  exact nx _ _ _ _ _ _ _ _ _ _ _ _ _ (by omega) (by omega) hc2 hm2
theorem law_shows (C : Cx X cL_law 4 RL (some .boolean)) (hX : X.1.2.2.2 = room_1) {b N : Nat} {xs : Nat → Int32} (hxs : va_X b N xs X.2.1.1 X.2.1.1.heap) (hbl : b < X.2.1.1.heap.size) (hbA : ¬ X.2.2.2.2 ≤ b) {x m k n : Nat} {i : Int} (hi0 : 0 ≤ i) (hi1 : i + 4 ≤ (N : Int)) (hN : N ≤ 2048) (hk : k + 2 ≤ 600000) (hn : n + 42 ≤ 7302250) {h : Pic} {pn : Int} {pf : Int → Int} {vs pg : Int} {mn : Int → Int} {tx : Int → Int → Int} {tl du kp : Int → Int} {im : Int → Bs} (hc : RC h x pn pf vs pg mn tx tl du kp im) (hm : RM h m pn pf vs pg mn tx tl du kp im) (nx : ∀ (k' n' : Nat) (h' : Pic) (pn : Int) (pf : Int → Int) (vs pg : Int) (mn : Int → Int) (tx : Int → Int → Int) (tl du kp : Int → Int) (im : Int → Bs), k' ≤ k + 2 → n' ≤ n + 42 → RC h' x pn pf vs pg mn tx tl du kp im → RM h' m pn pf vs pg mn tx tl du kp im → Go X Z k' n' h' 803 [some (vR b), some (vR x), some (vR m), some (vI i)] []) : Go X Z k n h 332 [some (vR b), some (vR x), some (vR m), some (vI i)] [] := by
  obtain ⟨fs, ho⟩ := hc.o
  refine r_aload_n C dL_law_332 rfl ?_
  refine r_aload_n C dL_law_333 rfl ?_
  refine r_iload_n C dL_law_334 rfl ?_
  refine r_iconst C dL_law_335 (by decide) ?_
  refine r_iadd C dL_law_336 (by omega) ?_
  refine r_sld C dL_law_337 hxs hbl hbA (by omega) (by omega) ?_
  refine r_cVx C dL_law_338 mlL_49 kX7_shows (C_shows (d := (xs (i + 1).toNat).toInt) hc hm.IB) ho rfl rfl rfl (Nat.le_of_ble_eq_true rfl) (lw_fit hX (by omega)) ?_
  rintro z1 h1 ⟨hz1, hc1, k1⟩
  have hm1 := hm.kept k1 (fun t q1 q2 => by omega)
  obtain ⟨fs2, ho2⟩ := hm1.o
  refine r_aload_n C dL_law_341 rfl ?_
  refine r_aload_n C dL_law_342 rfl ?_
  refine r_iload_n C dL_law_343 rfl ?_
  refine r_iconst C dL_law_344 (by decide) ?_
  refine r_iadd C dL_law_345 (by omega) ?_
  refine r_sld C dL_law_346 hxs hbl hbA (by omega) (by omega) ?_
  refine r_cVx C dL_law_347 mlL_52 kX8_shows (N_shows (d := (xs (i + 1).toNat).toInt) hm1) ho2 rfl rfl rfl (Nat.le_of_ble_eq_true rfl) (lw_fit hX (by omega)) ?_
  rintro z2 h2 ⟨hz2, hm2, k2⟩
  have hc2 := hc1.kept k2 (fun t q1 q2 => by omega)
  refine r_icmp_eq (tgt := 803) C dL_law_350 (by decide) (fun _ => ?_) (fun q => absurd (hz1.trans hz2.symm) q)
  exact nx _ _ _ _ _ _ _ _ _ _ _ _ _ (by omega) (by omega) hc2 hm2
theorem law_page (C : Cx X cL_law 4 RL (some .boolean)) (hX : X.1.2.2.2 = room_1) {b N : Nat} {xs : Nat → Int32} (hxs : va_X b N xs X.2.1.1 X.2.1.1.heap) (hbl : b < X.2.1.1.heap.size) (hbA : ¬ X.2.2.2.2 ≤ b) {x m k n : Nat} {i : Int} (hi0 : 0 ≤ i) (hi1 : i + 4 ≤ (N : Int)) (hN : N ≤ 2048) (hk : k + 2 ≤ 600000) (hn : n + 42 ≤ 7302250) {h : Pic} {pn : Int} {pf : Int → Int} {vs pg : Int} {mn : Int → Int} {tx : Int → Int → Int} {tl du kp : Int → Int} {im : Int → Bs} (hc : RC h x pn pf vs pg mn tx tl du kp im) (hm : RM h m pn pf vs pg mn tx tl du kp im) (nx : ∀ (k' n' : Nat) (h' : Pic) (pn : Int) (pf : Int → Int) (vs pg : Int) (mn : Int → Int) (tx : Int → Int → Int) (tl du kp : Int → Int) (im : Int → Bs), k' ≤ k + 2 → n' ≤ n + 42 → RC h' x pn pf vs pg mn tx tl du kp im → RM h' m pn pf vs pg mn tx tl du kp im → Go X Z k' n' h' 803 [some (vR b), some (vR x), some (vR m), some (vI i)] []) : Go X Z k n h 355 [some (vR b), some (vR x), some (vR m), some (vI i)] [] := by
  obtain ⟨fs, ho⟩ := hc.o
  refine r_aload_n C dL_law_355 rfl ?_
  refine r_aload_n C dL_law_356 rfl ?_
  refine r_iload_n C dL_law_357 rfl ?_
  refine r_iconst C dL_law_358 (by decide) ?_
  refine r_iadd C dL_law_359 (by omega) ?_
  refine r_sld C dL_law_360 hxs hbl hbA (by omega) (by omega) ?_
  refine r_aload_n C dL_law_361 rfl ?_
  refine r_iload_n C dL_law_362 rfl ?_
  refine r_iconst C dL_law_363 (by decide) ?_
  refine r_iadd C dL_law_364 (by omega) ?_
  refine r_sld C dL_law_365 hxs hbl hbA (by omega) (by omega) ?_
  refine r_cVi C dL_law_366 mlL_53 kX7_page (C_page (p := (xs (i + 1).toNat).toInt) (what := (xs (i + 2).toNat).toInt) hc) ho rfl rfl rfl (Nat.le_of_ble_eq_true rfl) (lw_fit hX (by omega)) ?_
  have hc1 := hc
  have hm1 := hm
  obtain ⟨fs2, ho2⟩ := hm1.o
  refine r_aload_n C dL_law_369 rfl ?_
  refine r_aload_n C dL_law_370 rfl ?_
  refine r_iload_n C dL_law_371 rfl ?_
  refine r_iconst C dL_law_372 (by decide) ?_
  refine r_iadd C dL_law_373 (by omega) ?_
  refine r_sld C dL_law_374 hxs hbl hbA (by omega) (by omega) ?_
  refine r_aload_n C dL_law_375 rfl ?_
  refine r_iload_n C dL_law_376 rfl ?_
  refine r_iconst C dL_law_377 (by decide) ?_
  refine r_iadd C dL_law_378 (by omega) ?_
  refine r_sld C dL_law_379 hxs hbl hbA (by omega) (by omega) ?_
  refine r_cVi C dL_law_380 mlL_56 kX8_page (N_page (p := (xs (i + 1).toNat).toInt) (what := (xs (i + 2).toNat).toInt) hm1) ho2 rfl rfl rfl (Nat.le_of_ble_eq_true rfl) (lw_fit hX (by omega)) ?_
  have hc2 := hc1
  have hm2 := hm1
  refine r_icmp_eq (tgt := 803) C dL_law_383 (by decide) (fun _ => ?_) (fun q => absurd (rfl) q)
  exact nx _ _ _ _ _ _ _ _ _ _ _ _ _ (by omega) (by omega) hc2 hm2
theorem law_held (C : Cx X cL_law 4 RL (some .boolean)) (hX : X.1.2.2.2 = room_1) {b N : Nat} {xs : Nat → Int32} (hxs : va_X b N xs X.2.1.1 X.2.1.1.heap) (hbl : b < X.2.1.1.heap.size) (hbA : ¬ X.2.2.2.2 ≤ b) {x m k n : Nat} {i : Int} (hi0 : 0 ≤ i) (hi1 : i + 4 ≤ (N : Int)) (hN : N ≤ 2048) (hk : k + 2 ≤ 600000) (hn : n + 42 ≤ 7302250) {h : Pic} {pn : Int} {pf : Int → Int} {vs pg : Int} {mn : Int → Int} {tx : Int → Int → Int} {tl du kp : Int → Int} {im : Int → Bs} (hc : RC h x pn pf vs pg mn tx tl du kp im) (hm : RM h m pn pf vs pg mn tx tl du kp im) (nx : ∀ (k' n' : Nat) (h' : Pic) (pn : Int) (pf : Int → Int) (vs pg : Int) (mn : Int → Int) (tx : Int → Int → Int) (tl du kp : Int → Int) (im : Int → Bs), k' ≤ k + 2 → n' ≤ n + 42 → RC h' x pn pf vs pg mn tx tl du kp im → RM h' m pn pf vs pg mn tx tl du kp im → Go X Z k' n' h' 803 [some (vR b), some (vR x), some (vR m), some (vI i)] []) : Go X Z k n h 388 [some (vR b), some (vR x), some (vR m), some (vI i)] [] := by
  obtain ⟨fs, ho⟩ := hc.o
  refine r_aload_n C dL_law_388 rfl ?_
  refine r_aload_n C dL_law_389 rfl ?_
  refine r_iload_n C dL_law_390 rfl ?_
  refine r_iconst C dL_law_391 (by decide) ?_
  refine r_iadd C dL_law_392 (by omega) ?_
  refine r_sld C dL_law_393 hxs hbl hbA (by omega) (by omega) ?_
  refine r_aload_n C dL_law_394 rfl ?_
  refine r_iload_n C dL_law_395 rfl ?_
  refine r_iconst C dL_law_396 (by decide) ?_
  refine r_iadd C dL_law_397 (by omega) ?_
  refine r_sld C dL_law_398 hxs hbl hbA (by omega) (by omega) ?_
  refine r_aload_n C dL_law_399 rfl ?_
  refine r_iload_n C dL_law_400 rfl ?_
  refine r_iconst C dL_law_401 (by decide) ?_
  refine r_iadd C dL_law_402 (by omega) ?_
  refine r_sld C dL_law_403 hxs hbl hbA (by omega) (by omega) ?_
  refine r_cVx C dL_law_404 mlL_57 kX7_held (C_held (p := (xs (i + 1).toNat).toInt) (v := (xs (i + 2).toNat).toInt) (what := (xs (i + 3).toNat).toInt) hc hm.IB) ho rfl rfl rfl (Nat.le_of_ble_eq_true rfl) (lw_fit hX (by omega)) ?_
  rintro z1 h1 ⟨hz1, hc1, k1⟩
  have hm1 := hm.kept k1 (fun t q1 q2 => by omega)
  obtain ⟨fs2, ho2⟩ := hm1.o
  refine r_aload_n C dL_law_407 rfl ?_
  refine r_aload_n C dL_law_408 rfl ?_
  refine r_iload_n C dL_law_409 rfl ?_
  refine r_iconst C dL_law_410 (by decide) ?_
  refine r_iadd C dL_law_411 (by omega) ?_
  refine r_sld C dL_law_412 hxs hbl hbA (by omega) (by omega) ?_
  refine r_aload_n C dL_law_413 rfl ?_
  refine r_iload_n C dL_law_414 rfl ?_
  refine r_iconst C dL_law_415 (by decide) ?_
  refine r_iadd C dL_law_416 (by omega) ?_
  refine r_sld C dL_law_417 hxs hbl hbA (by omega) (by omega) ?_
  refine r_aload_n C dL_law_418 rfl ?_
  refine r_iload_n C dL_law_419 rfl ?_
  refine r_iconst C dL_law_420 (by decide) ?_
  refine r_iadd C dL_law_421 (by omega) ?_
  refine r_sld C dL_law_422 hxs hbl hbA (by omega) (by omega) ?_
  refine r_cVx C dL_law_423 mlL_60 kX8_held (N_held (p := (xs (i + 1).toNat).toInt) (v := (xs (i + 2).toNat).toInt) (what := (xs (i + 3).toNat).toInt) hm1) ho2 rfl rfl rfl (Nat.le_of_ble_eq_true rfl) (lw_fit hX (by omega)) ?_
  rintro z2 h2 ⟨hz2, hm2, k2⟩
  have hc2 := hc1.kept k2 (fun t q1 q2 => by omega)
  refine r_icmp_eq (tgt := 803) C dL_law_426 (by decide) (fun _ => ?_) (fun q => absurd (hz1.trans hz2.symm) q)
  exact nx _ _ _ _ _ _ _ _ _ _ _ _ _ (by omega) (by omega) hc2 hm2
theorem law_stale (C : Cx X cL_law 4 RL (some .boolean)) (hX : X.1.2.2.2 = room_1) {b N : Nat} {xs : Nat → Int32} (hxs : va_X b N xs X.2.1.1 X.2.1.1.heap) (hbl : b < X.2.1.1.heap.size) (hbA : ¬ X.2.2.2.2 ≤ b) {x m k n : Nat} {i : Int} (hi0 : 0 ≤ i) (hi1 : i + 4 ≤ (N : Int)) (hN : N ≤ 2048) (hk : k + 2 ≤ 600000) (hn : n + 42 ≤ 7302250) {h : Pic} {pn : Int} {pf : Int → Int} {vs pg : Int} {mn : Int → Int} {tx : Int → Int → Int} {tl du kp : Int → Int} {im : Int → Bs} (hc : RC h x pn pf vs pg mn tx tl du kp im) (hm : RM h m pn pf vs pg mn tx tl du kp im) (nx : ∀ (k' n' : Nat) (h' : Pic) (pn : Int) (pf : Int → Int) (vs pg : Int) (mn : Int → Int) (tx : Int → Int → Int) (tl du kp : Int → Int) (im : Int → Bs), k' ≤ k + 2 → n' ≤ n + 42 → RC h' x pn pf vs pg mn tx tl du kp im → RM h' m pn pf vs pg mn tx tl du kp im → Go X Z k' n' h' 803 [some (vR b), some (vR x), some (vR m), some (vI i)] []) : Go X Z k n h 431 [some (vR b), some (vR x), some (vR m), some (vI i)] [] := by
  obtain ⟨fs, ho⟩ := hc.o
  refine r_aload_n C dL_law_431 rfl ?_
  refine r_aload_n C dL_law_432 rfl ?_
  refine r_iload_n C dL_law_433 rfl ?_
  refine r_iconst C dL_law_434 (by decide) ?_
  refine r_iadd C dL_law_435 (by omega) ?_
  refine r_sld C dL_law_436 hxs hbl hbA (by omega) (by omega) ?_
  refine r_cVx C dL_law_437 mlL_61 kX7_stale (C_stale (p := (xs (i + 1).toNat).toInt) hc hm.IB) ho rfl rfl rfl (Nat.le_of_ble_eq_true rfl) (lw_fit hX (by omega)) ?_
  rintro z1 h1 ⟨hz1, hc1, k1⟩
  have hm1 := hm.kept k1 (fun t q1 q2 => by omega)
  obtain ⟨fs2, ho2⟩ := hm1.o
  refine r_aload_n C dL_law_440 rfl ?_
  refine r_aload_n C dL_law_441 rfl ?_
  refine r_iload_n C dL_law_442 rfl ?_
  refine r_iconst C dL_law_443 (by decide) ?_
  refine r_iadd C dL_law_444 (by omega) ?_
  refine r_sld C dL_law_445 hxs hbl hbA (by omega) (by omega) ?_
  refine r_cVx C dL_law_446 mlL_64 kX8_stale (N_stale (p := (xs (i + 1).toNat).toInt) hm1) ho2 rfl rfl rfl (Nat.le_of_ble_eq_true rfl) (lw_fit hX (by omega)) ?_
  rintro z2 h2 ⟨hz2, hm2, k2⟩
  have hc2 := hc1.kept k2 (fun t q1 q2 => by omega)
  refine r_icmp_eq (tgt := 803) C dL_law_449 (by decide) (fun _ => ?_) (fun q => absurd (hz1.trans hz2.symm) q)
  exact nx _ _ _ _ _ _ _ _ _ _ _ _ _ (by omega) (by omega) hc2 hm2
theorem law_blame (C : Cx X cL_law 4 RL (some .boolean)) (hX : X.1.2.2.2 = room_1) {b N : Nat} {xs : Nat → Int32} (hxs : va_X b N xs X.2.1.1 X.2.1.1.heap) (hbl : b < X.2.1.1.heap.size) (hbA : ¬ X.2.2.2.2 ≤ b) {x m k n : Nat} {i : Int} (hi0 : 0 ≤ i) (hi1 : i + 4 ≤ (N : Int)) (hN : N ≤ 2048) (hk : k + 2 ≤ 600000) (hn : n + 42 ≤ 7302250) {h : Pic} {pn : Int} {pf : Int → Int} {vs pg : Int} {mn : Int → Int} {tx : Int → Int → Int} {tl du kp : Int → Int} {im : Int → Bs} (hc : RC h x pn pf vs pg mn tx tl du kp im) (hm : RM h m pn pf vs pg mn tx tl du kp im) (nx : ∀ (k' n' : Nat) (h' : Pic) (pn : Int) (pf : Int → Int) (vs pg : Int) (mn : Int → Int) (tx : Int → Int → Int) (tl du kp : Int → Int) (im : Int → Bs), k' ≤ k + 2 → n' ≤ n + 42 → RC h' x pn pf vs pg mn tx tl du kp im → RM h' m pn pf vs pg mn tx tl du kp im → Go X Z k' n' h' 803 [some (vR b), some (vR x), some (vR m), some (vI i)] []) : Go X Z k n h 454 [some (vR b), some (vR x), some (vR m), some (vI i)] [] := by
  obtain ⟨fs, ho⟩ := hc.o
  refine r_aload_n C dL_law_454 rfl ?_
  refine r_aload_n C dL_law_455 rfl ?_
  refine r_iload_n C dL_law_456 rfl ?_
  refine r_iconst C dL_law_457 (by decide) ?_
  refine r_iadd C dL_law_458 (by omega) ?_
  refine r_sld C dL_law_459 hxs hbl hbA (by omega) (by omega) ?_
  refine r_aload_n C dL_law_460 rfl ?_
  refine r_iload_n C dL_law_461 rfl ?_
  refine r_iconst C dL_law_462 (by decide) ?_
  refine r_iadd C dL_law_463 (by omega) ?_
  refine r_sld C dL_law_464 hxs hbl hbA (by omega) (by omega) ?_
  refine r_cVx C dL_law_465 mlL_65 kX7_blame (C_blame (p := (xs (i + 1).toNat).toInt) (v := (xs (i + 2).toNat).toInt) hc hm.IB) ho rfl rfl rfl (Nat.le_of_ble_eq_true rfl) (lw_fit hX (by omega)) ?_
  rintro z1 h1 ⟨hz1, hc1, k1⟩
  have hm1 := hm.kept k1 (fun t q1 q2 => by omega)
  obtain ⟨fs2, ho2⟩ := hm1.o
  refine r_aload_n C dL_law_468 rfl ?_
  refine r_aload_n C dL_law_469 rfl ?_
  refine r_iload_n C dL_law_470 rfl ?_
  refine r_iconst C dL_law_471 (by decide) ?_
  refine r_iadd C dL_law_472 (by omega) ?_
  refine r_sld C dL_law_473 hxs hbl hbA (by omega) (by omega) ?_
  refine r_aload_n C dL_law_474 rfl ?_
  refine r_iload_n C dL_law_475 rfl ?_
  refine r_iconst C dL_law_476 (by decide) ?_
  refine r_iadd C dL_law_477 (by omega) ?_
  refine r_sld C dL_law_478 hxs hbl hbA (by omega) (by omega) ?_
  refine r_cVx C dL_law_479 mlL_68 kX8_blame (N_blame (p := (xs (i + 1).toNat).toInt) (v := (xs (i + 2).toNat).toInt) hm1) ho2 rfl rfl rfl (Nat.le_of_ble_eq_true rfl) (lw_fit hX (by omega)) ?_
  rintro z2 h2 ⟨hz2, hm2, k2⟩
  have hc2 := hc1.kept k2 (fun t q1 q2 => by omega)
  refine r_icmp_eq (tgt := 803) C dL_law_482 (by decide) (fun _ => ?_) (fun q => absurd (hz1.trans hz2.symm) q)
  exact nx _ _ _ _ _ _ _ _ _ _ _ _ _ (by omega) (by omega) hc2 hm2
theorem law_order (C : Cx X cL_law 4 RL (some .boolean)) (hX : X.1.2.2.2 = room_1) {b N : Nat} {xs : Nat → Int32} (hxs : va_X b N xs X.2.1.1 X.2.1.1.heap) (hbl : b < X.2.1.1.heap.size) (hbA : ¬ X.2.2.2.2 ≤ b) {x m k n : Nat} {i : Int} (hi0 : 0 ≤ i) (hi1 : i + 4 ≤ (N : Int)) (hN : N ≤ 2048) (hk : k + 2 ≤ 600000) (hn : n + 42 ≤ 7302250) {h : Pic} {pn : Int} {pf : Int → Int} {vs pg : Int} {mn : Int → Int} {tx : Int → Int → Int} {tl du kp : Int → Int} {im : Int → Bs} (hc : RC h x pn pf vs pg mn tx tl du kp im) (hm : RM h m pn pf vs pg mn tx tl du kp im) (nx : ∀ (k' n' : Nat) (h' : Pic) (pn : Int) (pf : Int → Int) (vs pg : Int) (mn : Int → Int) (tx : Int → Int → Int) (tl du kp : Int → Int) (im : Int → Bs), k' ≤ k + 2 → n' ≤ n + 42 → RC h' x pn pf vs pg mn tx tl du kp im → RM h' m pn pf vs pg mn tx tl du kp im → Go X Z k' n' h' 803 [some (vR b), some (vR x), some (vR m), some (vI i)] []) : Go X Z k n h 487 [some (vR b), some (vR x), some (vR m), some (vI i)] [] := by
  obtain ⟨fs, ho⟩ := hc.o
  refine r_aload_n C dL_law_487 rfl ?_
  refine r_aload_n C dL_law_488 rfl ?_
  refine r_iload_n C dL_law_489 rfl ?_
  refine r_iconst C dL_law_490 (by decide) ?_
  refine r_iadd C dL_law_491 (by omega) ?_
  refine r_sld C dL_law_492 hxs hbl hbA (by omega) (by omega) ?_
  refine r_cVi C dL_law_493 mlL_69 kX7_order (C_order (w := (xs (i + 1).toNat).toInt) hc hm.IB) ho rfl rfl rfl (Nat.le_of_ble_eq_true rfl) (lw_fit hX (by omega)) ?_
  have hc1 := hc
  have hm1 := hm
  obtain ⟨fs2, ho2⟩ := hm1.o
  refine r_aload_n C dL_law_496 rfl ?_
  refine r_aload_n C dL_law_497 rfl ?_
  refine r_iload_n C dL_law_498 rfl ?_
  refine r_iconst C dL_law_499 (by decide) ?_
  refine r_iadd C dL_law_500 (by omega) ?_
  refine r_sld C dL_law_501 hxs hbl hbA (by omega) (by omega) ?_
  refine r_cVx C dL_law_502 mlL_72 kX8_order (N_order (w := (xs (i + 1).toNat).toInt) hm1) ho2 rfl rfl rfl (Nat.le_of_ble_eq_true rfl) (lw_fit hX (by omega)) ?_
  rintro z2 h2 ⟨hz2, hm2, k2⟩
  have hc2 := hc1.kept k2 (fun t q1 q2 => by omega)
  refine r_icmp_eq (tgt := 803) C dL_law_505 (by decide) (fun _ => ?_) (fun q => absurd (hz2.symm) q)
  exact nx _ _ _ _ _ _ _ _ _ _ _ _ _ (by omega) (by omega) hc2 hm2
theorem law_cover (C : Cx X cL_law 4 RL (some .boolean)) (hX : X.1.2.2.2 = room_1) {b N : Nat} {xs : Nat → Int32} (hxs : va_X b N xs X.2.1.1 X.2.1.1.heap) (hbl : b < X.2.1.1.heap.size) (hbA : ¬ X.2.2.2.2 ≤ b) {x m k n : Nat} {i : Int} (hi0 : 0 ≤ i) (hi1 : i + 4 ≤ (N : Int)) (hN : N ≤ 2048) (hk : k + 2 ≤ 600000) (hn : n + 42 ≤ 7302250) {h : Pic} {pn : Int} {pf : Int → Int} {vs pg : Int} {mn : Int → Int} {tx : Int → Int → Int} {tl du kp : Int → Int} {im : Int → Bs} (hc : RC h x pn pf vs pg mn tx tl du kp im) (hm : RM h m pn pf vs pg mn tx tl du kp im) (nx : ∀ (k' n' : Nat) (h' : Pic) (pn : Int) (pf : Int → Int) (vs pg : Int) (mn : Int → Int) (tx : Int → Int → Int) (tl du kp : Int → Int) (im : Int → Bs), k' ≤ k + 2 → n' ≤ n + 42 → RC h' x pn pf vs pg mn tx tl du kp im → RM h' m pn pf vs pg mn tx tl du kp im → Go X Z k' n' h' 803 [some (vR b), some (vR x), some (vR m), some (vI i)] []) : Go X Z k n h 510 [some (vR b), some (vR x), some (vR m), some (vI i)] [] := by
  obtain ⟨fs, ho⟩ := hc.o
  refine r_aload_n C dL_law_510 rfl ?_
  refine r_aload_n C dL_law_511 rfl ?_
  refine r_iload_n C dL_law_512 rfl ?_
  refine r_iconst C dL_law_513 (by decide) ?_
  refine r_iadd C dL_law_514 (by omega) ?_
  refine r_sld C dL_law_515 hxs hbl hbA (by omega) (by omega) ?_
  refine r_cVx C dL_law_516 mlL_73 kX7_cover (C_cover (v := (xs (i + 1).toNat).toInt) hc hm.IB) ho rfl rfl rfl (Nat.le_of_ble_eq_true rfl) (lw_fit hX (by omega)) ?_
  rintro z1 h1 ⟨hz1, hc1, k1⟩
  have hm1 := hm.kept k1 (fun t q1 q2 => by omega)
  obtain ⟨fs2, ho2⟩ := hm1.o
  refine r_aload_n C dL_law_519 rfl ?_
  refine r_aload_n C dL_law_520 rfl ?_
  refine r_iload_n C dL_law_521 rfl ?_
  refine r_iconst C dL_law_522 (by decide) ?_
  refine r_iadd C dL_law_523 (by omega) ?_
  refine r_sld C dL_law_524 hxs hbl hbA (by omega) (by omega) ?_
  refine r_cVx C dL_law_525 mlL_76 kX8_cover (N_cover (v := (xs (i + 1).toNat).toInt) hm1) ho2 rfl rfl rfl (Nat.le_of_ble_eq_true rfl) (lw_fit hX (by omega)) ?_
  rintro z2 h2 ⟨hz2, hm2, k2⟩
  have hc2 := hc1.kept k2 (fun t q1 q2 => by omega)
  refine r_icmp_eq (tgt := 803) C dL_law_528 (by decide) (fun _ => ?_) (fun q => absurd (hz1.trans hz2.symm) q)
  exact nx _ _ _ _ _ _ _ _ _ _ _ _ _ (by omega) (by omega) hc2 hm2
theorem law_apart (C : Cx X cL_law 4 RL (some .boolean)) (hX : X.1.2.2.2 = room_1) {b N : Nat} {xs : Nat → Int32} (hxs : va_X b N xs X.2.1.1 X.2.1.1.heap) (hbl : b < X.2.1.1.heap.size) (hbA : ¬ X.2.2.2.2 ≤ b) {x m k n : Nat} {i : Int} (hi0 : 0 ≤ i) (hi1 : i + 4 ≤ (N : Int)) (hN : N ≤ 2048) (hk : k + 2 ≤ 600000) (hn : n + 42 ≤ 7302250) {h : Pic} {pn : Int} {pf : Int → Int} {vs pg : Int} {mn : Int → Int} {tx : Int → Int → Int} {tl du kp : Int → Int} {im : Int → Bs} (hc : RC h x pn pf vs pg mn tx tl du kp im) (hm : RM h m pn pf vs pg mn tx tl du kp im) (nx : ∀ (k' n' : Nat) (h' : Pic) (pn : Int) (pf : Int → Int) (vs pg : Int) (mn : Int → Int) (tx : Int → Int → Int) (tl du kp : Int → Int) (im : Int → Bs), k' ≤ k + 2 → n' ≤ n + 42 → RC h' x pn pf vs pg mn tx tl du kp im → RM h' m pn pf vs pg mn tx tl du kp im → Go X Z k' n' h' 803 [some (vR b), some (vR x), some (vR m), some (vI i)] []) : Go X Z k n h 533 [some (vR b), some (vR x), some (vR m), some (vI i)] [] := by
  obtain ⟨fs, ho⟩ := hc.o
  refine r_aload_n C dL_law_533 rfl ?_
  refine r_cVx C dL_law_534 mlL_77 kX7_apart (C_apart  hc hm.IB) ho rfl rfl rfl (Nat.le_of_ble_eq_true rfl) (lw_fit hX (by omega)) ?_
  rintro z1 h1 ⟨hz1, hc1, k1⟩
  have hm1 := hm.kept k1 (fun t q1 q2 => by omega)
  obtain ⟨fs2, ho2⟩ := hm1.o
  refine r_aload_n C dL_law_537 rfl ?_
  refine r_cVx C dL_law_538 mlL_80 kX8_apart (N_apart  hm1) ho2 rfl rfl rfl (Nat.le_of_ble_eq_true rfl) (lw_fit hX (by omega)) ?_
  rintro z2 h2 ⟨hz2, hm2, k2⟩
  have hc2 := hc1.kept k2 (fun t q1 q2 => by omega)
  refine r_icmp_eq (tgt := 803) C dL_law_541 (by decide) (fun _ => ?_) (fun q => absurd (hz1.trans hz2.symm) q)
  exact nx _ _ _ _ _ _ _ _ _ _ _ _ _ (by omega) (by omega) hc2 hm2
theorem law_slip (C : Cx X cL_law 4 RL (some .boolean)) (hX : X.1.2.2.2 = room_1) {b N : Nat} {xs : Nat → Int32} (hxs : va_X b N xs X.2.1.1 X.2.1.1.heap) (hbl : b < X.2.1.1.heap.size) (hbA : ¬ X.2.2.2.2 ≤ b) {x m k n : Nat} {i : Int} (hi0 : 0 ≤ i) (hi1 : i + 4 ≤ (N : Int)) (hN : N ≤ 2048) (hk : k + 2 ≤ 600000) (hn : n + 42 ≤ 7302250) {h : Pic} {pn : Int} {pf : Int → Int} {vs pg : Int} {mn : Int → Int} {tx : Int → Int → Int} {tl du kp : Int → Int} {im : Int → Bs} (hc : RC h x pn pf vs pg mn tx tl du kp im) (hm : RM h m pn pf vs pg mn tx tl du kp im) (nx : ∀ (k' n' : Nat) (h' : Pic) (pn : Int) (pf : Int → Int) (vs pg : Int) (mn : Int → Int) (tx : Int → Int → Int) (tl du kp : Int → Int) (im : Int → Bs), k' ≤ k + 2 → n' ≤ n + 42 → RC h' x pn pf vs pg mn tx tl du kp im → RM h' m pn pf vs pg mn tx tl du kp im → Go X Z k' n' h' 803 [some (vR b), some (vR x), some (vR m), some (vI i)] []) : Go X Z k n h 546 [some (vR b), some (vR x), some (vR m), some (vI i)] [] := by
  obtain ⟨fs, ho⟩ := hc.o
  refine r_aload_n C dL_law_546 rfl ?_
  refine r_aload_n C dL_law_547 rfl ?_
  refine r_iload_n C dL_law_548 rfl ?_
  refine r_iconst C dL_law_549 (by decide) ?_
  refine r_iadd C dL_law_550 (by omega) ?_
  refine r_sld C dL_law_551 hxs hbl hbA (by omega) (by omega) ?_
  refine r_aload_n C dL_law_552 rfl ?_
  refine r_iload_n C dL_law_553 rfl ?_
  refine r_iconst C dL_law_554 (by decide) ?_
  refine r_iadd C dL_law_555 (by omega) ?_
  refine r_sld C dL_law_556 hxs hbl hbA (by omega) (by omega) ?_
  refine r_cVx C dL_law_557 mlL_81 kX7_slip (C_slip (v := (xs (i + 1).toNat).toInt) (i := (xs (i + 2).toNat).toInt) hc) ho rfl rfl rfl (Nat.le_of_ble_eq_true rfl) (lw_fit hX (by omega)) ?_
  rintro z1 h1 ⟨hz1, hc1, k1⟩
  have hm1 := hm.kept k1 (fun t q1 q2 => by omega)
  obtain ⟨fs2, ho2⟩ := hm1.o
  refine r_aload_n C dL_law_560 rfl ?_
  refine r_aload_n C dL_law_561 rfl ?_
  refine r_iload_n C dL_law_562 rfl ?_
  refine r_iconst C dL_law_563 (by decide) ?_
  refine r_iadd C dL_law_564 (by omega) ?_
  refine r_sld C dL_law_565 hxs hbl hbA (by omega) (by omega) ?_
  refine r_aload_n C dL_law_566 rfl ?_
  refine r_iload_n C dL_law_567 rfl ?_
  refine r_iconst C dL_law_568 (by decide) ?_
  refine r_iadd C dL_law_569 (by omega) ?_
  refine r_sld C dL_law_570 hxs hbl hbA (by omega) (by omega) ?_
  refine r_cVx C dL_law_571 mlL_84 kX8_slip (N_slip (v := (xs (i + 1).toNat).toInt) (i := (xs (i + 2).toNat).toInt) hm1) ho2 rfl rfl rfl (Nat.le_of_ble_eq_true rfl) (lw_fit hX (by omega)) ?_
  rintro z2 h2 ⟨hz2, hm2, k2⟩
  have hc2 := hc1.kept k2 (fun t q1 q2 => by omega)
  refine r_icmp_eq (tgt := 803) C dL_law_574 (by decide) (fun _ => ?_) (fun q => absurd (hz1.trans hz2.symm) q)
  exact nx _ _ _ _ _ _ _ _ _ _ _ _ _ (by omega) (by omega) hc2 hm2
theorem law_noticed (C : Cx X cL_law 4 RL (some .boolean)) (hX : X.1.2.2.2 = room_1) {b N : Nat} {xs : Nat → Int32} (hxs : va_X b N xs X.2.1.1 X.2.1.1.heap) (hbl : b < X.2.1.1.heap.size) (hbA : ¬ X.2.2.2.2 ≤ b) {x m k n : Nat} {i : Int} (hi0 : 0 ≤ i) (hi1 : i + 4 ≤ (N : Int)) (hN : N ≤ 2048) (hk : k + 2 ≤ 600000) (hn : n + 42 ≤ 7302250) {h : Pic} {pn : Int} {pf : Int → Int} {vs pg : Int} {mn : Int → Int} {tx : Int → Int → Int} {tl du kp : Int → Int} {im : Int → Bs} (hc : RC h x pn pf vs pg mn tx tl du kp im) (hm : RM h m pn pf vs pg mn tx tl du kp im) (nx : ∀ (k' n' : Nat) (h' : Pic) (pn : Int) (pf : Int → Int) (vs pg : Int) (mn : Int → Int) (tx : Int → Int → Int) (tl du kp : Int → Int) (im : Int → Bs), k' ≤ k + 2 → n' ≤ n + 42 → RC h' x pn pf vs pg mn tx tl du kp im → RM h' m pn pf vs pg mn tx tl du kp im → Go X Z k' n' h' 803 [some (vR b), some (vR x), some (vR m), some (vI i)] []) : Go X Z k n h 579 [some (vR b), some (vR x), some (vR m), some (vI i)] [] := by
  obtain ⟨fs, ho⟩ := hc.o
  refine r_aload_n C dL_law_579 rfl ?_
  refine r_aload_n C dL_law_580 rfl ?_
  refine r_iload_n C dL_law_581 rfl ?_
  refine r_iconst C dL_law_582 (by decide) ?_
  refine r_iadd C dL_law_583 (by omega) ?_
  refine r_sld C dL_law_584 hxs hbl hbA (by omega) (by omega) ?_
  refine r_aload_n C dL_law_585 rfl ?_
  refine r_iload_n C dL_law_586 rfl ?_
  refine r_iconst C dL_law_587 (by decide) ?_
  refine r_iadd C dL_law_588 (by omega) ?_
  refine r_sld C dL_law_589 hxs hbl hbA (by omega) (by omega) ?_
  refine r_cVx C dL_law_590 mlL_85 kX7_noticed (C_noticed (v := (xs (i + 1).toNat).toInt) (i := (xs (i + 2).toNat).toInt) hc hm.IB) ho rfl rfl rfl (Nat.le_of_ble_eq_true rfl) (lw_fit hX (by omega)) ?_
  rintro z1 h1 ⟨hz1, hc1, k1⟩
  have hm1 := hm.kept k1 (fun t q1 q2 => by omega)
  obtain ⟨fs2, ho2⟩ := hm1.o
  refine r_aload_n C dL_law_593 rfl ?_
  refine r_aload_n C dL_law_594 rfl ?_
  refine r_iload_n C dL_law_595 rfl ?_
  refine r_iconst C dL_law_596 (by decide) ?_
  refine r_iadd C dL_law_597 (by omega) ?_
  refine r_sld C dL_law_598 hxs hbl hbA (by omega) (by omega) ?_
  refine r_aload_n C dL_law_599 rfl ?_
  refine r_iload_n C dL_law_600 rfl ?_
  refine r_iconst C dL_law_601 (by decide) ?_
  refine r_iadd C dL_law_602 (by omega) ?_
  refine r_sld C dL_law_603 hxs hbl hbA (by omega) (by omega) ?_
  refine r_cVx C dL_law_604 mlL_88 kX8_noticed (N_noticed (v := (xs (i + 1).toNat).toInt) (i := (xs (i + 2).toNat).toInt) hm1) ho2 rfl rfl rfl (Nat.le_of_ble_eq_true rfl) (lw_fit hX (by omega)) ?_
  rintro z2 h2 ⟨hz2, hm2, k2⟩
  have hc2 := hc1.kept k2 (fun t q1 q2 => by omega)
  refine r_icmp_eq (tgt := 803) C dL_law_607 (by decide) (fun _ => ?_) (fun q => absurd (hz1.trans hz2.symm) q)
  exact nx _ _ _ _ _ _ _ _ _ _ _ _ _ (by omega) (by omega) hc2 hm2
theorem law_unshown (C : Cx X cL_law 4 RL (some .boolean)) (hX : X.1.2.2.2 = room_1) {b N : Nat} {xs : Nat → Int32} (hxs : va_X b N xs X.2.1.1 X.2.1.1.heap) (hbl : b < X.2.1.1.heap.size) (hbA : ¬ X.2.2.2.2 ≤ b) {x m k n : Nat} {i : Int} (hi0 : 0 ≤ i) (hi1 : i + 4 ≤ (N : Int)) (hN : N ≤ 2048) (hk : k + 2 ≤ 600000) (hn : n + 42 ≤ 7302250) {h : Pic} {pn : Int} {pf : Int → Int} {vs pg : Int} {mn : Int → Int} {tx : Int → Int → Int} {tl du kp : Int → Int} {im : Int → Bs} (hc : RC h x pn pf vs pg mn tx tl du kp im) (hm : RM h m pn pf vs pg mn tx tl du kp im) (nx : ∀ (k' n' : Nat) (h' : Pic) (pn : Int) (pf : Int → Int) (vs pg : Int) (mn : Int → Int) (tx : Int → Int → Int) (tl du kp : Int → Int) (im : Int → Bs), k' ≤ k + 2 → n' ≤ n + 42 → RC h' x pn pf vs pg mn tx tl du kp im → RM h' m pn pf vs pg mn tx tl du kp im → Go X Z k' n' h' 803 [some (vR b), some (vR x), some (vR m), some (vI i)] []) : Go X Z k n h 612 [some (vR b), some (vR x), some (vR m), some (vI i)] [] := by
  obtain ⟨fs, ho⟩ := hc.o
  refine r_aload_n C dL_law_612 rfl ?_
  refine r_aload_n C dL_law_613 rfl ?_
  refine r_iload_n C dL_law_614 rfl ?_
  refine r_iconst C dL_law_615 (by decide) ?_
  refine r_iadd C dL_law_616 (by omega) ?_
  refine r_sld C dL_law_617 hxs hbl hbA (by omega) (by omega) ?_
  refine r_aload_n C dL_law_618 rfl ?_
  refine r_iload_n C dL_law_619 rfl ?_
  refine r_iconst C dL_law_620 (by decide) ?_
  refine r_iadd C dL_law_621 (by omega) ?_
  refine r_sld C dL_law_622 hxs hbl hbA (by omega) (by omega) ?_
  refine r_cVx C dL_law_623 mlL_89 kX7_unshown (C_unshown (v := (xs (i + 1).toNat).toInt) (i := (xs (i + 2).toNat).toInt) hc hm.IB) ho rfl rfl rfl (Nat.le_of_ble_eq_true rfl) (lw_fit hX (by omega)) ?_
  rintro z1 h1 ⟨hz1, hc1, k1⟩
  have hm1 := hm.kept k1 (fun t q1 q2 => by omega)
  obtain ⟨fs2, ho2⟩ := hm1.o
  refine r_aload_n C dL_law_626 rfl ?_
  refine r_aload_n C dL_law_627 rfl ?_
  refine r_iload_n C dL_law_628 rfl ?_
  refine r_iconst C dL_law_629 (by decide) ?_
  refine r_iadd C dL_law_630 (by omega) ?_
  refine r_sld C dL_law_631 hxs hbl hbA (by omega) (by omega) ?_
  refine r_aload_n C dL_law_632 rfl ?_
  refine r_iload_n C dL_law_633 rfl ?_
  refine r_iconst C dL_law_634 (by decide) ?_
  refine r_iadd C dL_law_635 (by omega) ?_
  refine r_sld C dL_law_636 hxs hbl hbA (by omega) (by omega) ?_
  refine r_cVx C dL_law_637 mlL_92 kX8_unshown (N_unshown (v := (xs (i + 1).toNat).toInt) (i := (xs (i + 2).toNat).toInt) hm1) ho2 rfl rfl rfl (Nat.le_of_ble_eq_true rfl) (lw_fit hX (by omega)) ?_
  rintro z2 h2 ⟨hz2, hm2, k2⟩
  have hc2 := hc1.kept k2 (fun t q1 q2 => by omega)
  refine r_icmp_eq (tgt := 803) C dL_law_640 (by decide) (fun _ => ?_) (fun q => absurd (hz1.trans hz2.symm) q)
  exact nx _ _ _ _ _ _ _ _ _ _ _ _ _ (by omega) (by omega) hc2 hm2
theorem law_notice (C : Cx X cL_law 4 RL (some .boolean)) (hX : X.1.2.2.2 = room_1) {b N : Nat} {xs : Nat → Int32} (hxs : va_X b N xs X.2.1.1 X.2.1.1.heap) (hbl : b < X.2.1.1.heap.size) (hbA : ¬ X.2.2.2.2 ≤ b) {x m k n : Nat} {i : Int} (hi0 : 0 ≤ i) (hi1 : i + 4 ≤ (N : Int)) (hN : N ≤ 2048) (hk : k + 2 ≤ 600000) (hn : n + 42 ≤ 7302250) {h : Pic} {pn : Int} {pf : Int → Int} {vs pg : Int} {mn : Int → Int} {tx : Int → Int → Int} {tl du kp : Int → Int} {im : Int → Bs} (hc : RC h x pn pf vs pg mn tx tl du kp im) (hm : RM h m pn pf vs pg mn tx tl du kp im) (nx : ∀ (k' n' : Nat) (h' : Pic) (pn : Int) (pf : Int → Int) (vs pg : Int) (mn : Int → Int) (tx : Int → Int → Int) (tl du kp : Int → Int) (im : Int → Bs), k' ≤ k + 2 → n' ≤ n + 42 → RC h' x pn pf vs pg mn tx tl du kp im → RM h' m pn pf vs pg mn tx tl du kp im → Go X Z k' n' h' 803 [some (vR b), some (vR x), some (vR m), some (vI i)] []) : Go X Z k n h 645 [some (vR b), some (vR x), some (vR m), some (vI i)] [] := by
  obtain ⟨fs, ho⟩ := hc.o
  refine r_aload_n C dL_law_645 rfl ?_
  refine r_aload_n C dL_law_646 rfl ?_
  refine r_iload_n C dL_law_647 rfl ?_
  refine r_iconst C dL_law_648 (by decide) ?_
  refine r_iadd C dL_law_649 (by omega) ?_
  refine r_sld C dL_law_650 hxs hbl hbA (by omega) (by omega) ?_
  refine r_cVx C dL_law_651 mlL_93 kX7_notice (C_notice (v := (xs (i + 1).toNat).toInt) hc hm.IB) ho rfl rfl rfl (Nat.le_of_ble_eq_true rfl) (lw_fit hX (by omega)) ?_
  rintro z1 h1 ⟨hz1, hc1, k1⟩
  have hm1 := hm.kept k1 (fun t q1 q2 => by omega)
  obtain ⟨fs2, ho2⟩ := hm1.o
  refine r_aload_n C dL_law_654 rfl ?_
  refine r_aload_n C dL_law_655 rfl ?_
  refine r_iload_n C dL_law_656 rfl ?_
  refine r_iconst C dL_law_657 (by decide) ?_
  refine r_iadd C dL_law_658 (by omega) ?_
  refine r_sld C dL_law_659 hxs hbl hbA (by omega) (by omega) ?_
  refine r_cVx C dL_law_660 mlL_96 kX8_notice (N_notice (v := (xs (i + 1).toNat).toInt) hm1) ho2 rfl rfl rfl (Nat.le_of_ble_eq_true rfl) (lw_fit hX (by omega)) ?_
  rintro z2 h2 ⟨hz2, hm2, k2⟩
  have hc2 := hc1.kept k2 (fun t q1 q2 => by omega)
  refine r_icmp_eq (tgt := 803) C dL_law_663 (by decide) (fun _ => ?_) (fun q => absurd (hz1.trans hz2.symm) q)
  exact nx _ _ _ _ _ _ _ _ _ _ _ _ _ (by omega) (by omega) hc2 hm2
theorem law_mend (C : Cx X cL_law 4 RL (some .boolean)) (hX : X.1.2.2.2 = room_1) {b N : Nat} {xs : Nat → Int32} (hxs : va_X b N xs X.2.1.1 X.2.1.1.heap) (hbl : b < X.2.1.1.heap.size) (hbA : ¬ X.2.2.2.2 ≤ b) {x m k n : Nat} {i : Int} (hi0 : 0 ≤ i) (hi1 : i + 4 ≤ (N : Int)) (hN : N ≤ 2048) (hk : k + 2 ≤ 600000) (hn : n + 42 ≤ 7302250) {h : Pic} {pn : Int} {pf : Int → Int} {vs pg : Int} {mn : Int → Int} {tx : Int → Int → Int} {tl du kp : Int → Int} {im : Int → Bs} (hc : RC h x pn pf vs pg mn tx tl du kp im) (hm : RM h m pn pf vs pg mn tx tl du kp im) (nx : ∀ (k' n' : Nat) (h' : Pic) (pn : Int) (pf : Int → Int) (vs pg : Int) (mn : Int → Int) (tx : Int → Int → Int) (tl du kp : Int → Int) (im : Int → Bs), k' ≤ k + 2 → n' ≤ n + 42 → RC h' x pn pf vs pg mn tx tl du kp im → RM h' m pn pf vs pg mn tx tl du kp im → Go X Z k' n' h' 803 [some (vR b), some (vR x), some (vR m), some (vI i)] []) : Go X Z k n h 668 [some (vR b), some (vR x), some (vR m), some (vI i)] [] := by
  obtain ⟨fs, ho⟩ := hc.o
  refine r_aload_n C dL_law_668 rfl ?_
  refine r_aload_n C dL_law_669 rfl ?_
  refine r_iload_n C dL_law_670 rfl ?_
  refine r_iconst C dL_law_671 (by decide) ?_
  refine r_iadd C dL_law_672 (by omega) ?_
  refine r_sld C dL_law_673 hxs hbl hbA (by omega) (by omega) ?_
  refine r_aload_n C dL_law_674 rfl ?_
  refine r_iload_n C dL_law_675 rfl ?_
  refine r_iconst C dL_law_676 (by decide) ?_
  refine r_iadd C dL_law_677 (by omega) ?_
  refine r_sld C dL_law_678 hxs hbl hbA (by omega) (by omega) ?_
  refine r_cVx C dL_law_679 mlL_97 kX7_mend (C_mend (p := (xs (i + 1).toNat).toInt) (v := (xs (i + 2).toNat).toInt) hc hm.IB) ho rfl rfl rfl (Nat.le_of_ble_eq_true rfl) (lw_fit hX (by omega)) ?_
  rintro z1 h1 ⟨hz1, hc1, k1⟩
  have hm1 := hm.kept k1 (fun t q1 q2 => by omega)
  obtain ⟨fs2, ho2⟩ := hm1.o
  refine r_aload_n C dL_law_682 rfl ?_
  refine r_aload_n C dL_law_683 rfl ?_
  refine r_iload_n C dL_law_684 rfl ?_
  refine r_iconst C dL_law_685 (by decide) ?_
  refine r_iadd C dL_law_686 (by omega) ?_
  refine r_sld C dL_law_687 hxs hbl hbA (by omega) (by omega) ?_
  refine r_aload_n C dL_law_688 rfl ?_
  refine r_iload_n C dL_law_689 rfl ?_
  refine r_iconst C dL_law_690 (by decide) ?_
  refine r_iadd C dL_law_691 (by omega) ?_
  refine r_sld C dL_law_692 hxs hbl hbA (by omega) (by omega) ?_
  refine r_cVx C dL_law_693 mlL_100 kX8_mend (N_mend (p := (xs (i + 1).toNat).toInt) (v := (xs (i + 2).toNat).toInt) hm1) ho2 rfl rfl rfl (Nat.le_of_ble_eq_true rfl) (lw_fit hX (by omega)) ?_
  rintro z2 h2 ⟨hz2, hm2, k2⟩
  have hc2 := hc1.kept k2 (fun t q1 q2 => by omega)
  refine r_icmp_eq (tgt := 803) C dL_law_696 (by decide) (fun _ => ?_) (fun q => absurd (hz1.trans hz2.symm) q)
  exact nx _ _ _ _ _ _ _ _ _ _ _ _ _ (by omega) (by omega) hc2 hm2
theorem law_instead (C : Cx X cL_law 4 RL (some .boolean)) (hX : X.1.2.2.2 = room_1) {b N : Nat} {xs : Nat → Int32} (hxs : va_X b N xs X.2.1.1 X.2.1.1.heap) (hbl : b < X.2.1.1.heap.size) (hbA : ¬ X.2.2.2.2 ≤ b) {x m k n : Nat} {i : Int} (hi0 : 0 ≤ i) (hi1 : i + 4 ≤ (N : Int)) (hN : N ≤ 2048) (hk : k + 2 ≤ 600000) (hn : n + 42 ≤ 7302250) {h : Pic} {pn : Int} {pf : Int → Int} {vs pg : Int} {mn : Int → Int} {tx : Int → Int → Int} {tl du kp : Int → Int} {im : Int → Bs} (hc : RC h x pn pf vs pg mn tx tl du kp im) (hm : RM h m pn pf vs pg mn tx tl du kp im) (nx : ∀ (k' n' : Nat) (h' : Pic) (pn : Int) (pf : Int → Int) (vs pg : Int) (mn : Int → Int) (tx : Int → Int → Int) (tl du kp : Int → Int) (im : Int → Bs), k' ≤ k + 2 → n' ≤ n + 42 → RC h' x pn pf vs pg mn tx tl du kp im → RM h' m pn pf vs pg mn tx tl du kp im → Go X Z k' n' h' 803 [some (vR b), some (vR x), some (vR m), some (vI i)] []) : Go X Z k n h 701 [some (vR b), some (vR x), some (vR m), some (vI i)] [] := by
  obtain ⟨fs, ho⟩ := hc.o
  refine r_aload_n C dL_law_701 rfl ?_
  refine r_aload_n C dL_law_702 rfl ?_
  refine r_iload_n C dL_law_703 rfl ?_
  refine r_iconst C dL_law_704 (by decide) ?_
  refine r_iadd C dL_law_705 (by omega) ?_
  refine r_sld C dL_law_706 hxs hbl hbA (by omega) (by omega) ?_
  refine r_aload_n C dL_law_707 rfl ?_
  refine r_iload_n C dL_law_708 rfl ?_
  refine r_iconst C dL_law_709 (by decide) ?_
  refine r_iadd C dL_law_710 (by omega) ?_
  refine r_sld C dL_law_711 hxs hbl hbA (by omega) (by omega) ?_
  refine r_cVx C dL_law_712 mlL_101 kX7_instead (C_instead (p := (xs (i + 1).toNat).toInt) (v := (xs (i + 2).toNat).toInt) hc hm.IB) ho rfl rfl rfl (Nat.le_of_ble_eq_true rfl) (lw_fit hX (by omega)) ?_
  rintro z1 h1 ⟨hz1, hc1, k1⟩
  have hm1 := hm.kept k1 (fun t q1 q2 => by omega)
  obtain ⟨fs2, ho2⟩ := hm1.o
  refine r_aload_n C dL_law_715 rfl ?_
  refine r_aload_n C dL_law_716 rfl ?_
  refine r_iload_n C dL_law_717 rfl ?_
  refine r_iconst C dL_law_718 (by decide) ?_
  refine r_iadd C dL_law_719 (by omega) ?_
  refine r_sld C dL_law_720 hxs hbl hbA (by omega) (by omega) ?_
  refine r_aload_n C dL_law_721 rfl ?_
  refine r_iload_n C dL_law_722 rfl ?_
  refine r_iconst C dL_law_723 (by decide) ?_
  refine r_iadd C dL_law_724 (by omega) ?_
  refine r_sld C dL_law_725 hxs hbl hbA (by omega) (by omega) ?_
  refine r_cVx C dL_law_726 mlL_104 kX8_instead (N_instead (p := (xs (i + 1).toNat).toInt) (v := (xs (i + 2).toNat).toInt) hm1) ho2 rfl rfl rfl (Nat.le_of_ble_eq_true rfl) (lw_fit hX (by omega)) ?_
  rintro z2 h2 ⟨hz2, hm2, k2⟩
  have hc2 := hc1.kept k2 (fun t q1 q2 => by omega)
  refine r_icmp_eq (tgt := 803) C dL_law_729 (by decide) (fun _ => ?_) (fun q => absurd (hz1.trans hz2.symm) q)
  exact nx _ _ _ _ _ _ _ _ _ _ _ _ _ (by omega) (by omega) hc2 hm2
theorem law_image (C : Cx X cL_law 4 RL (some .boolean)) (hX : X.1.2.2.2 = room_1) {b N : Nat} {xs : Nat → Int32} (hxs : va_X b N xs X.2.1.1 X.2.1.1.heap) (hbl : b < X.2.1.1.heap.size) (hbA : ¬ X.2.2.2.2 ≤ b) {x m k n : Nat} {i : Int} (hi0 : 0 ≤ i) (hi1 : i + 4 ≤ (N : Int)) (hN : N ≤ 2048) (hk : k + 2 ≤ 600000) (hn : n + 42 ≤ 7302250) {h : Pic} {pn : Int} {pf : Int → Int} {vs pg : Int} {mn : Int → Int} {tx : Int → Int → Int} {tl du kp : Int → Int} {im : Int → Bs} (hc : RC h x pn pf vs pg mn tx tl du kp im) (hm : RM h m pn pf vs pg mn tx tl du kp im) (nx : ∀ (k' n' : Nat) (h' : Pic) (pn : Int) (pf : Int → Int) (vs pg : Int) (mn : Int → Int) (tx : Int → Int → Int) (tl du kp : Int → Int) (im : Int → Bs), k' ≤ k + 2 → n' ≤ n + 42 → RC h' x pn pf vs pg mn tx tl du kp im → RM h' m pn pf vs pg mn tx tl du kp im → Go X Z k' n' h' 803 [some (vR b), some (vR x), some (vR m), some (vI i)] []) : Go X Z k n h 734 [some (vR b), some (vR x), some (vR m), some (vI i)] [] := by
  obtain ⟨fs, ho⟩ := hc.o
  refine r_aload_n C dL_law_734 rfl ?_
  refine r_aload_n C dL_law_735 rfl ?_
  refine r_iload_n C dL_law_736 rfl ?_
  refine r_iconst C dL_law_737 (by decide) ?_
  refine r_iadd C dL_law_738 (by omega) ?_
  refine r_sld C dL_law_739 hxs hbl hbA (by omega) (by omega) ?_
  refine r_cVx C dL_law_740 mlL_105 kX7_image (C_image (n := (xs (i + 1).toNat).toInt) hc) ho rfl rfl rfl (Nat.le_of_ble_eq_true rfl) (lw_fit hX (by omega)) ?_
  rintro z1 h1 ⟨hz1, hc1, k1⟩
  have hm1 := hm.kept k1 (fun t q1 q2 => by omega)
  obtain ⟨fs2, ho2⟩ := hm1.o
  refine r_aload_n C dL_law_743 rfl ?_
  refine r_aload_n C dL_law_744 rfl ?_
  refine r_iload_n C dL_law_745 rfl ?_
  refine r_iconst C dL_law_746 (by decide) ?_
  refine r_iadd C dL_law_747 (by omega) ?_
  refine r_sld C dL_law_748 hxs hbl hbA (by omega) (by omega) ?_
  refine r_cVx C dL_law_749 mlL_108 kX8_image (N_image (n := (xs (i + 1).toNat).toInt) hm1) ho2 rfl rfl rfl (Nat.le_of_ble_eq_true rfl) (lw_fit hX (by omega)) ?_
  rintro z2 h2 ⟨hz2, hm2, k2⟩
  have hc2 := hc1.kept k2 (fun t q1 q2 => by omega)
  refine r_icmp_eq (tgt := 803) C dL_law_752 (by decide) (fun _ => ?_) (fun q => absurd (hz1.trans hz2.symm) q)
  exact nx _ _ _ _ _ _ _ _ _ _ _ _ _ (by omega) (by omega) hc2 hm2
theorem law_restore (C : Cx X cL_law 4 RL (some .boolean)) (hX : X.1.2.2.2 = room_1) {b N : Nat} {xs : Nat → Int32} (hxs : va_X b N xs X.2.1.1 X.2.1.1.heap) (hbl : b < X.2.1.1.heap.size) (hbA : ¬ X.2.2.2.2 ≤ b) {x m k n : Nat} {i : Int} (hi0 : 0 ≤ i) (hi1 : i + 4 ≤ (N : Int)) (hN : N ≤ 2048) (hk : k + 2 ≤ 600000) (hn : n + 42 ≤ 7302250) {h : Pic} {pn : Int} {pf : Int → Int} {vs pg : Int} {mn : Int → Int} {tx : Int → Int → Int} {tl du kp : Int → Int} {im : Int → Bs} (hc : RC h x pn pf vs pg mn tx tl du kp im) (hm : RM h m pn pf vs pg mn tx tl du kp im) (nx : ∀ (k' n' : Nat) (h' : Pic) (pn : Int) (pf : Int → Int) (vs pg : Int) (mn : Int → Int) (tx : Int → Int → Int) (tl du kp : Int → Int) (im : Int → Bs), k' ≤ k + 2 → n' ≤ n + 42 → RC h' x pn pf vs pg mn tx tl du kp im → RM h' m pn pf vs pg mn tx tl du kp im → Go X Z k' n' h' 803 [some (vR b), some (vR x), some (vR m), some (vI i)] []) : Go X Z k n h 757 [some (vR b), some (vR x), some (vR m), some (vI i)] [] := by
  obtain ⟨fs, ho⟩ := hc.o
  refine r_aload_n C dL_law_757 rfl ?_
  refine r_aload_n C dL_law_758 rfl ?_
  refine r_iload_n C dL_law_759 rfl ?_
  refine r_iconst C dL_law_760 (by decide) ?_
  refine r_iadd C dL_law_761 (by omega) ?_
  refine r_sld C dL_law_762 hxs hbl hbA (by omega) (by omega) ?_
  refine r_cVx C dL_law_763 mlL_109 kX7_restore (C_restore (n := (xs (i + 1).toNat).toInt) hc) ho rfl rfl rfl (Nat.le_of_ble_eq_true rfl) (lw_fit hX (by omega)) ?_
  rintro z1 h1 ⟨hz1, hc1, k1⟩
  have hm1 := hm.kept k1 (fun t q1 q2 => by omega)
  obtain ⟨fs2, ho2⟩ := hm1.o
  refine r_aload_n C dL_law_766 rfl ?_
  refine r_aload_n C dL_law_767 rfl ?_
  refine r_iload_n C dL_law_768 rfl ?_
  refine r_iconst C dL_law_769 (by decide) ?_
  refine r_iadd C dL_law_770 (by omega) ?_
  refine r_sld C dL_law_771 hxs hbl hbA (by omega) (by omega) ?_
  refine r_cVx C dL_law_772 mlL_112 kX8_restore (N_restore (n := (xs (i + 1).toNat).toInt) hm1) ho2 rfl rfl rfl (Nat.le_of_ble_eq_true rfl) (lw_fit hX (by omega)) ?_
  rintro z2 h2 ⟨hz2, hm2, k2⟩
  have hc2 := hc1.kept k2 (fun t q1 q2 => by omega)
  refine r_icmp_eq (tgt := 803) C dL_law_775 (by decide) (fun _ => ?_) (fun q => absurd (hz1.trans hz2.symm) q)
  exact nx _ _ _ _ _ _ _ _ _ _ _ _ _ (by omega) (by omega) hc2 hm2
theorem law_told (C : Cx X cL_law 4 RL (some .boolean)) (hX : X.1.2.2.2 = room_1) {b N : Nat} {xs : Nat → Int32} (hxs : va_X b N xs X.2.1.1 X.2.1.1.heap) (hbl : b < X.2.1.1.heap.size) (hbA : ¬ X.2.2.2.2 ≤ b) {x m k n : Nat} {i : Int} (hi0 : 0 ≤ i) (hi1 : i + 4 ≤ (N : Int)) (hN : N ≤ 2048) (hk : k + 2 ≤ 600000) (hn : n + 42 ≤ 7302250) {h : Pic} {pn : Int} {pf : Int → Int} {vs pg : Int} {mn : Int → Int} {tx : Int → Int → Int} {tl du kp : Int → Int} {im : Int → Bs} (hc : RC h x pn pf vs pg mn tx tl du kp im) (hm : RM h m pn pf vs pg mn tx tl du kp im) (nx : ∀ (k' n' : Nat) (h' : Pic) (pn : Int) (pf : Int → Int) (vs pg : Int) (mn : Int → Int) (tx : Int → Int → Int) (tl du kp : Int → Int) (im : Int → Bs), k' ≤ k + 2 → n' ≤ n + 42 → RC h' x pn pf vs pg mn tx tl du kp im → RM h' m pn pf vs pg mn tx tl du kp im → Go X Z k' n' h' 803 [some (vR b), some (vR x), some (vR m), some (vI i)] []) : Go X Z k n h 780 [some (vR b), some (vR x), some (vR m), some (vI i)] [] := by
  obtain ⟨fs, ho⟩ := hc.o
  refine r_aload_n C dL_law_780 rfl ?_
  refine r_aload_n C dL_law_781 rfl ?_
  refine r_iload_n C dL_law_782 rfl ?_
  refine r_iconst C dL_law_783 (by decide) ?_
  refine r_iadd C dL_law_784 (by omega) ?_
  refine r_sld C dL_law_785 hxs hbl hbA (by omega) (by omega) ?_
  refine r_cVi C dL_law_786 mlL_113 kX7_told (C_told (what := (xs (i + 1).toNat).toInt) hc) ho rfl rfl rfl (Nat.le_of_ble_eq_true rfl) (lw_fit hX (by omega)) ?_
  have hc1 := hc
  have hm1 := hm
  obtain ⟨fs2, ho2⟩ := hm1.o
  refine r_aload_n C dL_law_789 rfl ?_
  refine r_aload_n C dL_law_790 rfl ?_
  refine r_iload_n C dL_law_791 rfl ?_
  refine r_iconst C dL_law_792 (by decide) ?_
  refine r_iadd C dL_law_793 (by omega) ?_
  refine r_sld C dL_law_794 hxs hbl hbA (by omega) (by omega) ?_
  refine r_cVi C dL_law_795 mlL_116 kX8_told (N_told (what := (xs (i + 1).toNat).toInt) hm1) ho2 rfl rfl rfl (Nat.le_of_ble_eq_true rfl) (lw_fit hX (by omega)) ?_
  have hc2 := hc1
  have hm2 := hm1
  refine r_icmp_eq (tgt := 803) C dL_law_798 (by decide) (fun _ => ?_) (fun q => absurd (rfl) q)
  exact nx _ _ _ _ _ _ _ _ _ _ _ _ _ (by omega) (by omega) hc2 hm2
theorem law_loop (C : Cx X cL_law 4 RL (some .boolean)) (hX : X.1.2.2.2 = room_1) {b N : Nat} {xs : Nat → Int32} (hxs : va_X b N xs X.2.1.1 X.2.1.1.heap) (hbl : b < X.2.1.1.heap.size) (hbA : ¬ X.2.2.2.2 ≤ b) {x m : Nat} (hN : N ≤ 2048) (fin : ∀ (k n : Nat) (h : Pic) (L : List (Option Va)), k ≤ 600000 → n ≤ 7302250 → Go X Z k n h 810 L [vI 1]) :
    ∀ (j : Nat) (k n : Nat) (h : Pic) (i : Int) (pn : Int) (pf : Int → Int) (vs pg : Int) (mn : Int → Int) (tx : Int → Int → Int) (tl du kp : Int → Int) (im : Int → Bs), 0 ≤ i → i ≤ (N : Int) → (N : Int) - i < 4 * j → k + 2 * j ≤ 600000 → n + 42 * j ≤ 7302250 → RC h x pn pf vs pg mn tx tl du kp im → RM h m pn pf vs pg mn tx tl du kp im → Go X Z k n h 18 [some (vR b), some (vR x), some (vR m), some (vI i)] [] := by
  intro j
  induction j with
  | zero => intro k n h i pn pf vs pg mn tx tl du kp im g1 g2 g3; exact absurd g3 (by omega)
  | succ j ih =>
    intro k n h i pn pf vs pg mn tx tl du kp im g1 g2 g3 g4 g5 hc hm
    refine r_iload_n C dL_law_18 rfl ?_
    refine r_aload_n C dL_law_19 rfl ?_
    refine r_slen C dL_law_20 hxs hbl hbA hN ?_
    refine r_iconst C dL_law_21 (by decide) ?_
    refine r_isub C dL_law_22 (by omega) ?_
    refine r_icmp_gt (tgt := 809) C dL_law_23 (by decide) (fun hc23 => ?_) (fun hc23 => ?_)
    · refine r_iconst C dL_law_809 (by decide) ?_
      exact fin _ _ _ _ (by omega) (by omega)
    refine r_aload_n C dL_law_26 rfl ?_
    refine r_iload_n C dL_law_27 rfl ?_
    refine r_sld C dL_law_28 hxs hbl hbA (by omega) (by omega) ?_
    refine r_bipush C dL_law_29 (by decide) ?_
    refine r_iand C dL_law_31 ?_
    have hq := and_31 (xs i.toNat).toInt
    generalize bAnd (xs i.toNat).toInt 31 = q at hq ⊢
    have nx : ∀ (k' n' : Nat) (h' : Pic) (pn : Int) (pf : Int → Int) (vs pg : Int) (mn : Int → Int) (tx : Int → Int → Int) (tl du kp : Int → Int) (im : Int → Bs), k' ≤ k + 2 → n' ≤ n + 42 → RC h' x pn pf vs pg mn tx tl du kp im → RM h' m pn pf vs pg mn tx tl du kp im → Go X Z k' n' h' 803 [some (vR b), some (vR x), some (vR m), some (vI i)] [] := by
      intro k' n' h' pn pf vs pg mn tx tl du kp im q1 q2 q3 q4
      refine r_iinc C dL_law_803 rfl (by decide) (by omega) ?_
      refine r_goto (tgt := 18) C dL_law_806 (by decide) ?_
      exact ih k' n' h' (i + 4) pn pf vs pg mn tx tl du kp im (by omega) (by omega) (by omega) (by omega) (by omega) q3 q4
    rcases (show q = 0 ∨ q = 1 ∨ q = 2 ∨ q = 3 ∨ q = 4 ∨ q = 5 ∨ q = 6 ∨ q = 7 ∨ q = 8 ∨ q = 9 ∨ q = 10 ∨ q = 11 ∨ q = 12 ∨ q = 13 ∨ q = 14 ∨ q = 15 ∨ q = 16 ∨ q = 17 ∨ q = 18 ∨ q = 19 ∨ q = 20 ∨ q = 21 ∨ q = 22 ∨ q = 23 ∨ q = 24 ∨ 24 < q by omega) with rfl | rfl | rfl | rfl | rfl | rfl | rfl | rfl | rfl | rfl | rfl | rfl | rfl | rfl | rfl | rfl | rfl | rfl | rfl | rfl | rfl | rfl | rfl | rfl | rfl | hw
    · refine r_tableIn (off := 116) (tgt := 148) C dL_law_32 (by decide) (by decide) rfl (by decide) ?_
      exact law_say C hX hxs hbl hbA g1 (by omega) hN (by omega) (by omega) hc hm nx
    · refine r_tableIn (off := 139) (tgt := 171) C dL_law_32 (by decide) (by decide) rfl (by decide) ?_
      exact law_wipe C hX hxs hbl hbA g1 (by omega) hN (by omega) (by omega) hc hm nx
    · refine r_tableIn (off := 152) (tgt := 184) C dL_law_32 (by decide) (by decide) rfl (by decide) ?_
      exact law_fault C hX hxs hbl hbA g1 (by omega) hN (by omega) (by omega) hc hm nx
    · refine r_tableIn (off := 165) (tgt := 197) C dL_law_32 (by decide) (by decide) rfl (by decide) ?_
      exact law_version C hX hxs hbl hbA g1 (by omega) hN (by omega) (by omega) hc hm nx
    · refine r_tableIn (off := 178) (tgt := 210) C dL_law_32 (by decide) (by decide) rfl (by decide) ?_
      exact law_word C hX hxs hbl hbA g1 (by omega) hN (by omega) (by omega) hc hm nx
    · refine r_tableIn (off := 201) (tgt := 233) C dL_law_32 (by decide) (by decide) rfl (by decide) ?_
      exact law_written C hX hxs hbl hbA g1 (by omega) hN (by omega) (by omega) hc hm nx
    · refine r_tableIn (off := 244) (tgt := 276) C dL_law_32 (by decide) (by decide) rfl (by decide) ?_
      exact law_comes C hX hxs hbl hbA g1 (by omega) hN (by omega) (by omega) hc hm nx
    · refine r_tableIn (off := 277) (tgt := 309) C dL_law_32 (by decide) (by decide) rfl (by decide) ?_
      exact law_tells C hX hxs hbl hbA g1 (by omega) hN (by omega) (by omega) hc hm nx
    · refine r_tableIn (off := 300) (tgt := 332) C dL_law_32 (by decide) (by decide) rfl (by decide) ?_
      exact law_shows C hX hxs hbl hbA g1 (by omega) hN (by omega) (by omega) hc hm nx
    · refine r_tableIn (off := 323) (tgt := 355) C dL_law_32 (by decide) (by decide) rfl (by decide) ?_
      exact law_page C hX hxs hbl hbA g1 (by omega) hN (by omega) (by omega) hc hm nx
    · refine r_tableIn (off := 356) (tgt := 388) C dL_law_32 (by decide) (by decide) rfl (by decide) ?_
      exact law_held C hX hxs hbl hbA g1 (by omega) hN (by omega) (by omega) hc hm nx
    · refine r_tableIn (off := 399) (tgt := 431) C dL_law_32 (by decide) (by decide) rfl (by decide) ?_
      exact law_stale C hX hxs hbl hbA g1 (by omega) hN (by omega) (by omega) hc hm nx
    · refine r_tableIn (off := 422) (tgt := 454) C dL_law_32 (by decide) (by decide) rfl (by decide) ?_
      exact law_blame C hX hxs hbl hbA g1 (by omega) hN (by omega) (by omega) hc hm nx
    · refine r_tableIn (off := 455) (tgt := 487) C dL_law_32 (by decide) (by decide) rfl (by decide) ?_
      exact law_order C hX hxs hbl hbA g1 (by omega) hN (by omega) (by omega) hc hm nx
    · refine r_tableIn (off := 478) (tgt := 510) C dL_law_32 (by decide) (by decide) rfl (by decide) ?_
      exact law_cover C hX hxs hbl hbA g1 (by omega) hN (by omega) (by omega) hc hm nx
    · refine r_tableIn (off := 501) (tgt := 533) C dL_law_32 (by decide) (by decide) rfl (by decide) ?_
      exact law_apart C hX hxs hbl hbA g1 (by omega) hN (by omega) (by omega) hc hm nx
    · refine r_tableIn (off := 514) (tgt := 546) C dL_law_32 (by decide) (by decide) rfl (by decide) ?_
      exact law_slip C hX hxs hbl hbA g1 (by omega) hN (by omega) (by omega) hc hm nx
    · refine r_tableIn (off := 547) (tgt := 579) C dL_law_32 (by decide) (by decide) rfl (by decide) ?_
      exact law_noticed C hX hxs hbl hbA g1 (by omega) hN (by omega) (by omega) hc hm nx
    · refine r_tableIn (off := 580) (tgt := 612) C dL_law_32 (by decide) (by decide) rfl (by decide) ?_
      exact law_unshown C hX hxs hbl hbA g1 (by omega) hN (by omega) (by omega) hc hm nx
    · refine r_tableIn (off := 613) (tgt := 645) C dL_law_32 (by decide) (by decide) rfl (by decide) ?_
      exact law_notice C hX hxs hbl hbA g1 (by omega) hN (by omega) (by omega) hc hm nx
    · refine r_tableIn (off := 636) (tgt := 668) C dL_law_32 (by decide) (by decide) rfl (by decide) ?_
      exact law_mend C hX hxs hbl hbA g1 (by omega) hN (by omega) (by omega) hc hm nx
    · refine r_tableIn (off := 669) (tgt := 701) C dL_law_32 (by decide) (by decide) rfl (by decide) ?_
      exact law_instead C hX hxs hbl hbA g1 (by omega) hN (by omega) (by omega) hc hm nx
    · refine r_tableIn (off := 702) (tgt := 734) C dL_law_32 (by decide) (by decide) rfl (by decide) ?_
      exact law_image C hX hxs hbl hbA g1 (by omega) hN (by omega) (by omega) hc hm nx
    · refine r_tableIn (off := 725) (tgt := 757) C dL_law_32 (by decide) (by decide) rfl (by decide) ?_
      exact law_restore C hX hxs hbl hbA g1 (by omega) hN (by omega) (by omega) hc hm nx
    · refine r_tableIn (off := 748) (tgt := 780) C dL_law_32 (by decide) (by decide) rfl (by decide) ?_
      exact law_told C hX hxs hbl hbA g1 (by omega) hN (by omega) (by omega) hc hm nx
    · refine r_tableOut (tgt := 803) C dL_law_32 (Or.inr hw) (by decide) ?_
      exact nx _ _ _ _ _ _ _ _ _ _ _ _ _ (by omega) (by omega) hc hm
theorem law_go (C : Cx X cL_law 4 RL (some .boolean)) (hX : X.1.2.2.2 = room_1) {b N : Nat} {xs : Nat → Int32} (hxs : va_X b N xs X.2.1.1 X.2.1.1.heap) (hbl : b < X.2.1.1.heap.size) (hbA : ¬ X.2.2.2.2 ≤ b) (hN : N ≤ 2048) (fin : ∀ (k n : Nat) (h : Pic) (L : List (Option Va)), k ≤ 600000 → n ≤ 7302250 → Go X Z k n h 810 L [vI 1]) {h : Pic} : Go X Z 0 0 h 0 [some (vR b), none, none, none] [] := by
  refine r_newA (ci := 7) (fs := [vN, vN, vN, vN, vN, vN, vN, vN, vN]) C 7 dL_law_0 clL_7 inX7 itX7 iX7 tyX7 tyX7_ok rfl rfl (fun j hj => by rcases (show j = 0 ∨ j = 1 ∨ j = 2 ∨ j = 3 ∨ j = 4 ∨ j = 5 ∨ j = 6 ∨ j = 7 ∨ j = 8 by omega) with rfl | rfl | rfl | rfl | rfl | rfl | rfl | rfl | rfl <;> rfl) (Rc trivial (Rc trivial (Rc trivial (Rc trivial (Rc trivial (Rc trivial (Rc trivial (Rc trivial (Rc trivial (fun _ q => by cases q)))))))))) (by rw [hX]; exact Nat.le_of_ble_eq_true rfl) (by rw [hX]; exact Nat.le_of_ble_eq_true rfl) (fun x h1 e1 k1 => ?_)
  refine r_dup C dL_law_3 ?_
  refine r_cI C dL_law_4 mlL_9 kX7_init (C_init e1) rfl rfl (Nat.le_of_ble_eq_true rfl) (lw_fit hX (by omega)) ?_
  rintro h2 ⟨hc2, k2⟩
  refine r_astore_n C dL_law_7 (by decide) ?_
  refine r_newA (ci := 8) (fs := [vN, vN, vN, vI 0, vI 0, vN, vN, vN, vI 0, vN, vN, vN, vI 0, vI 0, vI 0, vN, vN, vI 0, vN, vN, vI 0, vI 0, vI 0, vN, vN, vN, vN]) C 60 dL_law_8 clL_10 inX8 itX8 iX8 tyX8 tyX8_ok rfl rfl (fun j hj => by rcases (show j = 0 ∨ j = 1 ∨ j = 2 ∨ j = 3 ∨ j = 4 ∨ j = 5 ∨ j = 6 ∨ j = 7 ∨ j = 8 ∨ j = 9 ∨ j = 10 ∨ j = 11 ∨ j = 12 ∨ j = 13 ∨ j = 14 ∨ j = 15 ∨ j = 16 ∨ j = 17 ∨ j = 18 ∨ j = 19 ∨ j = 20 ∨ j = 21 ∨ j = 22 ∨ j = 23 ∨ j = 24 ∨ j = 25 ∨ j = 26 by omega) with rfl | rfl | rfl | rfl | rfl | rfl | rfl | rfl | rfl | rfl | rfl | rfl | rfl | rfl | rfl | rfl | rfl | rfl | rfl | rfl | rfl | rfl | rfl | rfl | rfl | rfl | rfl <;> rfl) (Rc trivial (Rc trivial (Rc trivial (Rc Rg0 (Rc Rg0 (Rc trivial (Rc trivial (Rc trivial (Rc Rg0 (Rc trivial (Rc trivial (Rc trivial (Rc Rg0 (Rc Rg0 (Rc Rg0 (Rc trivial (Rc trivial (Rc Rg0 (Rc trivial (Rc trivial (Rc Rg0 (Rc Rg0 (Rc Rg0 (Rc trivial (Rc trivial (Rc trivial (Rc trivial (fun _ q => by cases q)))))))))))))))))))))))))))) (by rw [hX]; exact Nat.le_of_ble_eq_true rfl) (by rw [hX]; exact Nat.le_of_ble_eq_true rfl) (fun m h3 e3 k3 => ?_)
  refine r_dup C dL_law_11 ?_
  refine r_cI C dL_law_12 mlL_12 kX8_init (N_init e3) rfl rfl (Nat.le_of_ble_eq_true rfl) (lw_fit hX (by omega)) ?_
  rintro h4 ⟨hm4, k4⟩
  refine r_astore_n C dL_law_15 (by decide) ?_
  refine r_iconst C dL_law_16 (by decide) ?_
  refine r_istore_n C dL_law_17 (by decide) ?_
  have hc4 := (hc2.kept k3 (fun t q1 q2 => q2)).kept k4 (fun t q1 q2 => by omega)
  exact law_loop C hX hxs hbl hbA hN fin 513 _ _ h4 0 _ _ _ _ _ _ _ _ _ _ (by omega) (by omega) (by omega) (by omega) (by omega) hc4 hm4
end
