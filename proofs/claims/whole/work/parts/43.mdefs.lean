/-! the model: what it stands for; its simple calls -/
/-- a book in rows: counts, signs, tells, due -/
def BA (vs pg : Int) (mn : Int → Int) (tx : Int → Int → Int) (tl du mm tt ll dd : Int → Int) : Prop :=
  (1 ≤ vs ∧ vs ≤ 6 ∧ 0 ≤ pg ∧ pg ≤ 12) ∧ (∀ t, 0 ≤ t → t < 60 → mm t = mn t ∧ 0 ≤ mn t ∧ mn t ≤ 40 ∧ (mn t = 0 ∨ pe (mn t) (tx t) 6 0 = mn t) ∧ ∀ k, 0 ≤ k → k < mn t → tt (40 * t + k) = tx t k) ∧
  (∀ p, 0 ≤ p → p < pg → ll p = tl p ∧ ((tl p = -6 ∧ dd p = du p ∧ 0 ≤ du p ∧ du p ≤ 999 ∧ 0 < mn (48 + p)) ∨ (0 ≤ tl p ∧ tl p < 8 ∧ mn (48 + p) = 0)))
def PT (pn : Int) (pf T M : Int → Int) : Prop := M 60 = pn ∧ 0 ≤ pn ∧ pn ≤ 40 ∧ ∀ k, 0 ≤ k → k < pn → T (2400 + k) = pf k
def SZA (M T S : Int → Int) : Prop := ∀ t, 0 ≤ t → t < 60 → SZ (M t) (sx T t) (sx S t)
def LD (la lv sl : Int) (sA nO : Int → Int) (vs pg : Int) (mn : Int → Int) (tx : Int → Int → Int) (tl du : Int → Int) : Prop :=
  la = 0 ∨ (la = 1 ∧ 0 ≤ lv ∧ lv < vs ∧ sl = sc (isS mn tx lv) 320 ∧ ∀ s, 0 ≤ s → s < sl → sA s = 320 * lv + en (isS mn tx lv) 320 s ∧ nO s = nt_ pg mn tx tl du lv s)
def IMG (mI mK kp : Int → Int) (im : Int → Bs) : Prop := ∀ n, 0 ≤ n → n < 2 → mK n = kp n ∧ (kp n = 0 ∨ (mI (2500 * n) = (im n).1.1 ∧ mI (2500 * n + 1) = (im n).1.2 ∧ BA (im n).1.1 (im n).1.2 (im n).2.1 (im n).2.2.1 (im n).2.2.2.1 (im n).2.2.2.2 (fun t => mI (2500 * n + 2 + t)) (fun i => mI (2500 * n + 86 + i)) (fun p => mI (2500 * n + 62 + p)) (fun p => mI (2500 * n + 74 + p))))
/-- the model's object holds this -/
def RM (h : Pic) (m : Nat) (pn : Int) (pf : Int → Int) (vs pg : Int) (mn : Int → Int) (tx : Int → Int → Int) (tl du kp : Int → Int) (im : Int → Bs) : Prop :=
  ∃ (A : Nat → Nat) (pd us gi op th la lv sl : Int) (T S M tL dU rs pA pS pH bV be dO hB sA nO mI mK : Int → Int), MP h m A vs pg pd us gi op th la lv sl T S M tL dU rs pA pS pH bV be dO hB sA nO mI mK ∧ PT pn pf T M ∧ BA vs pg mn tx tl du M T tL dU ∧ SZA M T S ∧ LD la lv sl sA nO vs pg mn tx tl du ∧ IMG mI mK kp im
abbrev SM : Nat → Prop := fun t => 60 ≤ t
theorem sx60 (T : Int → Int) : sx T 60 = fun k => T (2400 + k) := by
  funext k
  show T (40 * 60 + k) = T (2400 + k)
  rw [show (40 * 60 + k : Int) = 2400 + k by omega]
section
variable {vs pg vs' pg' : Int} {mn : Int → Int} {tx : Int → Int → Int} {tl du mm tt ll dd mm' tt' ll' dd' : Int → Int}
theorem BA.same (hb : BA vs pg mn tx tl du mm tt ll dd) (h1 : ∀ t, 0 ≤ t → t < 60 → mm' t = mm t) (h2 : ∀ i, 0 ≤ i → i < 2400 → tt' i = tt i) (h3 : ∀ p, 0 ≤ p → p < 12 → ll' p = ll p) (h4 : ∀ p, 0 ≤ p → p < 12 → dd' p = dd p) : BA vs pg mn tx tl du mm' tt' ll' dd' := by
  obtain ⟨hv, ht, hp⟩ := hb
  refine ⟨hv, fun t t0 t1 => ?_, fun p p0 p1 => ?_⟩
  · obtain ⟨a1, a2, a3, a4, a5⟩ := ht t t0 t1
    exact ⟨(h1 t t0 t1).trans a1, a2, a3, a4, fun k k0 k1 => (h2 _ (by omega) (by omega)).trans (a5 k k0 k1)⟩
  · obtain ⟨a1, a2⟩ := hp p p0 p1
    refine ⟨(h3 p p0 (by omega)).trans a1, ?_⟩
    rw [h4 p p0 (by omega)]
    exact a2
theorem BA.slot {b n : Int} {f : Int → Int} (hb : BA vs pg mn tx tl du mm tt ll dd) (hb0 : 0 ≤ b) (hb1 : b < 60) (hn0 : 0 ≤ n) (hn1 : n ≤ 40) (hv : n = 0 ∨ pe n f 6 0 = n) (hT : ∀ k, 0 ≤ k → k < n → tt' (40 * b + k) = f k) (hO : ∀ i, (i < 40 * b ∨ 40 * b + 40 ≤ i) → tt' i = tt i) (hpg : 48 + pg ≤ b ∨ b < 48) : BA vs pg (fu mn b n) (fu tx b f) tl du (fu mm b n) tt' ll dd := by
  obtain ⟨h0, ht, hp⟩ := hb
  refine ⟨h0, fun t t0 t1 => ?_, fun p p0 p1 => ?_⟩
  · by_cases e : t = b
    · rw [e, fu_s, fu_s, fu_s]
      exact ⟨rfl, hn0, hn1, hv, hT⟩
    · rw [fu_n e, fu_n e, fu_n e]
      obtain ⟨a1, a2, a3, a4, a5⟩ := ht t t0 t1
      exact ⟨a1, a2, a3, a4, fun k k0 k1 => (hO _ (by omega)).trans (a5 k k0 k1)⟩
  · rw [fu_n (show 48 + p ≠ b by omega)]
    exact hp p p0 p1
theorem BA.ver (hb : BA vs pg mn tx tl du mm tt ll dd) (h1 : 1 ≤ vs') (h2 : vs' ≤ 6) : BA vs' pg mn tx tl du mm tt ll dd := ⟨⟨h1, h2, hb.1.2.2⟩, hb.2⟩
theorem BA.IB (hb : BA vs pg mn tx tl du mm tt ll dd) : IB vs pg mn tx tl du := by
  obtain ⟨h0, ht, hp⟩ := hb
  refine ⟨⟨fun v v0 v1 w w0 w1 => ?_, fun p p0 p1 e => ?_⟩, fun p p0 p1 => ?_⟩
  · obtain ⟨a1, a2, a3, a4, a5⟩ := ht (8 * v + w) (by omega) (by omega)
    rcases Int.lt_or_le 0 (mn (8 * v + w)) with q | q
    · exact Or.inr ⟨q, a4.resolve_left (by omega)⟩
    · exact Or.inl (show mn (8 * v + w) = 0 by omega)
  · obtain ⟨a1, a2, a3, a4, a5⟩ := ht (48 + p) (by omega) (by omega)
    rcases (hp p p0 p1).2 with q | q
    · exact ⟨q.2.2.2.2, a4.resolve_left (by omega)⟩
    · omega
  · rcases (hp p p0 p1).2 with q | q
    · exact Or.inl ⟨q.1, q.2.2.1, q.2.2.2.1⟩
    · exact Or.inr q
theorem BA.t (hb : BA vs pg mn tx tl du mm tt ll dd) {t : Int} (t0 : 0 ≤ t) (t1 : t < 60) : mm t = mn t ∧ 0 ≤ mn t ∧ mn t ≤ 40 ∧ (mn t = 0 ∨ pe (mn t) (tx t) 6 0 = mn t) ∧ ∀ k, 0 ≤ k → k < mn t → sx tt t k = tx t k := hb.2.1 t t0 t1
theorem BA.p (hb : BA vs pg mn tx tl du mm tt ll dd) {p : Int} (t0 : 0 ≤ p) (t1 : p < pg) : ll p = tl p ∧ ((tl p = -6 ∧ dd p = du p ∧ 0 ≤ du p ∧ du p ≤ 999 ∧ 0 < mn (48 + p)) ∨ (0 ≤ tl p ∧ tl p < 8 ∧ mn (48 + p) = 0)) := hb.2.2 p t0 t1
theorem BA.pe (hb : BA vs pg mn tx tl du mm tt ll dd) {t : Int} (t0 : 0 ≤ t) (t1 : t < 60) : mm t = 0 ∨ pe (mm t) (sx tt t) 6 0 = mm t := by
  obtain ⟨a1, a2, a3, a4, a5⟩ := hb.t t0 t1
  rw [a1]
  rcases a4 with q | q
  · exact Or.inl q
  · exact Or.inr (by rw [pe_nd (f' := tx t) (fun k k0 k1 => by rw [a5 k k0 k1]) 6]; exact q)
theorem BA.gt {S : Int → Int} (hb : BA vs pg mn tx tl du mm tt ll dd) (hs : SZA mm tt S) {t : Int} (t0 : 0 ≤ t) (t1 : t < 60) : mm t = 0 ∨ GT mm tt S t := by
  obtain ⟨a1, a2, a3, a4, a5⟩ := hb.t t0 t1
  by_cases hz : mm t = 0
  · exact Or.inl hz
  · exact Or.inr ⟨by omega, by omega, (hb.pe t0 t1).resolve_left hz, hs t t0 t1⟩
theorem SZA.same {M T S M' T' S' : Int → Int} (hs : SZA M T S) (h0 : ∀ t, 0 ≤ t → t < 60 → M t ≤ 40) (h1 : ∀ t, 0 ≤ t → t < 60 → M' t = M t) (h2 : ∀ i, 0 ≤ i → i < 2400 → T' i = T i) (h3 : ∀ i, 0 ≤ i → i < 2400 → S' i = S i) : SZA M' T' S' := fun t t0 t1 => by
  have := h0 t t0 t1
  rw [h1 t t0 t1]
  exact (hs t t0 t1).congr (fun k k0 k1 => by show nd (T' (40 * t + k)) = nd (T (40 * t + k)); rw [h2 _ (by omega) (by omega)]) (fun k k0 k1 => h3 _ (by omega) (by omega))
theorem SZA.slot {M T S T' S' : Int → Int} {b n : Int} (hs : SZA M T S) (h0 : ∀ t, 0 ≤ t → t < 60 → M t ≤ 40) (hz : SZ n (sx T' b) (sx S' b)) (hO : ∀ i, (i < 40 * b ∨ 40 * b + 40 ≤ i) → T' i = T i) (hO2 : ∀ i, (i < 40 * b ∨ 40 * b + 40 ≤ i) → S' i = S i) : SZA (fu M b n) T' S' := fun t t0 t1 => by
  have := h0 t t0 t1
  by_cases e : t = b
  · rw [e, fu_s]; exact hz
  · rw [fu_n e]
    exact (hs t t0 t1).congr (fun k k0 k1 => by show nd (T' (40 * t + k)) = nd (T (40 * t + k)); rw [hO _ (by omega)]) (fun k k0 k1 => hO2 _ (by omega))
theorem BA.m40 (hb : BA vs pg mn tx tl du mm tt ll dd) : ∀ t, 0 ≤ t → t < 60 → mm t ≤ 40 := fun t t0 t1 => by
  obtain ⟨a1, a2, a3, -⟩ := hb.t t0 t1
  omega
end
section
variable {h : Pic} {m : Nat} {pn : Int} {pf : Int → Int} {vs pg : Int} {mn : Int → Int} {tx : Int → Int → Int} {tl du kp : Int → Int} {im : Int → Bs}
theorem N_say {s : Int} (hm : RM h m pn pf vs pg mn tx tl du kp im) : Meets yX8_say cX8_say 2 (some .int) 10 0 0 [vR m, vI s] h (pX (fun z h' => z = (aSay pn pf s).1 ∧ RM h' m (aSay pn pf s).2.1 (aSay pn pf s).2.2 vs pg mn tx tl du kp im ∧ Kp SM h h')) := by
  obtain ⟨A, pd, us, gi, op, th, la, lv, sl, T, S, M, tL, dU, rs, pA, pS, pH, bV, be, dO, hB, sA, nO, mI, mK, hp, hpt, hba, hsz, hld, him⟩ := id hm
  obtain ⟨hM60, hpn0, hpn1, hpf⟩ := id hpt
  refine Meets.of (plainFor_of_name (by decide)) (Nat.le_of_ble_eq_true rfl) (fun X C hX hN hA => ?_)
  refine r_iload_n C dX8_say_0 rfl ?_
  refine r_bipush C dX8_say_1 (by decide) ?_
  refine r_bipush C dX8_say_3 (by decide) ?_
  refine r_cSi C dX8_say_5 mlX8_66 kX8_in (n_in (v := s) (lo := 33) (hi := 126)) rfl rfl (Nat.le_of_ble_eq_true rfl) (fit hX (by decide)) ?_
  refine r_if_ne (tgt := 14) C dX8_say_8 (by decide) (fun hc8 => ?_) (fun hc8 => ?_)
  rotate_left
  · have hno := zb_0.mp hc8
    have hv : aSay pn pf s = (-2, pn, pf) := if_pos (by omega)
    rw [hv]
    refine r_bipush C dX8_say_11 (by decide) ?_
    exact r_iret C dX8_say_13 (by decide) (by decide) ⟨_, rfl, rfl, hm, Kp.rf⟩
  have hin := zb_n0.mp hc8
  refine r_aload_n C dX8_say_14 rfl ?_
  refine r_get C dX8_say_15 flX8_16 hp.o rfl ?_
  refine r_bipush C dX8_say_18 (by decide) ?_
  refine r_iald C dX8_say_20 hp.aM (by omega) (by omega) ?_
  refine r_bipush C dX8_say_21 (by decide) ?_
  refine r_icmp_ne (tgt := 29) C dX8_say_23 (by decide) (fun hc23 => ?_) (fun hc23 => ?_)
  rotate_left
  · have hv : aSay pn pf s = (-4, pn, pf) := (if_neg (by omega)).trans (if_pos (by omega))
    rw [hv]
    refine r_bipush C dX8_say_26 (by decide) ?_
    exact r_iret C dX8_say_28 (by decide) (by decide) ⟨_, rfl, rfl, hm, Kp.rf⟩
  have hv : aSay pn pf s = (pn + 1, pn + 1, fu pf pn s) := (if_neg (by omega)).trans (if_neg (by omega))
  rw [hv]
  refine r_aload_n C dX8_say_29 rfl ?_
  refine r_get C dX8_say_30 flX8_7 hp.o rfl ?_
  refine r_sipush C dX8_say_33 (by decide) ?_
  refine r_aload_n C dX8_say_36 rfl ?_
  refine r_get C dX8_say_37 flX8_16 hp.o rfl ?_
  refine r_bipush C dX8_say_40 (by decide) ?_
  refine r_iald C dX8_say_42 hp.aM (by omega) (by omega) ?_
  refine r_iadd C dX8_say_43 (by omega) ?_
  refine r_iload_n C dX8_say_44 rfl ?_
  refine w_T C dX8_say_45 hp (by omega) (by omega) (fun h1 hp1 k1 => ?_)
  refine r_aload_n C dX8_say_46 rfl ?_
  refine r_get C dX8_say_47 flX8_16 hp1.o rfl ?_
  refine r_bipush C dX8_say_50 (by decide) ?_
  refine r_dup2 C dX8_say_52 ?_
  refine r_iald C dX8_say_53 hp1.aM (by omega) (by omega) ?_
  refine r_iconst C dX8_say_54 (by decide) ?_
  refine r_iadd C dX8_say_55 (by omega) ?_
  refine w_M C dX8_say_56 hp1 (by omega) (by omega) (fun h2 hp2 k2 => ?_)
  refine r_aload_n C dX8_say_57 rfl ?_
  refine r_get C dX8_say_58 flX8_16 hp2.o rfl ?_
  refine r_bipush C dX8_say_61 (by decide) ?_
  refine r_iald C dX8_say_63 hp2.aM (by omega) (by omega) ?_
  rw [fu_s]
  refine r_iret C dX8_say_64 (by decide) (by decide) ⟨_, rfl, by show _ = pn + 1; omega, ⟨A, pd, us, gi, op, th, la, lv, sl, fu T (2400 + M 60) s, S, fu M 60 (M 60 + 1), tL, dU, rs, pA, pS, pH, bV, be, dO, hB, sA, nO, mI, mK, hp2, ⟨by rw [fu_s]; show M 60 + 1 = pn + 1; omega, by show 0 ≤ pn + 1; omega, by show pn + 1 ≤ 40; omega, fun k k0 k1 => ?_⟩, hba.same (fun t t0 t1 => fu_n (by omega)) (fun i i0 i1 => fu_n (by omega)) (fun _ _ _ => rfl) (fun _ _ _ => rfl), hsz.same hba.m40 (fun t t0 t1 => fu_n (by omega)) (fun i i0 i1 => fu_n (by omega)) (fun _ _ _ => rfl), hld, him⟩, (k1.mono (fun t q => by omega)).tr (k2.mono (fun t q => by omega))⟩
  have k1' : k < pn + 1 := k1
  show fu T (2400 + M 60) s (2400 + k) = fu pf pn s k
  by_cases e : k = pn
  · rw [e, hM60, fu_s, fu_s]
  · rw [fu_n (by omega), fu_n e]; exact hpf k k0 (by omega)
theorem N_wipe (hm : RM h m pn pf vs pg mn tx tl du kp im) : Meets yX8_wipe cX8_wipe 2 (some .int) 10 0 0 [vR m] h (pX (fun z h' => z = pn ∧ RM h' m 0 pf vs pg mn tx tl du kp im ∧ Kp SM h h')) := by
  obtain ⟨A, pd, us, gi, op, th, la, lv, sl, T, S, M, tL, dU, rs, pA, pS, pH, bV, be, dO, hB, sA, nO, mI, mK, hp, hpt, hba, hsz, hld, him⟩ := id hm
  obtain ⟨hM60, hpn0, hpn1, hpf⟩ := id hpt
  refine Meets.of (plainFor_of_name (by decide)) (Nat.le_of_ble_eq_true rfl) (fun X C hX hN hA => ?_)
  refine r_aload_n C dX8_wipe_0 rfl ?_
  refine r_get C dX8_wipe_1 flX8_16 hp.o rfl ?_
  refine r_bipush C dX8_wipe_4 (by decide) ?_
  refine r_iald C dX8_wipe_6 hp.aM (by omega) (by omega) ?_
  refine r_istore_n C dX8_wipe_7 (by decide) ?_
  refine r_aload_n C dX8_wipe_8 rfl ?_
  refine r_get C dX8_wipe_9 flX8_16 hp.o rfl ?_
  refine r_bipush C dX8_wipe_12 (by decide) ?_
  refine r_iconst C dX8_wipe_14 (by decide) ?_
  refine w_M C dX8_wipe_15 hp (by omega) (by omega) (fun h1 hp1 k1 => ?_)
  refine r_iload_n C dX8_wipe_16 rfl ?_
  exact r_iret C dX8_wipe_17 (by decide) (by decide) ⟨_, rfl, hM60, ⟨A, pd, us, gi, op, th, la, lv, sl, T, S, fu M 60 0, tL, dU, rs, pA, pS, pH, bV, be, dO, hB, sA, nO, mI, mK, hp1, ⟨fu_s, by omega, by omega, fun k k0 k1 => by omega⟩, hba.same (fun t t0 t1 => fu_n (by omega)) (fun i i0 i1 => rfl) (fun _ _ _ => rfl) (fun _ _ _ => rfl), hsz.same hba.m40 (fun t t0 t1 => fu_n (by omega)) (fun i i0 i1 => rfl) (fun _ _ _ => rfl), hld, him⟩, k1.mono (fun t q => by omega)⟩
theorem flt_congr {n : Int} {f f' : Int → Int} (hf : ∀ k, 0 ≤ k → k < n → f k = f' k) : flt n f = flt n f' := by
  unfold flt
  rw [pe_congr hf]
theorem flt_rng {n : Int} {f : Int → Int} (hn : 0 ≤ n) : flt n f = -6 ∨ (0 ≤ flt n f ∧ flt n f ≤ n) := by
  have hr := pe_rng n f 6 0 (Int.le_refl 0) hn
  unfold flt
  (repeat' split) <;> omega
theorem N_faultOf (hm : RM h m pn pf vs pg mn tx tl du kp im) : Meets yX8_faultOf cX8_faultOf 5 (some .int) 2 0 0 [vR m] h (pX (fun z h' => z = flt pn pf ∧ RM h' m pn pf vs pg mn tx tl du kp im ∧ Kp SM h h')) := by
  obtain ⟨A, pd, us, gi, op, th, la, lv, sl, T, S, M, tL, dU, rs, pA, pS, pH, bV, be, dO, hB, sA, nO, mI, mK, hp, hpt, hba, hsz, hld, him⟩ := id hm
  obtain ⟨hM60, hpn0, hpn1, hpf⟩ := id hpt
  refine Meets.mono (n_faultOf hp (by omega) (by omega)) (fun r h' q => ?_)
  obtain ⟨z, rfl, hz, rs', hp', k'⟩ := q
  exact ⟨z, rfl, by rw [hz, hM60]; exact flt_congr hpf, ⟨A, pd, us, gi, op, th, la, lv, sl, T, S, M, tL, dU, rs', pA, pS, pH, bV, be, dO, hB, sA, nO, mI, mK, hp', hpt, hba, hsz, hld, him⟩, k'.mono (fun t q => by omega)⟩
theorem RM.o (hm : RM h m pn pf vs pg mn tx tl du kp im) : ∃ fs, h m = some (ob 60 8 fs) := by
  obtain ⟨A, pd, us, gi, op, th, la, lv, sl, T, S, M, tL, dU, rs, pA, pS, pH, bV, be, dO, hB, sA, nO, mI, mK, hp, -⟩ := hm
  exact ⟨_, hp.o⟩
theorem N_fault (hm : RM h m pn pf vs pg mn tx tl du kp im) : Meets yX8_fault cX8_fault 1 (some .int) 10 0 0 [vR m] h (pX (fun z h' => z = flt pn pf ∧ RM h' m pn pf vs pg mn tx tl du kp im ∧ Kp SM h h')) := by
  obtain ⟨fs, ho⟩ := hm.o
  refine Meets.of (plainFor_of_name (by decide)) (Nat.le_of_ble_eq_true rfl) (fun X C hX hN hA => ?_)
  refine r_aload_n C dX8_fault_0 rfl ?_
  refine r_cVx C dX8_fault_1 mlX8_81 kX8_faultOf (N_faultOf hm) ho rfl rfl rfl (Nat.le_of_ble_eq_true rfl) (fit hX (by decide)) ?_
  rintro z h' ⟨rfl, hm', k'⟩
  exact r_iret C dX8_fault_4 (by decide) (by decide) ⟨_, rfl, rfl, hm', k'⟩
theorem N_written {v w i : Int} (hm : RM h m pn pf vs pg mn tx tl du kp im) : Meets yX8_written cX8_written 5 (some .int) 10 0 0 [vR m, vI v, vI w, vI i] h (pI (aWritten vs mn tx v w i) h) := by
  obtain ⟨A, pd, us, gi, op, th, la, lv, sl, T, S, M, tL, dU, rs, pA, pS, pH, bV, be, dO, hB, sA, nO, mI, mK, hp, hpt, hba, hsz, hld, him⟩ := id hm
  obtain ⟨⟨hv1, hv6, hp0, hp12⟩, -⟩ := id hba
  refine Meets.of (plainFor_of_name (by decide)) (Nat.le_of_ble_eq_true rfl) (fun X C hX hN hA => ?_)
  refine r_aload_n C dX8_written_0 rfl ?_
  refine r_iload_n C dX8_written_1 rfl ?_
  refine r_cVi C dX8_written_2 mlX8_100 kX8_isVersion (n_isVersion (v := v) hp (by omega)) hp.o rfl rfl rfl (Nat.le_of_ble_eq_true rfl) (fit hX (by decide)) ?_
  refine r_if_eq (tgt := 15) C dX8_written_5 (by decide) (fun hc5 => ?_) (fun hc5 => ?_)
  · have hno := zb_0.mp hc5
    have hv : aWritten vs mn tx v w i = -1 := if_pos (by omega)
    rw [hv]
    refine r_iconst C dX8_written_15 (by decide) ?_
    exact r_iret C dX8_written_16 (by decide) (by decide) ⟨rfl, rfl⟩
  have hvv := zb_n0.mp hc5
  refine r_iload_n C dX8_written_8 rfl ?_
  refine r_cSi C dX8_written_9 mlX8_97 kX8_isWord (n_isWord (w := w)) rfl rfl (Nat.le_of_ble_eq_true rfl) (fit hX (by decide)) ?_
  refine r_if_ne (tgt := 17) C dX8_written_12 (by decide) (fun hc12 => ?_) (fun hc12 => ?_)
  rotate_left
  · have hno := zb_0.mp hc12
    have hv : aWritten vs mn tx v w i = -1 := if_pos (by omega)
    rw [hv]
    refine r_iconst C dX8_written_15 (by decide) ?_
    exact r_iret C dX8_written_16 (by decide) (by decide) ⟨rfl, rfl⟩
  have hww := zb_n0.mp hc12
  have hv0 : aWritten vs mn tx v w i = if i = -1 then mn (8 * v + w) else if 0 ≤ i ∧ i < mn (8 * v + w) then tx (8 * v + w) i else -6 := if_neg (by omega)
  rw [hv0]
  obtain ⟨a1, a2, a3, -, a5⟩ := hba.t (t := 8 * v + w) (by omega) (by omega)
  refine r_bipush C dX8_written_17 (by decide) ?_
  refine r_iload_n C dX8_written_19 rfl ?_
  refine r_imul C dX8_written_20 (by omega) ?_
  refine r_iload_n C dX8_written_21 rfl ?_
  refine r_iadd C dX8_written_22 (by omega) ?_
  refine r_istore C dX8_written_23 (by decide) ?_
  refine r_iload_n C dX8_written_25 rfl ?_
  refine r_iconst C dX8_written_26 (by decide) ?_
  refine r_icmp_ne (tgt := 40) C dX8_written_27 (by decide) (fun hc27 => ?_) (fun hc27 => ?_)
  rotate_left
  · rw [if_pos hc27]
    refine r_aload_n C dX8_written_30 rfl ?_
    refine r_get C dX8_written_31 flX8_16 hp.o rfl ?_
    refine r_iload C dX8_written_34 rfl ?_
    refine r_iald C dX8_written_36 hp.aM (by omega) (by omega) ?_
    refine r_goto (tgt := 74) C dX8_written_37 (by decide) ?_
    rw [a1]
    exact r_iret C dX8_written_74 (by decide) (by decide) ⟨rfl, rfl⟩
  rw [if_neg hc27]
  refine r_iload_n C dX8_written_40 rfl ?_
  refine r_iconst C dX8_written_41 (by decide) ?_
  refine r_aload_n C dX8_written_42 rfl ?_
  refine r_get C dX8_written_43 flX8_16 hp.o rfl ?_
  refine r_iload C dX8_written_46 rfl ?_
  refine r_iald C dX8_written_48 hp.aM (by omega) (by omega) ?_
  rw [a1]
  refine r_iconst C dX8_written_49 (by decide) ?_
  refine r_isub C dX8_written_50 (by omega) ?_
  refine r_cSi C dX8_written_51 mlX8_66 kX8_in (n_in (v := i) (lo := 0) (hi := mn (8 * v + w) - 1)) rfl rfl (Nat.le_of_ble_eq_true rfl) (fit hX (by decide)) ?_
  refine r_if_eq (tgt := 72) C dX8_written_54 (by decide) (fun hc54 => ?_) (fun hc54 => ?_)
  · have hno := zb_0.mp hc54
    rw [if_neg (by omega)]
    refine r_bipush C dX8_written_72 (by decide) ?_
    exact r_iret C dX8_written_74 (by decide) (by decide) ⟨rfl, rfl⟩
  have hii := zb_n0.mp hc54
  rw [if_pos (by omega)]
  refine r_aload_n C dX8_written_57 rfl ?_
  refine r_get C dX8_written_58 flX8_7 hp.o rfl ?_
  refine r_bipush C dX8_written_61 (by decide) ?_
  refine r_iload C dX8_written_63 rfl ?_
  refine r_imul C dX8_written_65 (by omega) ?_
  refine r_iload_n C dX8_written_66 rfl ?_
  refine r_iadd C dX8_written_67 (by omega) ?_
  refine r_iald C dX8_written_68 hp.aT (by omega) (by omega) ?_
  refine r_goto (tgt := 74) C dX8_written_69 (by decide) ?_
  exact r_iret C dX8_written_74 (by decide) (by decide) ⟨some_I (a5 i hii.1 (by omega)), rfl⟩
theorem N_told {what : Int} (hm : RM h m pn pf vs pg mn tx tl du kp im) : Meets yX8_told cX8_told 4 (some .int) 10 0 0 [vR m, vI what] h (pI (aTold pn vs pg tl what) h) := by
  obtain ⟨A, pd, us, gi, op, th, la, lv, sl, T, S, M, tL, dU, rs, pA, pS, pH, bV, be, dO, hB, sA, nO, mI, mK, hp, hpt, hba, hsz, hld, him⟩ := id hm
  obtain ⟨hM60, hpn0, hpn1, hpf⟩ := id hpt
  obtain ⟨⟨hv1, hv6, hp0, hp12⟩, -⟩ := id hba
  refine Meets.of (plainFor_of_name (by decide)) (Nat.le_of_ble_eq_true rfl) (fun X C hX hN hA => ?_)
  have loop : ∀ (j : Nat) (i : Int), 0 ≤ i → i ≤ pg → pg - i < j → Go X (Qm X (pI (aTold pn vs pg tl what) h) 0 0) 0 0 h 4 [some (vR m), some (vI what), some (vI (bt (fun p => tl p = -6) i)), some (vI i)] [] := by
    intro j
    induction j with
    | zero => intro i g1 g2 g3; exact absurd g3 (by omega)
    | succ j ih =>
      intro i g1 g2 g3
      refine r_iload_n C dX8_told_4 rfl ?_
      refine r_aload_n C dX8_told_5 rfl ?_
      refine r_get C dX8_told_6 flX8_70 hp.o rfl ?_
      refine r_icmp_ge (tgt := 37) C dX8_told_9 (by decide) (fun hc9 => ?_) (fun hc9 => ?_)
      · have hi : i = pg := by omega
        rw [hi]
        refine r_iload_n C dX8_told_37 rfl ?_
        refine r_if_ne (tgt := 51) C dX8_told_38 (by decide) (fun hc38 => ?_) (fun hc38 => ?_)
        rotate_left
        · have hv : aTold pn vs pg tl what = pn := if_pos hc38
          rw [hv]
          refine r_aload_n C dX8_told_41 rfl ?_
          refine r_get C dX8_told_42 flX8_16 hp.o rfl ?_
          refine r_bipush C dX8_told_45 (by decide) ?_
          refine r_iald C dX8_told_47 hp.aM (by omega) (by omega) ?_
          refine r_goto (tgt := 86) C dX8_told_48 (by decide) ?_
          exact r_iret C dX8_told_86 (by decide) (by decide) ⟨some_I hM60, rfl⟩
        refine r_iload_n C dX8_told_51 rfl ?_
        refine r_iconst C dX8_told_52 (by decide) ?_
        refine r_icmp_ne (tgt := 63) C dX8_told_53 (by decide) (fun hc53 => ?_) (fun hc53 => ?_)
        rotate_left
        · have hv : aTold pn vs pg tl what = vs := (if_neg hc38).trans (if_pos hc53)
          rw [hv]
          refine r_aload_n C dX8_told_56 rfl ?_
          refine r_get C dX8_told_57 flX8_62 hp.o rfl ?_
          refine r_goto (tgt := 86) C dX8_told_60 (by decide) ?_
          exact r_iret C dX8_told_86 (by decide) (by decide) ⟨rfl, rfl⟩
        refine r_iload_n C dX8_told_63 rfl ?_
        refine r_iconst C dX8_told_64 (by decide) ?_
        refine r_icmp_ne (tgt := 75) C dX8_told_65 (by decide) (fun hc65 => ?_) (fun hc65 => ?_)
        rotate_left
        · have hv : aTold pn vs pg tl what = pg := (if_neg hc38).trans ((if_neg hc53).trans (if_pos hc65))
          rw [hv]
          refine r_aload_n C dX8_told_68 rfl ?_
          refine r_get C dX8_told_69 flX8_70 hp.o rfl ?_
          refine r_goto (tgt := 86) C dX8_told_72 (by decide) ?_
          exact r_iret C dX8_told_86 (by decide) (by decide) ⟨rfl, rfl⟩
        refine r_iload_n C dX8_told_75 rfl ?_
        refine r_iconst C dX8_told_76 (by decide) ?_
        refine r_icmp_ne (tgt := 84) C dX8_told_77 (by decide) (fun hc77 => ?_) (fun hc77 => ?_)
        rotate_left
        · have hv : aTold pn vs pg tl what = bt (fun p => tl p = -6) pg := (if_neg hc38).trans ((if_neg hc53).trans ((if_neg hc65).trans (if_pos hc77)))
          rw [hv]
          refine r_iload_n C dX8_told_80 rfl ?_
          refine r_goto (tgt := 86) C dX8_told_81 (by decide) ?_
          exact r_iret C dX8_told_86 (by decide) (by decide) ⟨rfl, rfl⟩
        · have hv : aTold pn vs pg tl what = -2 := (if_neg hc38).trans ((if_neg hc53).trans ((if_neg hc65).trans (if_neg hc77)))
          rw [hv]
          refine r_bipush C dX8_told_84 (by decide) ?_
          exact r_iret C dX8_told_86 (by decide) (by decide) ⟨rfl, rfl⟩
      obtain ⟨b1, b2⟩ := hba.p (p := i) g1 hc9
      refine r_iload_n C dX8_told_12 rfl ?_
      refine r_aload_n C dX8_told_13 rfl ?_
      refine r_get C dX8_told_14 flX8_19 hp.o rfl ?_
      refine r_iload_n C dX8_told_17 rfl ?_
      refine r_iald C dX8_told_18 hp.atL (by omega) (by omega) ?_
      rw [b1]
      have hz := ih (i + 1) (by omega) (by omega) (by omega)
      refine r_if_ge (tgt := 28) C dX8_told_19 (by decide) (fun hc19 => ?_) (fun hc19 => ?_)
      · rw [bt_f g1 (by omega)] at hz
        refine r_iconst C dX8_told_28 (by decide) ?_
        refine r_ior C dX8_told_29 ?_
        rw [bOr_0 (bt_rg _ _)]
        refine r_istore_n C dX8_told_30 (by decide) ?_
        refine r_iinc C dX8_told_31 rfl (by decide) (by omega) ?_
        refine r_goto (tgt := 4) C dX8_told_34 (by decide) ?_
        exact hz
      · rw [bt_t g1 (by show tl i = -6; omega)] at hz
        refine r_iconst C dX8_told_22 (by decide) ?_
        refine r_iload_n C dX8_told_23 rfl ?_
        refine r_ishl C dX8_told_24 ?_
        refine r_goto (tgt := 29) C dX8_told_25 (by decide) ?_
        refine r_ior C dX8_told_29 ?_
        refine r_istore_n C dX8_told_30 (by decide) ?_
        refine r_iinc C dX8_told_31 rfl (by decide) (by omega) ?_
        refine r_goto (tgt := 4) C dX8_told_34 (by decide) ?_
        exact hz
  refine r_iconst C dX8_told_0 (by decide) ?_
  refine r_istore_n C dX8_told_1 (by decide) ?_
  refine r_iconst C dX8_told_2 (by decide) ?_
  refine r_istore_n C dX8_told_3 (by decide) ?_
  exact loop 13 0 (by omega) (by omega) (by omega)
end
