/-! BookShows, fifth part: least sets, slips -/
theorem m_NfewestI {h : Pic} {a b : Nat} {pg c : Int} {f : Int → Int} (hn : NeR h a b c f) (h0 : 0 ≤ pg) (h1 : pg ≤ 12) : Meets yX1_fewest cX1_fewest 6 (some .int) 1 0 0 [vR a, vI pg] h (pI (fw (meetsAll c f) pg.toNat) h) := by
  have e : ((pg.toNat : Nat) : Int) = pg := Int.toNat_of_nonneg h0
  have hm := m_Nfewest (pg := pg.toNat) hn (by omega)
  rw [e] at hm
  exact hm
theorem Kp.tr' {S S' : Nat → Prop} {h h' h'' : Pic} (x : Kp S h h') (y : Kp S' h' h'') : Kp (fun t => S t ∨ S' t) h h'' := fun a t b e n => y a t b (x a t b e (fun q => n (Or.inl q))) (fun q => n (Or.inr q))
theorem NeR.off {h h' : Pic} {a b : Nat} {c : Int} {f : Int → Int} (hn : NeR h a b c f) (o : Off [a, b] h h') : Kp (fun t => t = 40 ∨ t = 41) h h' := fun q t bd e n => by
  have n1 : q ≠ a := ne_of e hn.1 (fun z => n (by cases z; exact Or.inl rfl))
  have n2 : q ≠ b := ne_of e hn.2.1 (fun z => n (by cases z; exact Or.inr rfl))
  exact (o q (by simp; exact ⟨n1, n2⟩)).trans e
/-- a set more is needed -/
theorem ne_add {c c' s0 : Int} {f f' : Int → Int} {P : Int → Prop} (h0 : 0 ≤ c) (hI : ∀ s, meetsAll c f s ↔ P s) (h1 : (s0 = 0 ∨ hasIn c f s0) → c' = c ∧ f' = f) (h2 : ¬ s0 = 0 → ¬ hasIn c f s0 → c' = c + 1 ∧ f' = fu f c s0) : c' ≤ c + 1 ∧ ∀ s, meetsAll c' f' s ↔ (P s ∧ (s0 = 0 ∨ ¬ bAnd s0 s = 0)) := by
  by_cases hz : s0 = 0
  · obtain ⟨r1, r2⟩ := h1 (Or.inl hz)
    rw [r1, r2]
    exact ⟨by omega, fun s => ⟨fun q => ⟨(hI s).mp q, Or.inl hz⟩, fun q => (hI s).mpr q.1⟩⟩
  by_cases hh : hasIn c f s0
  · obtain ⟨r1, r2⟩ := h1 (Or.inr hh)
    rw [r1, r2]
    refine ⟨by omega, fun s => ⟨fun q => ⟨(hI s).mp q, Or.inr (fun e => ?_)⟩, fun q => (hI s).mpr q.1⟩⟩
    obtain ⟨i, i0, i1, hi⟩ := hh
    refine q i i0 i1 (and_0.mpr (fun b hb hq => ?_))
    have a1 := and_0.mp hi b hb
    have a2 := and_0.mp e b hb
    rw [tb_xor, tb_m1 b hb, hq.1] at a1
    rw [hq.2] at a2
    cases hs : tb s0 b
    · rw [hs] at a1; exact a1 ⟨rfl, rfl⟩
    · rw [hs] at a2; exact a2 ⟨rfl, rfl⟩
  · obtain ⟨r1, r2⟩ := h2 hz hh
    rw [r1, r2]
    refine ⟨by omega, fun s => ⟨fun q => ⟨(hI s).mp (fun i i0 i1 => ?_), Or.inr ?_⟩, fun q i i0 i1 => ?_⟩⟩
    · have := q i i0 (by omega)
      rw [fu_n (by omega)] at this
      exact this
    · have := q c h0 (by omega)
      rw [fu_s] at this
      exact this
    · by_cases hi : i = c
      · rw [hi, fu_s]
        exact q.2.resolve_left hz
      · rw [fu_n hi]
        exact (hI s).mpr q.1 i i0 (by omega)
theorem fw_congr {P P' : Int → Prop} {n : Nat} (h : ∀ s, P s ↔ P' s) : fw P n = fw P' n := by
  rw [show P = P' from funext (fun s => propext (h s))]
/-- all but the empty ones of the sets g 0 .. g (n - 1) are met -/
def mtN (g : Int → Int) (n s : Int) : Prop := ∀ k, 0 ≤ k → k < n → g k = 0 ∨ ¬ bAnd (g k) s = 0
theorem mtN_0 {g : Int → Int} {s : Int} : mtN g 0 s := fun k k0 k1 => by omega
theorem mtN_s {g : Int → Int} {n s : Int} (h0 : 0 ≤ n) : mtN g (n + 1) s ↔ (mtN g n s ∧ (g n = 0 ∨ ¬ bAnd (g n) s = 0)) := by
  refine ⟨fun q => ⟨fun k k0 k1 => q k k0 (by omega), q n h0 (by omega)⟩, fun q k k0 k1 => ?_⟩
  by_cases hk : k = n
  · rw [hk]; exact q.2
  · exact q.1 k k0 (by omega)
theorem meets_0 {f : Int → Int} {s : Int} : meetsAll 0 f s := fun i i0 i1 => by omega
abbrev SE : Nat → Prop := fun t => t = 3 ∨ t = 4 ∨ (40 ≤ t ∧ t ≤ 43) ∨ (45 ≤ t ∧ t ≤ 47) ∨ (49 ≤ t ∧ t ≤ 51)
section
variable {h h' : Pic} {x : Nat} {pn : Int} {pf : Int → Int} {vs pg : Int} {mn : Int → Int} {tx : Int → Int → Int} {tl du kp : Int → Int} {im : Int → Bs}
variable {pad pb tr bk ims kpa rk ao al ne i0 i1 nb z1 z2 z3 : Nat} {gp kf kn kn' cs kn2 no f : Int → Int} {fi : Int → Option Nat} {c : Int}
theorem RC_n (hra : RA h x pad pb tr bk ims kpa rk ao al ne i0 i1 pn pf gp kf kp fi im) (hb : BkR h bk 10 vs pg mn tx tl du) (k : Kp SE h h') (htr : TrR h' tr) (ho : OS h' ao bk rk vs pg mn tx tl kn) (hl : SlR h' al bk ao rk tr z1 z2 z3 cs kn2 no) (hos : OkS vs pg mn tx tl du kn2 no) (hne : NeR h' ne nb c f) : RC h' x pn pf vs pg mn tx tl du kp im ∧ Kp SC h h' :=
  ⟨⟨pad, pb, tr, bk, ims, kpa, rk, ao, al, ne, i0, i1, nb, z1, z2, z3, gp, kf, kn, cs, kn2, no, f, fi, c, hra.kp k (fun t q => by omega) (fun t q1 q2 => by omega) (fun t q1 q2 => by omega), htr, hb.kp k (by omega) (by omega) (fun t q1 q2 => by omega), ho, hl, hos, hne⟩, k.mono (fun t q => by omega)⟩
end
section
variable {h : Pic} {x : Nat} {pn : Int} {pf : Int → Int} {vs pg : Int} {mn : Int → Int} {tx : Int → Int → Int} {tl du kp : Int → Int} {im : Int → Bs}
noncomputable def aCover (vs pg : Int) (mn : Int → Int) (tx : Int → Int → Int) (tl : Int → Int) (v : Int) : Int := if ¬ (0 ≤ v ∧ v < vs) then -1 else fw (mtN (fun w => bt (uses mn tx tl v w) pg) 8) pg.toNat
theorem C_cover {v : Int} (hc : RC h x pn pf vs pg mn tx tl du kp im) (hI : IB vs pg mn tx tl du) : Meets yX7_cover cX7_cover 3 (some .int) 200 0 0 [vR x, vI v] h (pX (fun z h' => z = aCover vs pg mn tx tl v ∧ RC h' x pn pf vs pg mn tx tl du kp im ∧ Kp SC h h')) := by
  obtain ⟨pad, pb, tr, bk, ims, kpa, rk, ao, al, ne, i0, i1, nb, z1, z2, z3, gp, kf, kn, cs, kn2, no, f, fi, c, hra, htr, hb, ho, hl, hos, hne⟩ := id hc
  obtain ⟨⟨e0, e1, e2, e3, e4⟩, him, hp⟩ := id hra
  obtain ⟨nt, x1, x2, x3, x4, x5, ft, fs, f2, f4, f5, ⟨hbs, -⟩, -, hvs, hpg, -⟩ := id hb
  obtain ⟨y1, y2, y3, xw, ca, us, fw', pl, gv, op, uu, ⟨hots, -⟩, -⟩ := id ho
  refine Meets.of (plainFor_of_name (by decide)) (Nat.le_of_ble_eq_true rfl) (fun X C hX hN hA => ?_)
  refine r_aload_n C dX7_cover_0 rfl ?_
  refine r_get C dX7_cover_1 flX7_26 e0 rfl ?_
  refine r_iload_n C dX7_cover_4 rfl ?_
  refine r_cVi C dX7_cover_5 mlX7_106 kX0_hasVersion (m_hasVersion (v := v) hb) hbs rfl rfl rfl (Nat.le_of_ble_eq_true rfl) (fit hX (by decide)) ?_
  refine r_if_ne (tgt := 13) C dX7_cover_8 (by decide) (fun hc8 => ?_) (fun hc8 => ?_)
  rotate_left
  · have hv : aCover vs pg mn tx tl v = -1 := if_pos (zb_0.mp hc8)
    rw [hv]
    refine r_iconst C dX7_cover_11 (by decide) ?_
    exact r_iret C dX7_cover_12 (by decide) (by decide) ⟨_, rfl, rfl, hc, Kp.rf⟩
  obtain ⟨hv0, hv1⟩ := zb_n0.mp hc8
  have hv : aCover vs pg mn tx tl v = fw (mtN (fun w => bt (uses mn tx tl v w) pg) 8) pg.toNat := if_neg (by omega)
  rw [hv]
  refine r_aload_n C dX7_cover_13 rfl ?_
  refine r_get C dX7_cover_14 flX7_50 e0 rfl ?_
  refine r_iload_n C dX7_cover_17 rfl ?_
  refine r_cVv C dX7_cover_18 mlX7_195 kX2_learnAll (m_OlearnAll (v := v) ho hb hI.1 hv0 hv1) hots rfl rfl rfl (Nat.le_of_ble_eq_true rfl) (fit hX (by decide)) ?_
  rintro h1 ⟨kn1, ho1, k1, hm1, hd1⟩
  have e01 := k1 _ _ _ e0 (by omega)
  have hne1 := hne.kp k1 (by omega) (by omega)
  refine r_aload_n C dX7_cover_21 rfl ?_
  refine r_get C dX7_cover_22 flX7_66 e01 rfl ?_
  refine r_cVv C dX7_cover_25 mlX7_198 kX1_clear (m_Nclear hne1) hne1.1 rfl rfl rfl (Nat.le_of_ble_eq_true rfl) (fit hX (by decide)) ?_
  rintro h2 ⟨hne2, o2⟩
  have k2 := hne1.off o2
  have k12 : Kp SE h h2 := (k1.mono (fun t q => by omega)).tr (k2.mono (fun t q => by omega))
  have loop : ∀ (j : Nat) (i : Int) (h' : Pic) (c' : Int) (f' : Int → Int), 0 ≤ i → i ≤ 8 → 8 - i < j → c' ≤ i → NeR h' ne nb c' f' → (∀ s, meetsAll c' f' s ↔ mtN (fun w => bt (uses mn tx tl v w) pg) i s) → Kp (fun t => t = 40 ∨ t = 41) h1 h' →
      Go X (Qm X (pX (fun z h' => z = fw (mtN (fun w => bt (uses mn tx tl v w) pg) 8) pg.toNat ∧ RC h' x pn pf vs pg mn tx tl du kp im ∧ Kp SC h h')) 0 0) 0 0 h' 30 [some (vR x), some (vI v), some (vI i)] [] := by
    intro j
    induction j with
    | zero => intro i h' c' f' g3 g4 g5; exact absurd g5 (by omega)
    | succ j ih =>
      intro i h' c' f' g3 g4 g5 g6 hn' hI' k'
      have kk : Kp SE h h' := (k1.mono (fun t q => by omega)).tr (k'.mono (fun t q => by omega))
      have e0' := kk _ _ _ e0 (by omega)
      have hbs' := kk _ _ _ hbs (by omega)
      have hb' : BkR h' bk 10 vs pg mn tx tl du := hb.kp kk (by omega) (by omega) (fun t q1 q2 => by omega)
      have ho' := ho1.kp k' (fun t q1 q2 => by omega)
      have hots' := kk _ _ _ hots (by omega)
      refine r_iload_n C dX7_cover_30 rfl ?_
      refine r_bipush C dX7_cover_31 (by decide) ?_
      refine r_icmp_ge (tgt := 58) C dX7_cover_33 (by decide) (fun hc33 => ?_) (fun hc33 => ?_)
      · refine r_aload_n C dX7_cover_58 rfl ?_
        refine r_get C dX7_cover_59 flX7_66 e0' rfl ?_
        refine r_aload_n C dX7_cover_62 rfl ?_
        refine r_get C dX7_cover_63 flX7_26 e0' rfl ?_
        refine r_cVi C dX7_cover_66 mlX7_128 kX0_pages (m_pages hb') hbs' rfl rfl rfl (Nat.le_of_ble_eq_true rfl) (fit hX (by decide)) ?_
        refine r_cVi C dX7_cover_69 mlX7_203 kX1_fewest (m_NfewestI hn' hpg.1 (by omega)) hn'.1 rfl rfl rfl (Nat.le_of_ble_eq_true rfl) (fit hX (by decide)) ?_
        have hi8 : i = 8 := by omega
        rw [hi8] at hI'
        exact r_iret C dX7_cover_72 (by decide) (by decide) ⟨_, rfl, fw_congr hI', RC_n hra hb kk (htr.kp (k1.tr' k') (by omega) (by omega)) ho' (hl.kp (k1.tr' k') (fun t q1 q2 => by omega)) hos hn'⟩
      · refine r_aload_n C dX7_cover_36 rfl ?_
        refine r_get C dX7_cover_37 flX7_66 e0' rfl ?_
        refine r_aload_n C dX7_cover_40 rfl ?_
        refine r_get C dX7_cover_41 flX7_50 e0' rfl ?_
        refine r_iload_n C dX7_cover_44 rfl ?_
        refine r_iload_n C dX7_cover_45 rfl ?_
        refine r_cVi C dX7_cover_46 mlX7_199 kX2_users (m_users (v := v) (w := i) ho' hb' hv0 hv1 g3 hc33 hd1) hots' rfl rfl rfl (Nat.le_of_ble_eq_true rfl) (fit hX (by decide)) ?_
        refine r_cVv C dX7_cover_49 mlX7_202 kX1_add (m_Nadd (s := bt (uses mn tx tl v i) pg) hn' (by omega)) hn'.1 rfl rfl rfl (Nat.le_of_ble_eq_true rfl) (fit hX (by decide)) ?_
        rintro h3 ⟨c3, f3, hn3, o3, r1, r2⟩
        obtain ⟨a1, a2⟩ := ne_add hn'.2.2.1 hI' r1 r2
        refine r_iinc C dX7_cover_52 rfl (by decide) (by omega) ?_
        refine r_goto (tgt := 30) C dX7_cover_55 (by decide) ?_
        exact ih (i + 1) h3 c3 f3 (by omega) (by omega) (by omega) (by omega) hn3 (fun s => (a2 s).trans (mtN_s g3).symm) (k'.tr (hn'.off o3))
  refine r_iconst C dX7_cover_28 (by decide) ?_
  refine r_istore_n C dX7_cover_29 (by decide) ?_
  exact loop 9 0 h2 0 f (by omega) (by omega) (by omega) (by omega) hne2 (fun s => ⟨fun _ => mtN_0, fun _ => meets_0⟩) k2

/-- every two versions that are not alike in what holds are told apart -/
def apP (H : Int → Int) (vs s : Int) : Prop := ∀ u v, 0 ≤ u → u < v → v < vs → bXor (H u) (H v) = 0 ∨ ¬ bAnd (bXor (H u) (H v)) s = 0
/-- the same, of those pairs that stand ahead of (i, k) -/
def apQ (H : Int → Int) (vs i k s : Int) : Prop := ∀ u v, 0 ≤ u → u < v → v < vs → (u < i ∨ (u = i ∧ v < k)) → bXor (H u) (H v) = 0 ∨ ¬ bAnd (bXor (H u) (H v)) s = 0
noncomputable def aApart (vs pg : Int) (mn : Int → Int) (tx : Int → Int → Int) (tl du : Int → Int) : Int := fw (apP (fun v => bt (hold mn tx tl du v) pg) vs) pg.toNat
theorem C_apart (hc : RC h x pn pf vs pg mn tx tl du kp im) (hI : IB vs pg mn tx tl du) : Meets yX7_apart cX7_apart 3 (some .int) 200 0 0 [vR x] h (pX (fun z h' => z = aApart vs pg mn tx tl du ∧ RC h' x pn pf vs pg mn tx tl du kp im ∧ Kp SC h h')) := by
  obtain ⟨pad, pb, tr, bk, ims, kpa, rk, ao, al, ne, i0, i1, nb, z1, z2, z3, gp, kf, kn, cs, kn2, no, f, fi, c, hra, htr, hb, ho, hl, hos, hne⟩ := id hc
  obtain ⟨⟨e0, e1, e2, e3, e4⟩, him, hp⟩ := id hra
  obtain ⟨nt, x1, x2, x3, x4, x5, ft, fs, f2, f4, f5, ⟨hbs, -⟩, -, hvs, hpg, -⟩ := id hb
  obtain ⟨y1, y2, y3, xw, ca, us, fw', pl, gv, op, uu, ⟨hots, -⟩, -⟩ := id ho
  refine Meets.of (plainFor_of_name (by decide)) (Nat.le_of_ble_eq_true rfl) (fun X C hX hN hA => ?_)
  have back : ∀ (h1 : Pic) (kn1 : Int → Int), OS h1 ao bk rk vs pg mn tx tl kn1 → Kp SO h h1 → (∀ v p, 0 ≤ v → v < vs → 0 ≤ p → p < pg → tl p = -6 → ¬ kn1 (v * 12 + p) = 0) → Go X (Qm X (pX (fun z h' => z = aApart vs pg mn tx tl du ∧ RC h' x pn pf vs pg mn tx tl du kp im ∧ Kp SC h h')) 0 0) 0 0 h1 27 [some (vR x), some (vI vs), none] [] := by
    intro h1 kn1 ho1 k1 hd1
    have e01 := k1 _ _ _ e0 (by omega)
    have hne1 := hne.kp k1 (by omega) (by omega)
    refine r_aload_n C dX7_apart_27 rfl ?_
    refine r_get C dX7_apart_28 flX7_66 e01 rfl ?_
    refine r_cVv C dX7_apart_31 mlX7_198 kX1_clear (m_Nclear hne1) hne1.1 rfl rfl rfl (Nat.le_of_ble_eq_true rfl) (fit hX (by decide)) ?_
    rintro h2 ⟨hne2, o2⟩
    have k2 := hne1.off o2
    have outer : ∀ (j : Nat) (i : Int) (h' : Pic) (c' : Int) (f' : Int → Int) (o : Option Va), 0 ≤ i → i ≤ vs → vs - i < j → c' ≤ i * 6 → NeR h' ne nb c' f' → (∀ s, meetsAll c' f' s ↔ apQ (fun v => bt (hold mn tx tl du v) pg) vs i 0 s) → Kp (fun t => t = 40 ∨ t = 41) h1 h' →
        Go X (Qm X (pX (fun z h' => z = aApart vs pg mn tx tl du ∧ RC h' x pn pf vs pg mn tx tl du kp im ∧ Kp SC h h')) 0 0) 0 0 h' 36 [some (vR x), some (vI i), o] [] := by
      intro j
      induction j with
      | zero => intro i h' c' f' o g3 g4 g5; exact absurd g5 (by omega)
      | succ j ih =>
        intro i h' c' f' o g3 g4 g5 g6 hn' hI' k'
        have kk : Kp SE h h' := (k1.mono (fun t q => by omega)).tr (k'.mono (fun t q => by omega))
        have e0' := kk _ _ _ e0 (by omega)
        have hbs' := kk _ _ _ hbs (by omega)
        have hb' : BkR h' bk 10 vs pg mn tx tl du := hb.kp kk (by omega) (by omega) (fun t q1 q2 => by omega)
        have ho' := ho1.kp k' (fun t q1 q2 => by omega)
        refine r_iload_n C dX7_apart_36 rfl ?_
        refine r_aload_n C dX7_apart_37 rfl ?_
        refine r_get C dX7_apart_38 flX7_26 e0' rfl ?_
        refine r_cVi C dX7_apart_41 mlX7_83 kX0_versions (m_versions hb') hbs' rfl rfl rfl (Nat.le_of_ble_eq_true rfl) (fit hX (by decide)) ?_
        refine r_icmp_ge (tgt := 98) C dX7_apart_44 (by decide) (fun hc44 => ?_) (fun hc44 => ?_)
        · refine r_aload_n C dX7_apart_98 rfl ?_
          refine r_get C dX7_apart_99 flX7_66 e0' rfl ?_
          refine r_aload_n C dX7_apart_102 rfl ?_
          refine r_get C dX7_apart_103 flX7_26 e0' rfl ?_
          refine r_cVi C dX7_apart_106 mlX7_128 kX0_pages (m_pages hb') hbs' rfl rfl rfl (Nat.le_of_ble_eq_true rfl) (fit hX (by decide)) ?_
          refine r_cVi C dX7_apart_109 mlX7_203 kX1_fewest (m_NfewestI hn' hpg.1 (by omega)) hn'.1 rfl rfl rfl (Nat.le_of_ble_eq_true rfl) (fit hX (by decide)) ?_
          refine r_iret C dX7_apart_112 (by decide) (by decide) ⟨_, rfl, fw_congr (fun s => (hI' s).trans ⟨fun q u v u0 u1 v1 => q u v u0 u1 v1 (Or.inl (by omega)), fun q u v u0 u1 v1 _ => q u v u0 u1 v1⟩), RC_n hra hb kk (htr.kp (k1.tr' k') (by omega) (by omega)) ho' (hl.kp (k1.tr' k') (fun t q1 q2 => by omega)) hos hn'⟩
        · have inner : ∀ (m : Nat) (w : Int) (h' : Pic) (c' : Int) (f' : Int → Int), i < w → w ≤ vs → vs - w < m → c' ≤ i * 6 + (w - i - 1) → NeR h' ne nb c' f' → (∀ s, meetsAll c' f' s ↔ apQ (fun v => bt (hold mn tx tl du v) pg) vs i w s) → Kp (fun t => t = 40 ∨ t = 41) h1 h' →
              Go X (Qm X (pX (fun z h' => z = aApart vs pg mn tx tl du ∧ RC h' x pn pf vs pg mn tx tl du kp im ∧ Kp SC h h')) 0 0) 0 0 h' 51 [some (vR x), some (vI i), some (vI w)] [] := by
            intro m
            induction m with
            | zero => intro w h' c' f' g3 g4 g5; exact absurd g5 (by omega)
            | succ m ihm =>
              intro w h' c' f' w1 w2 w3 w4 hn' hI' k'
              have kk : Kp SE h h' := (k1.mono (fun t q => by omega)).tr (k'.mono (fun t q => by omega))
              have e0' := kk _ _ _ e0 (by omega)
              have hbs' := kk _ _ _ hbs (by omega)
              have hots' := kk _ _ _ hots (by omega)
              have hb' : BkR h' bk 10 vs pg mn tx tl du := hb.kp kk (by omega) (by omega) (fun t q1 q2 => by omega)
              have ho' := ho1.kp k' (fun t q1 q2 => by omega)
              refine r_iload_n C dX7_apart_51 rfl ?_
              refine r_aload_n C dX7_apart_52 rfl ?_
              refine r_get C dX7_apart_53 flX7_26 e0' rfl ?_
              refine r_cVi C dX7_apart_56 mlX7_83 kX0_versions (m_versions hb') hbs' rfl rfl rfl (Nat.le_of_ble_eq_true rfl) (fit hX (by decide)) ?_
              refine r_icmp_ge (tgt := 92) C dX7_apart_59 (by decide) (fun hc59 => ?_) (fun hc59 => ?_)
              · refine r_iinc C dX7_apart_92 rfl (by decide) (by omega) ?_
                refine r_goto (tgt := 36) C dX7_apart_95 (by decide) ?_
                refine ih (i + 1) h' c' f' _ (by omega) (by omega) (by omega) (by omega) hn' (fun s => (hI' s).trans ⟨fun q u v u0 u1 v1 z => q u v u0 u1 v1 (by omega), fun q u v u0 u1 v1 z => q u v u0 u1 v1 (by omega)⟩) k'
              · refine r_aload_n C dX7_apart_62 rfl ?_
                refine r_get C dX7_apart_63 flX7_66 e0' rfl ?_
                refine r_aload_n C dX7_apart_66 rfl ?_
                refine r_get C dX7_apart_67 flX7_50 e0' rfl ?_
                refine r_iload_n C dX7_apart_70 rfl ?_
                refine r_cVi C dX7_apart_71 mlX7_206 kX2_holding (m_holding (v := i) ho' hb' g3 (by omega) (fun p => hd1 i p g3 (by omega))) hots' rfl rfl rfl (Nat.le_of_ble_eq_true rfl) (fit hX (by decide)) ?_
                refine r_aload_n C dX7_apart_74 rfl ?_
                refine r_get C dX7_apart_75 flX7_50 e0' rfl ?_
                refine r_iload_n C dX7_apart_78 rfl ?_
                refine r_cVi C dX7_apart_79 mlX7_206 kX2_holding (m_holding (v := w) ho' hb' (by omega) hc59 (fun p => hd1 w p (by omega) hc59)) hots' rfl rfl rfl (Nat.le_of_ble_eq_true rfl) (fit hX (by decide)) ?_
                refine r_ixor C dX7_apart_82 ?_
                refine r_cVv C dX7_apart_83 mlX7_202 kX1_add (m_Nadd (s := bXor (bt (hold mn tx tl du i) pg) (bt (hold mn tx tl du w) pg)) hn' (by omega)) hn'.1 rfl rfl rfl (Nat.le_of_ble_eq_true rfl) (fit hX (by decide)) ?_
                rintro h3 ⟨c3, f3, hn3, o3, r1, r2⟩
                obtain ⟨a1, a2⟩ := ne_add hn'.2.2.1 hI' r1 r2
                refine r_iinc C dX7_apart_86 rfl (by decide) (by omega) ?_
                refine r_goto (tgt := 51) C dX7_apart_89 (by decide) ?_
                refine ihm (w + 1) h3 c3 f3 (by omega) (by omega) (by omega) (by omega) hn3 (fun s => (a2 s).trans ⟨fun q u v u0 u1 v1 z => ?_, fun q => ⟨fun u v u0 u1 v1 z => q u v u0 u1 v1 (by omega), q i w g3 w1 hc59 (Or.inr ⟨rfl, by omega⟩)⟩⟩) (k'.tr (hn'.off o3))
                by_cases hz : u = i ∧ v = w
                · rw [hz.1, hz.2]; exact q.2
                · exact q.1 u v u0 u1 v1 (by omega)
          refine r_iload_n C dX7_apart_47 rfl ?_
          refine r_iconst C dX7_apart_48 (by decide) ?_
          refine r_iadd C dX7_apart_49 (by omega) ?_
          refine r_istore_n C dX7_apart_50 (by decide) ?_
          exact inner 7 (i + 1) h' c' f' (by omega) (by omega) (by omega) (by omega) hn' (fun s => (hI' s).trans ⟨fun q u v u0 u1 v1 z => q u v u0 u1 v1 (by omega), fun q u v u0 u1 v1 z => q u v u0 u1 v1 (by omega)⟩) k'
    refine r_iconst C dX7_apart_34 (by decide) ?_
    refine r_istore_n C dX7_apart_35 (by decide) ?_
    exact outer 7 0 h2 0 f none (by omega) (by omega) (by omega) (by omega) hne2 (fun s => ⟨fun _ u v u0 u1 v1 z => by omega, fun _ => meets_0⟩) k2
  have loop : ∀ (j : Nat) (i : Int) (h' : Pic) (kn' : Int → Int), 0 ≤ i → i ≤ vs → vs - i < j → OS h' ao bk rk vs pg mn tx tl kn' → Kp SO h h' → (∀ v p, 0 ≤ v → v < i → 0 ≤ p → p < pg → tl p = -6 → ¬ kn' (v * 12 + p) = 0) → Go X (Qm X (pX (fun z h' => z = aApart vs pg mn tx tl du ∧ RC h' x pn pf vs pg mn tx tl du kp im ∧ Kp SC h h')) 0 0) 0 0 h' 2 [some (vR x), some (vI i), none] [] := by
    intro j
    induction j with
    | zero => intro i h' kn' g3 g4 g5; exact absurd g5 (by omega)
    | succ j ih =>
      intro i h' kn' g3 g4 g5 ho' k' hd'
      have e0' := k' _ _ _ e0 (by omega)
      have hbs' := k' _ _ _ hbs (by omega)
      have hots' := k' _ _ _ hots (by omega)
      have hb' : BkR h' bk 10 vs pg mn tx tl du := hb.kp k' (by omega) (by omega) (fun t q1 q2 => by omega)
      refine r_iload_n C dX7_apart_2 rfl ?_
      refine r_aload_n C dX7_apart_3 rfl ?_
      refine r_get C dX7_apart_4 flX7_26 e0' rfl ?_
      refine r_cVi C dX7_apart_7 mlX7_83 kX0_versions (m_versions hb') hbs' rfl rfl rfl (Nat.le_of_ble_eq_true rfl) (fit hX (by decide)) ?_
      refine r_icmp_ge (tgt := 27) C dX7_apart_10 (by decide) (fun hc10 => ?_) (fun hc10 => ?_)
      · have hiv : i = vs := by omega
        rw [hiv] at hd' ⊢
        exact back h' kn' ho' k' hd'
      · refine r_aload_n C dX7_apart_13 rfl ?_
        refine r_get C dX7_apart_14 flX7_50 e0' rfl ?_
        refine r_iload_n C dX7_apart_17 rfl ?_
        refine r_cVv C dX7_apart_18 mlX7_195 kX2_learnAll (m_OlearnAll (v := i) ho' hb' hI.1 g3 hc10) hots' rfl rfl rfl (Nat.le_of_ble_eq_true rfl) (fit hX (by decide)) ?_
        rintro h2 ⟨kn2', ho2, k2, hm2, hd2⟩
        refine r_iinc C dX7_apart_21 rfl (by decide) (by omega) ?_
        refine r_goto (tgt := 2) C dX7_apart_24 (by decide) ?_
        refine ih (i + 1) h2 kn2' (by omega) (by omega) (by omega) ho2 (k'.tr k2) (fun v p v0 v1 p0 p1 hex => ?_)
        by_cases hvi : v = i
        · rw [hvi]; exact hd2 p p0 p1 hex
        · exact hm2 _ (hd' v p v0 (by omega) p0 p1 hex)
  refine r_iconst C dX7_apart_0 (by decide) ?_
  refine r_istore_n C dX7_apart_1 (by decide) ?_
  exact loop 7 0 h kn (by omega) (by omega) (by omega) ho Kp.rf (fun v p v0 v1 => by omega)
noncomputable def aSlip (vs : Int) (mn : Int → Int) (tx : Int → Int → Int) (v i : Int) : Int := if ¬ (0 ≤ v ∧ v < vs) then -1 else if i = -1 then sc (isS mn tx v) 320 else if 0 ≤ i ∧ i < sc (isS mn tx v) 320 then 100 * (en (isS mn tx v) 320 i / 40) + en (isS mn tx v) 320 i % 40 else -6
theorem C_slip {v i : Int} (hc : RC h x pn pf vs pg mn tx tl du kp im) : Meets yX7_slip cX7_slip 4 (some .int) 200 0 0 [vR x, vI v, vI i] h (pX (fun z h' => z = aSlip vs mn tx v i ∧ RC h' x pn pf vs pg mn tx tl du kp im ∧ Kp SC h h')) := by
  obtain ⟨pad, pb, tr, bk, ims, kpa, rk, ao, al, ne, i0, i1, nb, z1, z2, z3, gp, kf, kn, cs, kn2, no, f, fi, c, hra, htr, hb, ho, hl, hos, hne⟩ := id hc
  obtain ⟨⟨e0, e1, e2, e3, e4⟩, him, hp⟩ := id hra
  obtain ⟨nt, x1, x2, x3, x4, x5, ft, fs, f2, f4, f5, ⟨hbs, -⟩, -, hvs, hpg, -⟩ := id hb
  refine Meets.of (plainFor_of_name (by decide)) (Nat.le_of_ble_eq_true rfl) (fun X C hX hN hA => ?_)
  refine r_aload_n C dX7_slip_0 rfl ?_
  refine r_get C dX7_slip_1 flX7_26 e0 rfl ?_
  refine r_iload_n C dX7_slip_4 rfl ?_
  refine r_cVi C dX7_slip_5 mlX7_106 kX0_hasVersion (m_hasVersion (v := v) hb) hbs rfl rfl rfl (Nat.le_of_ble_eq_true rfl) (fit hX (by decide)) ?_
  refine r_if_ne (tgt := 13) C dX7_slip_8 (by decide) (fun hc8 => ?_) (fun hc8 => ?_)
  rotate_left
  · have hv : aSlip vs mn tx v i = -1 := if_pos (zb_0.mp hc8)
    rw [hv]
    refine r_iconst C dX7_slip_11 (by decide) ?_
    exact r_iret C dX7_slip_12 (by decide) (by decide) ⟨_, rfl, rfl, hc, Kp.rf⟩
  obtain ⟨hv0, hv1⟩ := zb_n0.mp hc8
  have hv : aSlip vs mn tx v i = if i = -1 then sc (isS mn tx v) 320 else if 0 ≤ i ∧ i < sc (isS mn tx v) 320 then 100 * (en (isS mn tx v) 320 i / 40) + en (isS mn tx v) 320 i % 40 else -6 := if_neg (by omega)
  rw [hv]
  refine r_aload_n C dX7_slip_13 rfl ?_
  refine r_get C dX7_slip_14 flX7_59 e0 rfl ?_
  refine r_iload_n C dX7_slip_17 rfl ?_
  refine r_cVx C dX7_slip_18 mlX7_209 kX5_list (m_list (v := v) hl hb hv0 hv1) hl.1 rfl rfl rfl (Nat.le_of_ble_eq_true rfl) (fit hX (by decide)) ?_
  rintro z h1 ⟨rfl, cs1, hl1, k1, hok1⟩
  have hR := RC_n (kn := kn) hra hb (k1.mono (fun t q => by omega)) (htr.kp k1 (by omega) (by omega)) (ho.kp k1 (fun t q1 q2 => by omega)) hl1 hos (hne.kp k1 (by omega) (by omega))
  have hsc := sc_rng (isS mn tx v) (i := 320) (by omega)
  have e01 := k1 _ _ _ e0 (by omega)
  refine r_istore_n C dX7_slip_21 (by decide) ?_
  refine r_iload_n C dX7_slip_22 rfl ?_
  refine r_iconst C dX7_slip_23 (by decide) ?_
  refine r_icmp_ne (tgt := 29) C dX7_slip_24 (by decide) (fun hc24 => ?_) (fun hc24 => ?_)
  rotate_left
  · refine r_iload_n C dX7_slip_27 rfl ?_
    exact r_iret C dX7_slip_28 (by decide) (by decide) ⟨_, rfl, (if_pos hc24).symm, hR⟩
  rw [if_neg hc24]
  refine r_iload_n C dX7_slip_29 rfl ?_
  refine r_if_lt (tgt := 49) C dX7_slip_30 (by decide) (fun hc30 => ?_) (fun hc30 => ?_)
  · refine r_bipush C dX7_slip_49 (by decide) ?_
    exact r_iret C dX7_slip_51 (by decide) (by decide) ⟨_, rfl, (if_neg (by omega)).symm, hR⟩
  refine r_iload_n C dX7_slip_33 rfl ?_
  refine r_iload_n C dX7_slip_34 rfl ?_
  refine r_icmp_ge (tgt := 49) C dX7_slip_35 (by decide) (fun hc35 => ?_) (fun hc35 => ?_)
  · refine r_bipush C dX7_slip_49 (by decide) ?_
    exact r_iret C dX7_slip_51 (by decide) (by decide) ⟨_, rfl, (if_neg (by omega)).symm, hR⟩
  refine r_aload_n C dX7_slip_38 rfl ?_
  refine r_get C dX7_slip_39 flX7_59 e01 rfl ?_
  refine r_iload_n C dX7_slip_42 rfl ?_
  refine r_cVi C dX7_slip_43 mlX7_212 kX5_code (m_Scode (s := i) hl1 hc30 (by omega)) hl1.1 rfl rfl rfl (Nat.le_of_ble_eq_true rfl) (fit hX (by decide)) ?_
  refine r_goto (tgt := 51) C dX7_slip_46 (by decide) ?_
  exact r_iret C dX7_slip_51 (by decide) (by decide) ⟨_, rfl, (hok1 i hc30 hc35).trans (if_pos ⟨hc30, hc35⟩).symm, hR⟩
/-- the examples that notice slip s of a version, as bits -/
noncomputable def nt_ (pg : Int) (mn : Int → Int) (tx : Int → Int → Int) (tl du : Int → Int) (v s : Int) : Int := bt (ntc mn tx tl du v (en (isS mn tx v) 320 s)) pg
noncomputable def aNoticed (vs pg : Int) (mn : Int → Int) (tx : Int → Int → Int) (tl du : Int → Int) (v i : Int) : Int := if ¬ (0 ≤ v ∧ v < vs) then -1 else if i < 0 ∨ sc (isS mn tx v) 320 ≤ i then -2 else nt_ pg mn tx tl du v i
theorem C_noticed {v i : Int} (hc : RC h x pn pf vs pg mn tx tl du kp im) (hI : IB vs pg mn tx tl du) : Meets yX7_noticed cX7_noticed 4 (some .int) 200 0 0 [vR x, vI v, vI i] h (pX (fun z h' => z = aNoticed vs pg mn tx tl du v i ∧ RC h' x pn pf vs pg mn tx tl du kp im ∧ Kp SC h h')) := by
  obtain ⟨pad, pb, tr, bk, ims, kpa, rk, ao, al, ne, i0, i1, nb, z1, z2, z3, gp, kf, kn, cs, kn2, no, f, fi, c, hra, htr, hb, ho, hl, hos, hne⟩ := id hc
  obtain ⟨⟨e0, e1, e2, e3, e4⟩, him, hp⟩ := id hra
  obtain ⟨nt, x1, x2, x3, x4, x5, ft, fs, f2, f4, f5, ⟨hbs, -⟩, -, hvs, hpg, -⟩ := id hb
  obtain ⟨y1, y2, y3, xw, ca, us, fw', pl, gv, op, uu, ⟨hots, -⟩, -⟩ := id ho
  refine Meets.of (plainFor_of_name (by decide)) (Nat.le_of_ble_eq_true rfl) (fun X C hX hN hA => ?_)
  refine r_aload_n C dX7_noticed_0 rfl ?_
  refine r_get C dX7_noticed_1 flX7_26 e0 rfl ?_
  refine r_iload_n C dX7_noticed_4 rfl ?_
  refine r_cVi C dX7_noticed_5 mlX7_106 kX0_hasVersion (m_hasVersion (v := v) hb) hbs rfl rfl rfl (Nat.le_of_ble_eq_true rfl) (fit hX (by decide)) ?_
  refine r_if_ne (tgt := 13) C dX7_noticed_8 (by decide) (fun hc8 => ?_) (fun hc8 => ?_)
  rotate_left
  · have hv : aNoticed vs pg mn tx tl du v i = -1 := if_pos (zb_0.mp hc8)
    rw [hv]
    refine r_iconst C dX7_noticed_11 (by decide) ?_
    exact r_iret C dX7_noticed_12 (by decide) (by decide) ⟨_, rfl, rfl, hc, Kp.rf⟩
  obtain ⟨hv0, hv1⟩ := zb_n0.mp hc8
  have hv : aNoticed vs pg mn tx tl du v i = if i < 0 ∨ sc (isS mn tx v) 320 ≤ i then -2 else nt_ pg mn tx tl du v i := if_neg (by omega)
  rw [hv]
  refine r_aload_n C dX7_noticed_13 rfl ?_
  refine r_get C dX7_noticed_14 flX7_50 e0 rfl ?_
  refine r_iload_n C dX7_noticed_17 rfl ?_
  refine r_cVv C dX7_noticed_18 mlX7_195 kX2_learnAll (m_OlearnAll (v := v) ho hb hI.1 hv0 hv1) hots rfl rfl rfl (Nat.le_of_ble_eq_true rfl) (fit hX (by decide)) ?_
  rintro h1 ⟨kn1, ho1, k1, hm1, hd1⟩
  have e01 := k1 _ _ _ e0 (by omega)
  have hl1 := hl.kp k1 (fun t q1 q2 => by omega)
  have hb1 : BkR h1 bk 10 vs pg mn tx tl du := hb.kp k1 (by omega) (by omega) (fun t q1 q2 => by omega)
  refine r_aload_n C dX7_noticed_21 rfl ?_
  refine r_get C dX7_noticed_22 flX7_59 e01 rfl ?_
  refine r_iload_n C dX7_noticed_25 rfl ?_
  refine r_cVx C dX7_noticed_26 mlX7_215 kX5_learn (m_Slearn (v := v) hl1 hos ho1 hb1 (htr.kp k1 (by omega) (by omega)) hI.1 hI.du hv0 hv1 hd1) hl1.1 rfl rfl rfl (Nat.le_of_ble_eq_true rfl) (fit hX (by decide)) ?_
  rintro z h2 ⟨rfl, cs2, kn2', no2, hl2, hos2, hkv, ho2, htr2, k2⟩
  have k12 : Kp SE h h2 := (k1.mono (fun t q => by omega)).tr (k2.mono (fun t q => by omega))
  have hb2 : BkR h2 bk 10 vs pg mn tx tl du := hb.kp k12 (by omega) (by omega) (fun t q1 q2 => by omega)
  have hR := RC_n hra hb k12 htr2 ho2 hl2 hos2 ((hne.kp k1 (by omega) (by omega)).kp k2 (by omega) (by omega))
  have e02 := k12 _ _ _ e0 (by omega)
  have hsc := sc_rng (isS mn tx v) (i := 320) (by omega)
  refine r_istore_n C dX7_noticed_29 (by decide) ?_
  refine r_iload_n C dX7_noticed_30 rfl ?_
  refine r_if_lt (tgt := 39) C dX7_noticed_31 (by decide) (fun hc31 => ?_) (fun hc31 => ?_)
  · refine r_bipush C dX7_noticed_39 (by decide) ?_
    exact r_iret C dX7_noticed_41 (by decide) (by decide) ⟨_, rfl, (if_pos (Or.inl hc31)).symm, hR⟩
  refine r_iload_n C dX7_noticed_34 rfl ?_
  refine r_iload_n C dX7_noticed_35 rfl ?_
  refine r_icmp_lt (tgt := 42) C dX7_noticed_36 (by decide) (fun hc36 => ?_) (fun hc36 => ?_)
  rotate_left
  · refine r_bipush C dX7_noticed_39 (by decide) ?_
    exact r_iret C dX7_noticed_41 (by decide) (by decide) ⟨_, rfl, (if_pos (Or.inr hc36)).symm, hR⟩
  refine r_aload_n C dX7_noticed_42 rfl ?_
  refine r_get C dX7_noticed_43 flX7_59 e02 rfl ?_
  refine r_iload_n C dX7_noticed_46 rfl ?_
  refine r_iload_n C dX7_noticed_47 rfl ?_
  refine r_cVi C dX7_noticed_48 mlX7_217 kX5_noticers (m_Snoticers (v := v) (s := i) hl2 hb2 hv0 hv1 hc31 (by omega)) hl2.1 rfl rfl rfl (Nat.le_of_ble_eq_true rfl) (fit hX (by decide)) ?_
  exact r_iret C dX7_noticed_51 (by decide) (by decide) ⟨_, rfl, ((hos2 v hv0 (by omega) hkv).2 i hc31 hc36).trans (if_neg (by omega)).symm, hR⟩
/-- over the slips from k on, n of them unshown so far: the i-th unshown one; for -1 how many -/
noncomputable def unN (N : Int → Int) (c i : Int) : Nat → Int → Int → Int
  | 0, _, _ => 0
  | j + 1, k, n => if c ≤ k then (if i = -1 then n else -6) else if N k = 0 then (if n = i then k else unN N c i j (k + 1) (n + 1)) else unN N c i j (k + 1) n
noncomputable def aUnshown (vs pg : Int) (mn : Int → Int) (tx : Int → Int → Int) (tl du : Int → Int) (v i : Int) : Int := if ¬ (0 ≤ v ∧ v < vs) then -1 else unN (nt_ pg mn tx tl du v) (sc (isS mn tx v) 320) i 321 0 0
theorem C_unshown {v i : Int} (hc : RC h x pn pf vs pg mn tx tl du kp im) (hI : IB vs pg mn tx tl du) : Meets yX7_unshown cX7_unshown 6 (some .int) 200 0 0 [vR x, vI v, vI i] h (pX (fun z h' => z = aUnshown vs pg mn tx tl du v i ∧ RC h' x pn pf vs pg mn tx tl du kp im ∧ Kp SC h h')) := by
  obtain ⟨pad, pb, tr, bk, ims, kpa, rk, ao, al, ne, i0, i1, nb, z1, z2, z3, gp, kf, kn, cs, kn2, no, f, fi, c, hra, htr, hb, ho, hl, hos, hne⟩ := id hc
  obtain ⟨⟨e0, e1, e2, e3, e4⟩, him, hp⟩ := id hra
  obtain ⟨nt, x1, x2, x3, x4, x5, ft, fs, f2, f4, f5, ⟨hbs, -⟩, -, hvs, hpg, -⟩ := id hb
  obtain ⟨y1, y2, y3, xw, ca, us, fw', pl, gv, op, uu, ⟨hots, -⟩, -⟩ := id ho
  refine Meets.of (plainFor_of_name (by decide)) (Nat.le_of_ble_eq_true rfl) (fun X C hX hN hA => ?_)
  refine r_aload_n C dX7_unshown_0 rfl ?_
  refine r_get C dX7_unshown_1 flX7_26 e0 rfl ?_
  refine r_iload_n C dX7_unshown_4 rfl ?_
  refine r_cVi C dX7_unshown_5 mlX7_106 kX0_hasVersion (m_hasVersion (v := v) hb) hbs rfl rfl rfl (Nat.le_of_ble_eq_true rfl) (fit hX (by decide)) ?_
  refine r_if_ne (tgt := 13) C dX7_unshown_8 (by decide) (fun hc8 => ?_) (fun hc8 => ?_)
  rotate_left
  · have hv : aUnshown vs pg mn tx tl du v i = -1 := if_pos (zb_0.mp hc8)
    rw [hv]
    refine r_iconst C dX7_unshown_11 (by decide) ?_
    exact r_iret C dX7_unshown_12 (by decide) (by decide) ⟨_, rfl, rfl, hc, Kp.rf⟩
  obtain ⟨hv0, hv1⟩ := zb_n0.mp hc8
  have hv : aUnshown vs pg mn tx tl du v i = unN (nt_ pg mn tx tl du v) (sc (isS mn tx v) 320) i 321 0 0 := if_neg (by omega)
  refine r_aload_n C dX7_unshown_13 rfl ?_
  refine r_get C dX7_unshown_14 flX7_50 e0 rfl ?_
  refine r_iload_n C dX7_unshown_17 rfl ?_
  refine r_cVv C dX7_unshown_18 mlX7_195 kX2_learnAll (m_OlearnAll (v := v) ho hb hI.1 hv0 hv1) hots rfl rfl rfl (Nat.le_of_ble_eq_true rfl) (fit hX (by decide)) ?_
  rintro h1 ⟨kn1, ho1, k1, hm1, hd1⟩
  have e01 := k1 _ _ _ e0 (by omega)
  have hl1 := hl.kp k1 (fun t q1 q2 => by omega)
  have hb1 : BkR h1 bk 10 vs pg mn tx tl du := hb.kp k1 (by omega) (by omega) (fun t q1 q2 => by omega)
  refine r_aload_n C dX7_unshown_21 rfl ?_
  refine r_get C dX7_unshown_22 flX7_59 e01 rfl ?_
  refine r_iload_n C dX7_unshown_25 rfl ?_
  refine r_cVx C dX7_unshown_26 mlX7_215 kX5_learn (m_Slearn (v := v) hl1 hos ho1 hb1 (htr.kp k1 (by omega) (by omega)) hI.1 hI.du hv0 hv1 hd1) hl1.1 rfl rfl rfl (Nat.le_of_ble_eq_true rfl) (fit hX (by decide)) ?_
  rintro z h2 ⟨rfl, cs2, kn2', no2, hl2, hos2, hkv, ho2, htr2, k2⟩
  have k12 : Kp SE h h2 := (k1.mono (fun t q => by omega)).tr (k2.mono (fun t q => by omega))
  have hb2 : BkR h2 bk 10 vs pg mn tx tl du := hb.kp k12 (by omega) (by omega) (fun t q1 q2 => by omega)
  have hR := RC_n hra hb k12 htr2 ho2 hl2 hos2 ((hne.kp k1 (by omega) (by omega)).kp k2 (by omega) (by omega))
  have e02 := k12 _ _ _ e0 (by omega)
  have hsc := sc_rng (isS mn tx v) (i := 320) (by omega)
  have hno := (hos2 v hv0 (by omega) hkv).2
  have loop : ∀ (j : Nat) (k n : Int), 0 ≤ k → k ≤ sc (isS mn tx v) 320 → sc (isS mn tx v) 320 - k < j → 0 ≤ n → n ≤ k → unN (nt_ pg mn tx tl du v) (sc (isS mn tx v) 320) i j k n = aUnshown vs pg mn tx tl du v i →
      Go X (Qm X (pX (fun z h' => z = aUnshown vs pg mn tx tl du v i ∧ RC h' x pn pf vs pg mn tx tl du kp im ∧ Kp SC h h')) 0 0) 0 0 h2 36 [some (vR x), some (vI v), some (vI i), some (vI (sc (isS mn tx v) 320)), some (vI n), some (vI k)] [] := by
    intro j
    induction j with
    | zero => intro k n g3 g4 g5; exact absurd g5 (by omega)
    | succ j ih =>
      intro k n g3 g4 g5 g6 g7 hun
      unfold unN at hun
      refine r_iload C dX7_unshown_36 rfl ?_
      refine r_iload_n C dX7_unshown_38 rfl ?_
      refine r_icmp_ge (tgt := 73) C dX7_unshown_39 (by decide) (fun hc39 => ?_) (fun hc39 => ?_)
      · rw [if_pos hc39] at hun
        refine r_iload_n C dX7_unshown_73 rfl ?_
        refine r_iconst C dX7_unshown_74 (by decide) ?_
        refine r_icmp_ne (tgt := 83) C dX7_unshown_75 (by decide) (fun hc75 => ?_) (fun hc75 => ?_)
        · rw [if_neg hc75] at hun
          refine r_bipush C dX7_unshown_83 (by decide) ?_
          exact r_iret C dX7_unshown_85 (by decide) (by decide) ⟨_, rfl, hun, hR⟩
        · rw [if_pos hc75] at hun
          refine r_iload C dX7_unshown_78 rfl ?_
          refine r_goto (tgt := 85) C dX7_unshown_80 (by decide) ?_
          exact r_iret C dX7_unshown_85 (by decide) (by decide) ⟨_, rfl, hun, hR⟩
      rw [if_neg (by omega)] at hun
      refine r_aload_n C dX7_unshown_42 rfl ?_
      refine r_get C dX7_unshown_43 flX7_59 e02 rfl ?_
      refine r_iload_n C dX7_unshown_46 rfl ?_
      refine r_iload C dX7_unshown_47 rfl ?_
      refine r_cVi C dX7_unshown_49 mlX7_217 kX5_noticers (m_Snoticers (v := v) (s := k) hl2 hb2 hv0 hv1 g3 (by omega)) hl2.1 rfl rfl rfl (Nat.le_of_ble_eq_true rfl) (fit hX (by decide)) ?_
      have hnk : no2 (v * 320 + k) = nt_ pg mn tx tl du v k := hno k g3 hc39
      refine r_if_ne (tgt := 67) C dX7_unshown_52 (by decide) (fun hc52 => ?_) (fun hc52 => ?_)
      · rw [if_neg (fun q => hc52 (hnk.trans q))] at hun
        refine r_iinc C dX7_unshown_67 rfl (by decide) (by omega) ?_
        refine r_goto (tgt := 36) C dX7_unshown_70 (by decide) ?_
        exact ih (k + 1) n (by omega) (by omega) (by omega) g6 (by omega) hun
      rw [if_pos (hnk.symm.trans hc52)] at hun
      refine r_iload C dX7_unshown_55 rfl ?_
      refine r_iload_n C dX7_unshown_57 rfl ?_
      refine r_icmp_ne (tgt := 64) C dX7_unshown_58 (by decide) (fun hc58 => ?_) (fun hc58 => ?_)
      · rw [if_neg hc58] at hun
        refine r_iinc C dX7_unshown_64 rfl (by decide) (by omega) ?_
        refine r_iinc C dX7_unshown_67 rfl (by decide) (by omega) ?_
        refine r_goto (tgt := 36) C dX7_unshown_70 (by decide) ?_
        exact ih (k + 1) (n + 1) (by omega) (by omega) (by omega) (by omega) (by omega) hun
      · rw [if_pos hc58] at hun
        refine r_iload C dX7_unshown_61 rfl ?_
        exact r_iret C dX7_unshown_63 (by decide) (by decide) ⟨_, rfl, hun, hR⟩
  refine r_istore_n C dX7_unshown_29 (by decide) ?_
  refine r_iconst C dX7_unshown_30 (by decide) ?_
  refine r_istore C dX7_unshown_31 (by decide) ?_
  refine r_iconst C dX7_unshown_33 (by decide) ?_
  refine r_istore C dX7_unshown_34 (by decide) ?_
  exact loop 321 0 0 (by omega) (by omega) (by omega) (by omega) (by omega) hv.symm
noncomputable def aNotice (vs pg : Int) (mn : Int → Int) (tx : Int → Int → Int) (tl du : Int → Int) (v : Int) : Int := if ¬ (0 ≤ v ∧ v < vs) then -1 else fw (mtN (nt_ pg mn tx tl du v) (sc (isS mn tx v) 320)) pg.toNat
theorem C_notice {v : Int} (hc : RC h x pn pf vs pg mn tx tl du kp im) (hI : IB vs pg mn tx tl du) : Meets yX7_notice cX7_notice 4 (some .int) 200 0 0 [vR x, vI v] h (pX (fun z h' => z = aNotice vs pg mn tx tl du v ∧ RC h' x pn pf vs pg mn tx tl du kp im ∧ Kp SC h h')) := by
  obtain ⟨pad, pb, tr, bk, ims, kpa, rk, ao, al, ne, i0, i1, nb, z1, z2, z3, gp, kf, kn, cs, kn2, no, f, fi, c, hra, htr, hb, ho, hl, hos, hne⟩ := id hc
  obtain ⟨⟨e0, e1, e2, e3, e4⟩, him, hp⟩ := id hra
  obtain ⟨nt, x1, x2, x3, x4, x5, ft, fs, f2, f4, f5, ⟨hbs, -⟩, -, hvs, hpg, -⟩ := id hb
  obtain ⟨y1, y2, y3, xw, ca, us, fw', pl, gv, op, uu, ⟨hots, -⟩, -⟩ := id ho
  refine Meets.of (plainFor_of_name (by decide)) (Nat.le_of_ble_eq_true rfl) (fun X C hX hN hA => ?_)
  refine r_aload_n C dX7_notice_0 rfl ?_
  refine r_get C dX7_notice_1 flX7_26 e0 rfl ?_
  refine r_iload_n C dX7_notice_4 rfl ?_
  refine r_cVi C dX7_notice_5 mlX7_106 kX0_hasVersion (m_hasVersion (v := v) hb) hbs rfl rfl rfl (Nat.le_of_ble_eq_true rfl) (fit hX (by decide)) ?_
  refine r_if_ne (tgt := 13) C dX7_notice_8 (by decide) (fun hc8 => ?_) (fun hc8 => ?_)
  rotate_left
  · have hv : aNotice vs pg mn tx tl du v = -1 := if_pos (zb_0.mp hc8)
    rw [hv]
    refine r_iconst C dX7_notice_11 (by decide) ?_
    exact r_iret C dX7_notice_12 (by decide) (by decide) ⟨_, rfl, rfl, hc, Kp.rf⟩
  obtain ⟨hv0, hv1⟩ := zb_n0.mp hc8
  have hv : aNotice vs pg mn tx tl du v = fw (mtN (nt_ pg mn tx tl du v) (sc (isS mn tx v) 320)) pg.toNat := if_neg (by omega)
  rw [hv]
  refine r_aload_n C dX7_notice_13 rfl ?_
  refine r_get C dX7_notice_14 flX7_50 e0 rfl ?_
  refine r_iload_n C dX7_notice_17 rfl ?_
  refine r_cVv C dX7_notice_18 mlX7_195 kX2_learnAll (m_OlearnAll (v := v) ho hb hI.1 hv0 hv1) hots rfl rfl rfl (Nat.le_of_ble_eq_true rfl) (fit hX (by decide)) ?_
  rintro h1 ⟨kn1, ho1, k1, hm1, hd1⟩
  have e01 := k1 _ _ _ e0 (by omega)
  have hl1 := hl.kp k1 (fun t q1 q2 => by omega)
  have hb1 : BkR h1 bk 10 vs pg mn tx tl du := hb.kp k1 (by omega) (by omega) (fun t q1 q2 => by omega)
  refine r_aload_n C dX7_notice_21 rfl ?_
  refine r_get C dX7_notice_22 flX7_59 e01 rfl ?_
  refine r_iload_n C dX7_notice_25 rfl ?_
  refine r_cVx C dX7_notice_26 mlX7_215 kX5_learn (m_Slearn (v := v) hl1 hos ho1 hb1 (htr.kp k1 (by omega) (by omega)) hI.1 hI.du hv0 hv1 hd1) hl1.1 rfl rfl rfl (Nat.le_of_ble_eq_true rfl) (fit hX (by decide)) ?_
  rintro z h2 ⟨rfl, cs2, kn2', no2, hl2, hos2, hkv, ho2, htr2, k2⟩
  have k12 : Kp SE h h2 := (k1.mono (fun t q => by omega)).tr (k2.mono (fun t q => by omega))
  have hne2 := (hne.kp k1 (by omega) (by omega)).kp k2 (by omega) (by omega)
  have e02 := k12 _ _ _ e0 (by omega)
  have hsc := sc_rng (isS mn tx v) (i := 320) (by omega)
  have hno := (hos2 v hv0 (by omega) hkv).2
  refine r_istore_n C dX7_notice_29 (by decide) ?_
  refine r_aload_n C dX7_notice_30 rfl ?_
  refine r_get C dX7_notice_31 flX7_66 e02 rfl ?_
  refine r_cVv C dX7_notice_34 mlX7_198 kX1_clear (m_Nclear hne2) hne2.1 rfl rfl rfl (Nat.le_of_ble_eq_true rfl) (fit hX (by decide)) ?_
  rintro h3 ⟨hne3, o3⟩
  have k3 := hne2.off o3
  have loop : ∀ (j : Nat) (i : Int) (h' : Pic) (c' : Int) (f' : Int → Int), 0 ≤ i → i ≤ sc (isS mn tx v) 320 → sc (isS mn tx v) 320 - i < j → c' ≤ i → NeR h' ne nb c' f' → (∀ s, meetsAll c' f' s ↔ mtN (nt_ pg mn tx tl du v) i s) → Kp (fun t => t = 40 ∨ t = 41) h2 h' →
      Go X (Qm X (pX (fun z h' => z = fw (mtN (nt_ pg mn tx tl du v) (sc (isS mn tx v) 320)) pg.toNat ∧ RC h' x pn pf vs pg mn tx tl du kp im ∧ Kp SC h h')) 0 0) 0 0 h' 39 [some (vR x), some (vI v), some (vI (sc (isS mn tx v) 320)), some (vI i)] [] := by
    intro j
    induction j with
    | zero => intro i h' c' f' g3 g4 g5; exact absurd g5 (by omega)
    | succ j ih =>
      intro i h' c' f' g3 g4 g5 g6 hn' hI' k'
      have kk : Kp SE h h' := k12.tr (k'.mono (fun t q => by omega))
      have e0' := kk _ _ _ e0 (by omega)
      have hbs' := kk _ _ _ hbs (by omega)
      have hb' : BkR h' bk 10 vs pg mn tx tl du := hb.kp kk (by omega) (by omega) (fun t q1 q2 => by omega)
      have hl' := hl2.kp k' (fun t q1 q2 => by omega)
      refine r_iload_n C dX7_notice_39 rfl ?_
      refine r_iload_n C dX7_notice_40 rfl ?_
      refine r_icmp_ge (tgt := 66) C dX7_notice_41 (by decide) (fun hc41 => ?_) (fun hc41 => ?_)
      · refine r_aload_n C dX7_notice_66 rfl ?_
        refine r_get C dX7_notice_67 flX7_66 e0' rfl ?_
        refine r_aload_n C dX7_notice_70 rfl ?_
        refine r_get C dX7_notice_71 flX7_26 e0' rfl ?_
        refine r_cVi C dX7_notice_74 mlX7_128 kX0_pages (m_pages hb') hbs' rfl rfl rfl (Nat.le_of_ble_eq_true rfl) (fit hX (by decide)) ?_
        refine r_cVi C dX7_notice_77 mlX7_203 kX1_fewest (m_NfewestI hn' hpg.1 (by omega)) hn'.1 rfl rfl rfl (Nat.le_of_ble_eq_true rfl) (fit hX (by decide)) ?_
        have hi8 : i = sc (isS mn tx v) 320 := by omega
        rw [hi8] at hI'
        exact r_iret C dX7_notice_80 (by decide) (by decide) ⟨_, rfl, fw_congr hI', RC_n hra hb kk (htr2.kp k' (by omega) (by omega)) (ho2.kp k' (fun t q1 q2 => by omega)) hl' hos2 hn'⟩
      · refine r_aload_n C dX7_notice_44 rfl ?_
        refine r_get C dX7_notice_45 flX7_66 e0' rfl ?_
        refine r_aload_n C dX7_notice_48 rfl ?_
        refine r_get C dX7_notice_49 flX7_59 e0' rfl ?_
        refine r_iload_n C dX7_notice_52 rfl ?_
        refine r_iload_n C dX7_notice_53 rfl ?_
        refine r_cVi C dX7_notice_54 mlX7_217 kX5_noticers (m_Snoticers (v := v) (s := i) hl' hb' hv0 hv1 g3 (by omega)) hl'.1 rfl rfl rfl (Nat.le_of_ble_eq_true rfl) (fit hX (by decide)) ?_
        rw [hno i g3 hc41]
        refine r_cVv C dX7_notice_57 mlX7_202 kX1_add (m_Nadd (s := nt_ pg mn tx tl du v i) hn' (by omega)) hn'.1 rfl rfl rfl (Nat.le_of_ble_eq_true rfl) (fit hX (by decide)) ?_
        rintro h4 ⟨c4, f4', hn4, o4, r1, r2⟩
        obtain ⟨a1, a2⟩ := ne_add hn'.2.2.1 hI' r1 r2
        refine r_iinc C dX7_notice_60 rfl (by decide) (by omega) ?_
        refine r_goto (tgt := 39) C dX7_notice_63 (by decide) ?_
        exact ih (i + 1) h4 c4 f4' (by omega) (by omega) (by omega) (by omega) hn4 (fun s => (a2 s).trans (mtN_s g3).symm) (k'.tr (hn'.off o4))
  refine r_iconst C dX7_notice_37 (by decide) ?_
  refine r_istore_n C dX7_notice_38 (by decide) ?_
  exact loop 321 0 h3 0 f (by omega) (by omega) (by omega) (by omega) hne3 (fun s => ⟨fun _ => mtN_0, fun _ => meets_0⟩) k3
end
