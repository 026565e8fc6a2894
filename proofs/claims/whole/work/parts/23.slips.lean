/-! Slips -/
noncomputable def scN (S : Int → Prop) : Nat → Int
  | 0 => 0
  | j + 1 => by classical exact if S j then scN S j + 1 else scN S j
noncomputable def enN (S : Int → Prop) : Nat → (Int → Int)
  | 0 => fun _ => 0
  | j + 1 => by classical exact if S j then fu (enN S j) (scN S j) j else enN S j
/-- how many of the places below i have S; which they are -/
noncomputable def sc (S : Int → Prop) (i : Int) : Int := scN S i.toNat
noncomputable def en (S : Int → Prop) (i : Int) : Int → Int := enN S i.toNat
theorem sc_t {S : Int → Prop} {i : Int} (h0 : 0 ≤ i) (hp : S i) : sc S (i + 1) = sc S i + 1 ∧ en S (i + 1) = fu (en S i) (sc S i) i := by
  unfold sc en
  have e : (i + 1).toNat = i.toNat + 1 := by omega
  have e2 : ((i.toNat : Nat) : Int) = i := by omega
  rw [e]
  constructor
  · conv => lhs; unfold scN
    rw [if_pos (by rw [e2]; exact hp)]
  · conv => lhs; unfold enN
    rw [if_pos (by rw [e2]; exact hp), e2]
theorem sc_f {S : Int → Prop} {i : Int} (h0 : 0 ≤ i) (hp : ¬ S i) : sc S (i + 1) = sc S i ∧ en S (i + 1) = en S i := by
  unfold sc en
  have e : (i + 1).toNat = i.toNat + 1 := by omega
  have e2 : ((i.toNat : Nat) : Int) = i := by omega
  rw [e]
  constructor
  · conv => lhs; unfold scN
    rw [if_neg (by rw [e2]; exact hp)]
  · conv => lhs; unfold enN
    rw [if_neg (by rw [e2]; exact hp)]
theorem sc_skip {S : Int → Prop} {a : Int} (h0 : 0 ≤ a) : ∀ (j : Nat), (∀ q, a ≤ q → q < a + j → ¬ S q) → sc S (a + j) = sc S a ∧ en S (a + j) = en S a := by
  intro j
  induction j with
  | zero => intro _; simp
  | succ j ih =>
    intro h
    obtain ⟨i1, i2⟩ := ih (fun q q1 q2 => h q q1 (by omega))
    obtain ⟨s1, s2⟩ := sc_f (S := S) (i := a + j) (by omega) (h _ (by omega) (by omega))
    rw [show a + ((j + 1 : Nat) : Int) = a + j + 1 by omega, s1, s2]
    exact ⟨i1, i2⟩
theorem sc_all (S : Int → Prop) : ∀ (j : Nat), (0 ≤ sc S j ∧ sc S j ≤ j) ∧ ∀ s, 0 ≤ s → s < sc S j → S (en S j s) ∧ 0 ≤ en S j s ∧ en S j s < j := by
  intro j
  induction j with
  | zero =>
    refine ⟨⟨Int.le_refl 0, Int.le_refl 0⟩, fun s h0 h1 => ?_⟩
    exact absurd h1 (by show ¬ s < 0; omega)
  | succ j ih =>
    obtain ⟨⟨i1, i2⟩, i3⟩ := ih
    by_cases hp : S j
    · obtain ⟨s1, s2⟩ := sc_t (S := S) (i := j) (by omega) hp
      rw [show ((j + 1 : Nat) : Int) = (j : Int) + 1 by omega, s1, s2]
      refine ⟨by omega, fun s h0 h1 => ?_⟩
      by_cases hs : s = sc S j
      · rw [hs, fu_s]; exact ⟨hp, by omega, by omega⟩
      · rw [fu_n hs]
        obtain ⟨r1, r2, r3⟩ := i3 s h0 (by omega)
        exact ⟨r1, r2, by omega⟩
    · obtain ⟨s1, s2⟩ := sc_f (S := S) (i := j) (by omega) hp
      rw [show ((j + 1 : Nat) : Int) = (j : Int) + 1 by omega, s1, s2]
      refine ⟨by omega, fun s h0 h1 => ?_⟩
      obtain ⟨r1, r2, r3⟩ := i3 s h0 h1
      exact ⟨r1, r2, by omega⟩
theorem sc_rng (S : Int → Prop) {i : Int} (h : 0 ≤ i) : 0 ≤ sc S i ∧ sc S i ≤ i := by
  obtain ⟨j, rfl⟩ := Int.eq_ofNat_of_zero_le h
  exact (sc_all S j).1
theorem en_ok (S : Int → Prop) {i s : Int} (h : 0 ≤ i) (h0 : 0 ≤ s) (h1 : s < sc S i) : S (en S i s) ∧ 0 ≤ en S i s ∧ en S i s < i := by
  obtain ⟨j, rfl⟩ := Int.eq_ofNat_of_zero_le h
  exact (sc_all S j).2 s h0 h1
/-- a slip of version v: word q / 40, place q % 40 -/
def isS (mn : Int → Int) (tx : Int → Int → Int) (v q : Int) : Prop := q % 40 < mn (8 * v + q / 40) ∧ ¬ slp (tx (8 * v + q / 40) (q % 40)) = -6
/-- the words with that slip -/
def wtS (tx : Int → Int → Int) (v q : Int) : Int → Int → Int := fun w => if w = q / 40 then fu (tx (8 * v + q / 40)) (q % 40) (slp (tx (8 * v + q / 40) (q % 40))) else tx (8 * v + w)
def evS (mn : Int → Int) (tx : Int → Int → Int) (v q p : Int) : Sv := evT (fun w => mn (8 * v + w)) (wtS tx v q) (mn (48 + p)) (tx (48 + p)) 0
/-- the example on page p notices that slip -/
def ntc (mn : Int → Int) (tx : Int → Int → Int) (tl du : Int → Int) (v q p : Int) : Prop := hold mn tx tl du v p ∧ ¬ (evS mn tx v q p).1 = du p
def SlR (h : Pic) (al bk ao rk tr z1 z2 z3 : Nat) (cs kn no : Int → Int) : Prop := h al = some (ob 48 5 [vR bk, vR ao, vR rk, vR tr, vR z1, vR z2, vR z3]) ∧ h z1 = some (ia 49 0 320 cs) ∧ h z2 = some (ia 50 2 6 kn) ∧ h z3 = some (ia 51 0 1920 no)
/-- the codes of the slips, as they are listed -/
def okC (mn : Int → Int) (tx : Int → Int → Int) (v i : Int) (cs : Int → Int) : Prop := ∀ s, 0 ≤ s → s < sc (isS mn tx v) i → cs s = 100 * (en (isS mn tx v) i s / 40) + en (isS mn tx v) i s % 40
theorem m_list {h : Pic} {al bk ao rk tr z1 z2 z3 : Nat} {cs kn no : Int → Int} {vs pg v : Int} {mn : Int → Int} {tx : Int → Int → Int} {tl du : Int → Int} (hl : SlR h al bk ao rk tr z1 z2 z3 cs kn no) (hb : BkR h bk 10 vs pg mn tx tl du) (hv : 0 ≤ v) (hv2 : v < vs) :
    Meets yX5_list cX5_list 6 (some .int) 2 0 0 [vR al, vI v] h (pX (fun z h' => z = sc (isS mn tx v) 320 ∧ ∃ cs', SlR h' al bk ao rk tr z1 z2 z3 cs' kn no ∧ Kp (fun t => t = 49) h h' ∧ okC mn tx v 320 cs')) := by
  refine Meets.of (plainFor_of_name (by decide)) (Nat.le_of_ble_eq_true rfl) (fun X C hX hN hA => ?_)
  have outer : ∀ (j : Nat) (w : Int) (h' : Pic) (cs' : Int → Int) (o4 o5 : Option Va), 0 ≤ w → w ≤ 8 → 8 - w < j → SlR h' al bk ao rk tr z1 z2 z3 cs' kn no → Kp (fun t => t = 49) h h' → okC mn tx v (40 * w) cs' →
      Go X (Qm X (pX (fun z h' => z = sc (isS mn tx v) 320 ∧ ∃ cs', SlR h' al bk ao rk tr z1 z2 z3 cs' kn no ∧ Kp (fun t => t = 49) h h' ∧ okC mn tx v 320 cs')) 0 0) 0 0 h' 4 [some (vR al), some (vI v), some (vI (sc (isS mn tx v) (40 * w))), some (vI w), o4, o5] [] := by
    intro j
    induction j with
    | zero => intro w h' cs' o4 o5 h3 h4 h5; exact absurd h5 (by omega)
    | succ j ih =>
      intro w h' cs' o4 o5 h3 h4 h5 hl' hk hc
      have hb' : BkR h' bk 10 vs pg mn tx tl du := hb.kp hk (by omega) (by omega) (fun t q1 q2 => by omega)
      obtain ⟨nt, x1, x2, x3, x4, x5, ft, fs, f2, f4, f5, ⟨hbs, -⟩, -, hvs, hpg, -⟩ := id hb'
      refine r_iload_n C dX5_list_4 rfl ?_
      refine r_bipush C dX5_list_5 (by decide) ?_
      refine r_icmp_ge (tgt := 84) C dX5_list_7 (by decide) (fun hc7 => ?_) (fun hc7 => ?_)
      · refine r_iload_n C dX5_list_84 rfl ?_
        have hw8 : w = 8 := by omega
        subst hw8
        exact r_iret C dX5_list_85 (by decide) (by decide) ⟨_, rfl, rfl, cs', hl', hk, hc⟩
      refine r_aload_n C dX5_list_10 rfl ?_
      refine r_get C dX5_list_11 flX5_9 hl'.1 rfl ?_
      refine r_iload_n C dX5_list_14 rfl ?_
      refine r_iload_n C dX5_list_15 rfl ?_
      refine r_cVy C dX5_list_16 mlX5_38 kX0_text (m_text (v := v) (w := w) hb' hv hv2 h3 (by omega)) hbs rfl rfl rfl (Nat.le_of_ble_eq_true rfl) (fit hX (by decide)) ?_
      rintro q h'' ⟨rfl, htq⟩
      obtain ⟨q', bq, mq, gq, eqq, hq1, hq2, hn0, hnm, hn40, hgq⟩ := id htq
      cases eqq
      refine r_astore C dX5_list_19 (by decide) ?_
      refine r_iconst C dX5_list_21 (by decide) ?_
      refine r_istore C dX5_list_22 (by decide) ?_
      have inner : ∀ (jj : Nat) (kq : Int) (h1 : Pic) (cs1 : Int → Int), 0 ≤ kq → kq ≤ mn (8 * v + w) → mn (8 * v + w) - kq < jj → SlR h1 al bk ao rk tr z1 z2 z3 cs1 kn no → Kp (fun t => t = 49) h h1 → okC mn tx v (40 * w + kq) cs1 → TxP h1 (some q) (mn (8 * v + w)) (tx (8 * v + w)) →
          Go X (Qm X (pX (fun z h' => z = sc (isS mn tx v) 320 ∧ ∃ cs', SlR h' al bk ao rk tr z1 z2 z3 cs' kn no ∧ Kp (fun t => t = 49) h h' ∧ okC mn tx v 320 cs')) 0 0) 0 0 h1 24 [some (vR al), some (vI v), some (vI (sc (isS mn tx v) (40 * w + kq))), some (vI w), some (vR q), some (vI kq)] [] := by
        intro jj
        induction jj with
        | zero => intro kq h1 cs1 g3 g4 g5; exact absurd g5 (by omega)
        | succ jj ihj =>
          intro kq h1 cs1 g3 g4 g5 hl1 hk1 hc1 ht1
          obtain ⟨b1, t1, t1', m1, gg1, hts1, -⟩ := id ht1.R
          have hsc := sc_rng (isS mn tx v) (i := 40 * w + kq) (by omega)
          refine r_iload C dX5_list_24 rfl ?_
          refine r_aload C dX5_list_26 rfl ?_
          refine r_cVi C dX5_list_28 mlX5_44 kX6_count (m_count ht1.R) hts1 rfl rfl rfl (Nat.le_of_ble_eq_true rfl) (fit hX (by decide)) ?_
          refine r_icmp_ge (tgt := 78) C dX5_list_31 (by decide) (fun hc31 => ?_) (fun hc31 => ?_)
          · -- the next word
            have hkn : kq = mn (8 * v + w) := by omega
            obtain ⟨k1, k2⟩ := sc_skip (S := isS mn tx v) (a := 40 * w + kq) (by omega) (40 - kq).toNat (fun z z1 z2 zz => by
              have e1 : z / 40 = w := by omega
              have e2 := zz.1
              rw [e1] at e2
              omega)
            rw [show 40 * w + kq + ((40 - kq).toNat : Int) = 40 * (w + 1) by omega] at k1 k2
            refine r_iinc C dX5_list_78 rfl (by decide) (by omega) ?_
            refine r_goto (tgt := 4) C dX5_list_81 (by decide) ?_
            have hz := ih (w + 1) h1 cs1 (some (vR q)) (some (vI kq)) (by omega) (by omega) (by omega) hl1 hk1 (by unfold okC; rw [k1, k2]; exact hc1)
            rw [k1] at hz
            exact hz
          refine r_aload C dX5_list_34 rfl ?_
          refine r_iload C dX5_list_36 rfl ?_
          refine r_cVi C dX5_list_38 mlX5_50 kX6_sign (m_sign ht1.R (p := kq)) hts1 rfl rfl rfl (Nat.le_of_ble_eq_true rfl) (fit hX (by decide)) ?_
          rw [sgn_in g3 (by omega)]
          refine r_cSi C dX5_list_41 mlX5_54 kX4_slipped (m_slipped (c := tx (8 * v + w) kq)) rfl rfl (Nat.le_of_ble_eq_true rfl) (fit hX (by decide)) ?_
          refine r_bipush C dX5_list_44 (by decide) ?_
          refine r_icmp_eq (tgt := 72) C dX5_list_46 (by decide) (fun hc46 => ?_) (fun hc46 => ?_)
          · -- no slip here
            obtain ⟨k1, k2⟩ := sc_f (S := isS mn tx v) (i := 40 * w + kq) (by omega) (fun zz => zz.2 (by rw [show (40 * w + kq) / 40 = w by omega, show (40 * w + kq) % 40 = kq by omega]; exact hc46))
            rw [show 40 * w + kq + 1 = 40 * w + (kq + 1) by omega] at k1 k2
            refine r_iinc C dX5_list_72 rfl (by decide) (by omega) ?_
            refine r_goto (tgt := 24) C dX5_list_75 (by decide) ?_
            have hz := ihj (kq + 1) h1 cs1 (by omega) (by omega) (by omega) hl1 hk1 (by unfold okC; rw [k1, k2]; exact hc1) ht1
            rw [k1] at hz
            exact hz
          -- a slip
          have hS : isS mn tx v (40 * w + kq) := ⟨by rw [show (40 * w + kq) / 40 = w by omega, show (40 * w + kq) % 40 = kq by omega]; omega, by rw [show (40 * w + kq) / 40 = w by omega, show (40 * w + kq) % 40 = kq by omega]; exact hc46⟩
          obtain ⟨k1, k2⟩ := sc_t (S := isS mn tx v) (i := 40 * w + kq) (by omega) hS
          rw [show 40 * w + kq + 1 = 40 * w + (kq + 1) by omega] at k1 k2
          refine r_iload_n C dX5_list_49 rfl ?_
          refine r_sipush C dX5_list_50 (by decide) ?_
          refine r_icmp_ge (tgt := 72) C dX5_list_53 (by decide) (fun zz => absurd zz (by omega)) (fun _ => ?_)
          refine r_aload_n C dX5_list_56 rfl ?_
          refine r_get C dX5_list_57 flX5_27 hl1.1 rfl ?_
          refine r_iload_n C dX5_list_60 rfl ?_
          refine r_bipush C dX5_list_61 (by decide) ?_
          refine r_iload_n C dX5_list_63 rfl ?_
          refine r_imul C dX5_list_64 (by omega) ?_
          refine r_iload C dX5_list_65 rfl ?_
          refine r_iadd C dX5_list_67 (by omega) ?_
          refine r_iastA C dX5_list_68 hl1.2.1 (by omega) (by omega) (fun h2 g2 o2 => ?_)
          have kp2 : Kp (fun t => t = 49) h1 h2 := o2.kp hl1.2.1 rfl
          refine r_iinc C dX5_list_69 rfl (by decide) (by omega) ?_
          refine r_iinc C dX5_list_72 rfl (by decide) (by omega) ?_
          refine r_goto (tgt := 24) C dX5_list_75 (by decide) ?_
          have hz := ihj (kq + 1) h2 (fu cs1 (sc (isS mn tx v) (40 * w + kq)) (100 * w + kq)) (by omega) (by omega) (by omega) ⟨kp2 _ _ _ hl1.1 (by omega), g2, kp2 _ _ _ hl1.2.2.1 (by omega), kp2 _ _ _ hl1.2.2.2 (by omega)⟩ (hk1.tr kp2) (by
            intro s s0 s1
            rw [k1] at s1
            rw [k2]
            by_cases hs : s = sc (isS mn tx v) (40 * w + kq)
            · rw [hs, fu_s, fu_s]; omega
            · rw [fu_n hs, fu_n hs]; exact hc1 s s0 (by omega)) (ht1.kp kp2 (by omega) (by omega))
          rw [k1] at hz
          exact hz
      have hz := inner ((mn (8 * v + w)).toNat + 1) 0 h'' cs' (by omega) (by omega) (by omega) hl' hk (by rw [Int.add_zero]; exact hc) htq
      rw [Int.add_zero] at hz
      exact hz
  refine r_iconst C dX5_list_0 (by decide) ?_
  refine r_istore_n C dX5_list_1 (by decide) ?_
  refine r_iconst C dX5_list_2 (by decide) ?_
  refine r_istore_n C dX5_list_3 (by decide) ?_
  exact outer 9 0 h cs none none (by omega) (by omega) (by omega) hl Kp.rf (fun s s0 s1 => absurd s1 (by show ¬ s < 0; omega))
