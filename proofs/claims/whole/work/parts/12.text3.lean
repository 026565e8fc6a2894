/-! Text, third part: new ones -/
abbrev vN : Va := Sum.inr none
theorem Rg0 : Rg 0 := by omega
theorem R1 {v : Va} (hv : Rv v) : ∀ w ∈ [v], Rv w := Rc hv (fun _ q => by cases q)
theorem m_Tinit {h : Pic} {a t : Nat} {m : Int} (t' : Nat) (hs : h a = some (ob t 6 [vN, vI 0])) (h0 : 0 ≤ m) (h1 : m ≤ 40) : Meets yX6_init cX6_init 2 none 1 1 m.toNat [vR a, vI m] h (pV (fun h' => ∃ b, h b = none ∧ h' a = some (ob t 6 [vR b, vI 0]) ∧ h' b = some (ia t' 1 m (fun _ => 0)) ∧ Off [a, b] h h')) := by
  refine Meets.of (plainFor_of_name (by decide)) (Nat.le_of_ble_eq_true rfl) (fun X C hX hN hA => ?_)
  refine r_aload_n C dX6_init_0 rfl ?_
  refine r_obj C dX6_init_1 mlX6_3 (by rw [hX]; exact Nat.le_of_ble_eq_true rfl) (by rw [hX]; exact Nat.le_of_ble_eq_true rfl) ?_
  refine r_aload_n C dX6_init_4 rfl ?_
  refine r_iconst C dX6_init_5 (by decide) ?_
  refine r_iload_n C dX6_init_6 rfl ?_
  refine r_cSi C dX6_init_7 mlX6_9 kJ9_max_7cf53 (m_max (x := 0) (y := m)) rfl rfl (Nat.le_of_ble_eq_true rfl) (fit hX (by omega)) ?_
  rw [show (if (0 : Int) < m then m else 0) = m by split <;> omega]
  refine r_newa (kA := 1) C t' dX6_init_10 rfl ac_char rfl (by omega) (by omega) (by rw [hX]; exact Nat.le_of_ble_eq_true rfl) (by rw [hX]; show 0 + m.toNat ≤ m.toNat; omega) (fun b hb => ?_)
  have hab : a ≠ b := fun q => by rw [q, hb] at hs; cases hs
  have hs2 : pu h b (ia t' 1 m (fun _ => 0)) a = some (ob t 6 [vN, vI 0]) := (pu_n hab).trans hs
  refine r_putF C hN dX6_init_12 flX6_15 rfl hs2 rfl rfl ?_
  refine r_aload_n C dX6_init_15 rfl ?_
  refine r_iconst C dX6_init_16 (by decide) ?_
  refine r_put C dX6_init_17 flX6_21 pu_s rfl rfl ?_
  refine r_vret C dX6_init_20 (by decide) (by omega) ⟨rfl, b, hb, pu_s, ?_, ((Off.rf.put (by simp)).put (by simp)).put (by simp)⟩
  rw [pu_n hab.symm, pu_n hab.symm, pu_s]
theorem m_copy {h : Pic} {a b t t' : Nat} {n m : Int} {g f : Int → Int} (hs : h a = some (ob t 6 [vR b, vI n])) (ha : h b = some (ia t' 1 m g)) (ht1 : t ≠ 5) (ht2 : t' ≠ 6) (h0 : 0 ≤ n) (h1 : n ≤ m) (h2 : n ≤ 40) (hg : ∀ i, 0 ≤ i → i < n → g i = f i ∧ 0 ≤ f i ∧ f i ≤ 126) :
    Meets yX6_copy cX6_copy 2 (some (.object "BookShows$Text")) 2 2 (2 + n.toNat) [vR a] h (pY (fun q h' => ∃ qb g', h q = none ∧ h qb = none ∧ q ≠ qb ∧ h' q = some (ob 5 6 [vR qb, vI n]) ∧ h' qb = some (ia 6 1 n g') ∧ Off [q, qb] h h' ∧ ∀ i, 0 ≤ i → i < n → g' i = f i)) := by
  refine Meets.of (plainFor_of_name (by decide)) (Nat.le_of_ble_eq_true rfl) (fun X C hX hN hA => ?_)
  refine r_new (ci := 6) (fs := [vN, vI 0]) C 5 dX6_copy_0 clX6_16 inX6 itX6 iX6 tyX6 tyX6_ok rfl rfl (fun j hj => by rcases (show j = 0 ∨ j = 1 by omega) with rfl | rfl <;> rfl) (Rc trivial (R1 Rg0)) (by rw [hX]; exact Nat.le_of_ble_eq_true rfl) (by rw [hX]; show 0 + 2 ≤ 2 + n.toNat; omega) (fun q hq => ?_)
  have haq : a ≠ q := fun e => by rw [e, hq] at hs; cases hs
  have hbq : b ≠ q := fun e => by rw [e, hq] at ha; cases ha
  have hs1 : pu h q (5, .inl (6, [vN, vI 0])) a = some (ob t 6 [vR b, vI n]) := (pu_n haq).trans hs
  have ha1 : pu h q (5, .inl (6, [vN, vI 0])) b = some (ia t' 1 m g) := (pu_n hbq).trans ha
  refine r_dup C dX6_copy_3 ?_
  refine r_aload_n C dX6_copy_4 rfl ?_
  refine r_get C dX6_copy_5 flX6_21 hs1 rfl ?_
  refine r_cI C dX6_copy_8 mlX6_32 kX6_init (m_Tinit 6 pu_s h0 h2) rfl rfl (Nat.le_of_ble_eq_true rfl) (fit hX (by omega)) ?_
  rintro h2' ⟨qb, hqb, e1, e2, e3⟩
  have hqqb : q ≠ qb := fun e => by rw [← e, pu_s] at hqb; cases hqb
  have hqb2 : h qb = none := (pu_n (fun e => hqqb e.symm)).symm.trans hqb
  have haqb : a ≠ qb := fun e => by rw [e, hqb2] at hs; cases hs
  have hbqb : b ≠ qb := fun e => by rw [e, hqb2] at ha; cases ha
  have hs3 : h2' a = some (ob t 6 [vR b, vI n]) := (e3 a (by simp [haq, haqb])).trans hs1
  have ha3 : h2' b = some (ia t' 1 m g) := (e3 b (by simp [hbq, hbqb])).trans ha1
  refine r_astore_n C dX6_copy_11 (by decide) ?_
  refine r_aload_n C dX6_copy_12 rfl ?_
  refine r_aload_n C dX6_copy_13 rfl ?_
  refine r_cVv C dX6_copy_14 mlX6_34 kX6_become (m_become e1 e2 hs3 ha3 ht1 ht2 h0 (Int.le_refl n) h2 h1 hg) e1 rfl rfl rfl (Nat.le_of_ble_eq_true rfl) (fit hX (by omega)) ?_
  rintro h3' ⟨g', f1, f2, f3, f4, f5⟩
  refine r_aload_n C dX6_copy_17 rfl ?_
  refine r_aret C dX6_copy_18 (by decide) (by omega) ⟨q, rfl, qb, g', hq, hqb2, hqqb, f1, f2, fun z hz => ?_, f4⟩
  rw [f3 z hz, e3 z hz, pu_n (fun e => hz (by simp [e]))]
