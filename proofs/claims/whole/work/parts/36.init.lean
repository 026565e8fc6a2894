/-! constructors of the class -/
section
variable {X : Ctx} {Q : State → Prop} {k n : Nat} {h : Pic} {pc : Nat} {L : List (Option Va)} {st : List Va} {cc : ByteArray} {nL : Nat} {own : String} {ret : Option FieldType}
theorem kp_new {h : Pic} {q : Nat} {o : Ob} (hq : h q = none) : Kp (fun _ => False) h (pu h q o) := fun a t b e _ => (pu_n (fun z => by rw [z, hq] at e; cases e)).trans e
theorem r_newaA {at' : ArrayType} {kA : Nat} {m : Int} (C : Cx X cc nL own ret) (tag : Nat) (hd : decode cc pc = .ok (.newarray at', 2)) (hty : newarray.typeOf at' = tyI kA) (hac : Cond.arrayClass (tyI kA) ∈ mw) (hdv : defaultValue (tyI kA) = .int 0) (h0 : 0 ≤ m) (hb : m ≤ 100000) (hc : k + 1 ≤ X.1.2.2.2.cells) (hs : n + m.toNat ≤ X.1.2.2.2.slots) (kk : ∀ (q : Nat) (h' : Pic), h' q = some (ia tag kA m (fun _ => 0)) → Kp (fun _ => False) h h' → Go X Q (k + 1) (n + m.toNat) h' (pc + 2) L (vR q :: st)) : Go X Q k n h pc L (vI m :: st) :=
  r_newa C tag hd hty hac hdv h0 hb hc hs (fun q hq => kk q _ pu_s (kp_new hq))
theorem r_newqA {i kr : Nat} {m : Int} (C : Cx X cc nL own ret) (tag : Nat) (hd : decode cc pc = .ok (.anewarray i, 3)) (hcl : Cond.classLink own i (tyR kr).2 ∈ mw) (h0 : 0 ≤ m) (hb : m ≤ 100000) (hc : k + 1 ≤ X.1.2.2.2.cells) (hs : n + m.toNat ≤ X.1.2.2.2.slots) (kk : ∀ (q : Nat) (h' : Pic), h' q = some (ra tag kr m (fun _ => none)) → Kp (fun _ => False) h h' → Go X Q (k + 1) (n + m.toNat) h' (pc + 3) L (vR q :: st)) : Go X Q k n h pc L (vI m :: st) :=
  r_newq C tag hd hcl h0 hb hc hs (fun q hq => kk q _ pu_s (kp_new hq))
theorem r_newA {i ci N : Nat} {Cn : String} {T : u_T} {fs : List Va} (C : Cx X cc nL own ret) (tag : Nat) (hd : decode cc pc = .ok (.new i, 3)) (hcl : Cond.classLink own i Cn ∈ mw) (hins : Cond.instantiable Cn N ∈ mw) (hini : Cond.initialized Cn ∈ mw) (hin : ∀ w ∈ u_ws Cn T N, w ∈ mw) (ty : Nat → FieldType) (hty : ∀ k, k < N → parseFieldDescriptor (T k).2.2.1 = some (ty k)) (hcc : classes[ci]? = some (Cn, T, N)) (hlen : fs.length = N) (hfs : ∀ j, j < N → defaultValue (ty j) = vp_V (fs.map cv) j) (hrv : ∀ v ∈ fs, Rv v) (hc : k + 1 ≤ X.1.2.2.2.cells) (hs : n + N ≤ X.1.2.2.2.slots) (kk : ∀ (q : Nat) (h' : Pic), h' q = some (tag, .inl (ci, fs)) → Kp (fun _ => False) h h' → Go X Q (k + 1) (n + N) h' (pc + 3) L (vR q :: st)) : Go X Q k n h pc L st :=
  r_new C tag hd hcl hins hini hin ty hty hcc hlen hfs hrv hc hs (fun q hq => kk q _ pu_s (kp_new hq))
end
theorem m_TinitK {h : Pic} {a t : Nat} {m : Int} (t' : Nat) (hs : h a = some (ob t 6 [vN, vI 0])) (h0 : 0 ≤ m) (h1 : m ≤ 40) : Meets yX6_init cX6_init 2 none 1 1 m.toNat [vR a, vI m] h (pV (fun h' => ∃ b, h' a = some (ob t 6 [vR b, vI 0]) ∧ h' b = some (ia t' 1 m (fun _ => 0)) ∧ Kp (fun u => u = t) h h')) :=
  (m_Tinit t' hs h0 h1).mono (fun r h' q => ⟨q.1, by
    obtain ⟨-, b, hb, e1, e2, e3⟩ := q
    refine ⟨b, e1, e2, fun c u bd e n => (e3 c ?_).trans e⟩
    have n1 : c ≠ a := ne_of e hs (fun z => n (by cases z; rfl))
    have n2 : c ≠ b := fun z => by rw [z, hb] at e; cases e
    simp [n1, n2]⟩)
section
variable {h : Pic} {a nt : Nat}
theorem m_Ninit (hs : h a = some (ob 40 1 [vN, vI 0])) : Meets yX1_init cX1_init 1 none 1 1 320 [vR a] h (pV (fun h' => ∃ b, NeR h' a b 0 (fun _ => 0) ∧ Kp (fun t => t = 40 ∨ t = 41) h h')) := by
  refine Meets.of (plainFor_of_name (by decide)) (Nat.le_of_ble_eq_true rfl) (fun X C hX hN hA => ?_)
  refine r_aload_n C dX1_init_0 rfl ?_
  refine r_obj C dX1_init_1 mlX1_3 (by rw [hX]; exact Nat.le_of_ble_eq_true rfl) (by rw [hX]; exact Nat.le_of_ble_eq_true rfl) ?_
  refine r_aload_n C dX1_init_4 rfl ?_
  refine r_sipush C dX1_init_5 (by decide) ?_
  refine r_newaA (kA := 0) C 41 dX1_init_8 rfl ac_int rfl (by omega) (by omega) (by rw [hX]; exact Nat.le_of_ble_eq_true rfl) (by rw [hX]; exact Nat.le_of_ble_eq_true rfl) (fun b h1 eb k1 => ?_)
  have hs1 := k1 _ _ _ hs (fun q => q)
  refine r_putFA C hN dX1_init_10 flX1_9 rfl hs1 rfl rfl (fs2 := [vR b, vI 0]) rfl (fun h2 e2 o2 => ?_)
  have k2 : Kp (fun t => t = 40) h1 h2 := o2.kp hs1 rfl
  have eb2 := k2 _ _ _ eb (by omega)
  refine r_aload_n C dX1_init_13 rfl ?_
  refine r_iconst C dX1_init_14 (by decide) ?_
  refine r_putA C dX1_init_15 flX1_15 e2 rfl rfl (fs2 := [vR b, vI 0]) rfl (fun h3 e3 o3 => ?_)
  have k3 : Kp (fun t => t = 40) h2 h3 := o3.kp e2 rfl
  have eb3 := k3 _ _ _ eb2 (by omega)
  exact r_vret C dX1_init_18 (by decide) (by decide) ⟨rfl, b, ⟨e3, eb3, by omega, by omega⟩, (k1.mono (fun t q => q.elim)).tr ((k2.mono (fun t q => Or.inl q)).tr (k3.mono (fun t q => Or.inl q)))⟩
theorem m_Oinit {bk rk : Nat} (hs : h a = some (ob 44 2 [vN, vN, vN, vN, vN])) : Meets yX2_init cX2_init 3 none 1 3 216 [vR a, vR bk, vR rk] h (pV (fun h' => ∃ y1 y2 y3, OtR h' a bk rk y1 y2 y3 (fun _ => 0) (fun _ => 0) (fun _ => 0) ∧ Kp (fun t => 44 ≤ t ∧ t ≤ 47) h h')) := by
  refine Meets.of (plainFor_of_name (by decide)) (Nat.le_of_ble_eq_true rfl) (fun X C hX hN hA => ?_)
  refine r_aload_n C dX2_init_0 rfl ?_
  refine r_obj C dX2_init_1 mlX2_3 (by rw [hX]; exact Nat.le_of_ble_eq_true rfl) (by rw [hX]; exact Nat.le_of_ble_eq_true rfl) ?_
  refine r_aload_n C dX2_init_4 rfl ?_
  refine r_aload_n C dX2_init_5 rfl ?_
  refine r_putFA C hN dX2_init_6 flX2_9 rfl hs rfl rfl (fs2 := [vR bk, vN, vN, vN, vN]) rfl (fun h1 e1 o1 => ?_)
  have k1 : Kp (fun t => 44 ≤ t ∧ t ≤ 47) h h1 := o1.kp hs (by decide)
  refine r_aload_n C dX2_init_9 rfl ?_
  refine r_aload_n C dX2_init_10 rfl ?_
  refine r_putFA C hN dX2_init_11 flX2_15 rfl e1 rfl rfl (fs2 := [vR bk, vR rk, vN, vN, vN]) rfl (fun h2 e2 o2 => ?_)
  have k2 : Kp (fun t => 44 ≤ t ∧ t ≤ 47) h1 h2 := o2.kp e1 (by decide)
  refine r_aload_n C dX2_init_14 rfl ?_
  refine r_bipush C dX2_init_15 (by decide) ?_
  refine r_newaA (kA := 2) C 45 dX2_init_17 rfl ac_boolean rfl (by omega) (by omega) (by rw [hX]; exact Nat.le_of_ble_eq_true rfl) (by rw [hX]; exact Nat.le_of_ble_eq_true rfl) (fun y1 h3 f3 k3 => ?_)
  have e3 := k3 _ _ _ e2 (fun q => q)
  refine r_putFA C hN dX2_init_19 flX2_19 rfl e3 rfl rfl (fs2 := [vR bk, vR rk, vR y1, vN, vN]) rfl (fun h4 e4 o4 => ?_)
  have k4 : Kp (fun t => t = 44) h3 h4 := o4.kp e3 rfl
  have f3 := k4 _ _ _ f3 (by first | omega | exact fun q => q)
  refine r_aload_n C dX2_init_22 rfl ?_
  refine r_bipush C dX2_init_23 (by decide) ?_
  refine r_newaA (kA := 0) C 46 dX2_init_25 rfl ac_int rfl (by omega) (by omega) (by rw [hX]; exact Nat.le_of_ble_eq_true rfl) (by rw [hX]; exact Nat.le_of_ble_eq_true rfl) (fun y2 h5 f5 k5 => ?_)
  have e4 := k5 _ _ _ e4 (by first | omega | exact fun q => q)
  have f3 := k5 _ _ _ f3 (by first | omega | exact fun q => q)
  refine r_putFA C hN dX2_init_27 flX2_23 rfl e4 rfl rfl (fs2 := [vR bk, vR rk, vR y1, vR y2, vN]) rfl (fun h6 e6 o6 => ?_)
  have k6 : Kp (fun t => t = 44) h5 h6 := o6.kp e4 rfl
  have f3 := k6 _ _ _ f3 (by first | omega | exact fun q => q)
  have f5 := k6 _ _ _ f5 (by first | omega | exact fun q => q)
  refine r_aload_n C dX2_init_30 rfl ?_
  refine r_bipush C dX2_init_31 (by decide) ?_
  refine r_newaA (kA := 0) C 47 dX2_init_33 rfl ac_int rfl (by omega) (by omega) (by rw [hX]; exact Nat.le_of_ble_eq_true rfl) (by rw [hX]; exact Nat.le_of_ble_eq_true rfl) (fun y3 h7 f7 k7 => ?_)
  have e6 := k7 _ _ _ e6 (by first | omega | exact fun q => q)
  have f3 := k7 _ _ _ f3 (by first | omega | exact fun q => q)
  have f5 := k7 _ _ _ f5 (by first | omega | exact fun q => q)
  refine r_putFA C hN dX2_init_35 flX2_27 rfl e6 rfl rfl (fs2 := [vR bk, vR rk, vR y1, vR y2, vR y3]) rfl (fun h8 e8 o8 => ?_)
  have k8 : Kp (fun t => t = 44) h7 h8 := o8.kp e6 rfl
  have f3 := k8 _ _ _ f3 (by first | omega | exact fun q => q)
  have f5 := k8 _ _ _ f5 (by first | omega | exact fun q => q)
  have f7 := k8 _ _ _ f7 (by first | omega | exact fun q => q)
  exact r_vret C dX2_init_38 (by decide) (by decide) ⟨rfl, y1, y2, y3, ⟨e8, f3, f5, f7⟩, k1.tr (k2.tr ((k3.mono (fun t q => q.elim)).tr ((k4.mono (fun t q => by omega)).tr ((k5.mono (fun t q => q.elim)).tr ((k6.mono (fun t q => by omega)).tr ((k7.mono (fun t q => q.elim)).tr (k8.mono (fun t q => by omega))))))))⟩
theorem m_Sinit {bk ao rk tr : Nat} (hs : h a = some (ob 48 5 [vN, vN, vN, vN, vN, vN, vN])) : Meets yX5_init cX5_init 5 none 1 3 2246 [vR a, vR bk, vR ao, vR rk, vR tr] h (pV (fun h' => ∃ z1 z2 z3, SlR h' a bk ao rk tr z1 z2 z3 (fun _ => 0) (fun _ => 0) (fun _ => 0) ∧ Kp (fun t => 48 ≤ t ∧ t ≤ 51) h h')) := by
  refine Meets.of (plainFor_of_name (by decide)) (Nat.le_of_ble_eq_true rfl) (fun X C hX hN hA => ?_)
  refine r_aload_n C dX5_init_0 rfl ?_
  refine r_obj C dX5_init_1 mlX5_3 (by rw [hX]; exact Nat.le_of_ble_eq_true rfl) (by rw [hX]; exact Nat.le_of_ble_eq_true rfl) ?_
  refine r_aload_n C dX5_init_4 rfl ?_
  refine r_aload_n C dX5_init_5 rfl ?_
  refine r_putFA C hN dX5_init_6 flX5_9 rfl hs rfl rfl (fs2 := [vR bk, vN, vN, vN, vN, vN, vN]) rfl (fun h1 e1 o1 => ?_)
  have k1 : Kp (fun t => 48 ≤ t ∧ t ≤ 51) h h1 := o1.kp hs (by decide)
  refine r_aload_n C dX5_init_9 rfl ?_
  refine r_aload_n C dX5_init_10 rfl ?_
  refine r_putFA C hN dX5_init_11 flX5_15 rfl e1 rfl rfl (fs2 := [vR bk, vR ao, vN, vN, vN, vN, vN]) rfl (fun h2 e2 o2 => ?_)
  have k2 : Kp (fun t => 48 ≤ t ∧ t ≤ 51) h1 h2 := o2.kp e1 (by decide)
  refine r_aload_n C dX5_init_14 rfl ?_
  refine r_aload_n C dX5_init_15 rfl ?_
  refine r_putFA C hN dX5_init_16 flX5_19 rfl e2 rfl rfl (fs2 := [vR bk, vR ao, vR rk, vN, vN, vN, vN]) rfl (fun ha ea oa => ?_)
  have ka : Kp (fun t => 48 ≤ t ∧ t ≤ 51) h2 ha := oa.kp e2 (by decide)
  refine r_aload_n C dX5_init_19 rfl ?_
  refine r_aload C dX5_init_20 rfl ?_
  refine r_putFA C hN dX5_init_22 flX5_23 rfl ea rfl rfl (fs2 := [vR bk, vR ao, vR rk, vR tr, vN, vN, vN]) rfl (fun hb eb ob' => ?_)
  have kb : Kp (fun t => 48 ≤ t ∧ t ≤ 51) ha hb := ob'.kp ea (by decide)
  refine r_aload_n C dX5_init_25 rfl ?_
  refine r_sipush C dX5_init_26 (by decide) ?_
  refine r_newaA (kA := 0) C 49 dX5_init_29 rfl ac_int rfl (by omega) (by omega) (by rw [hX]; exact Nat.le_of_ble_eq_true rfl) (by rw [hX]; exact Nat.le_of_ble_eq_true rfl) (fun y1 h3 f3 k3 => ?_)
  have e3 := k3 _ _ _ eb (fun q => q)
  refine r_putFA C hN dX5_init_31 flX5_27 rfl e3 rfl rfl (fs2 := [vR bk, vR ao, vR rk, vR tr, vR y1, vN, vN]) rfl (fun h4 e4 o4 => ?_)
  have k4 : Kp (fun t => t = 48) h3 h4 := o4.kp e3 rfl
  have f3 := k4 _ _ _ f3 (by first | omega | exact fun q => q)
  refine r_aload_n C dX5_init_34 rfl ?_
  refine r_bipush C dX5_init_35 (by decide) ?_
  refine r_newaA (kA := 2) C 50 dX5_init_37 rfl ac_boolean rfl (by omega) (by omega) (by rw [hX]; exact Nat.le_of_ble_eq_true rfl) (by rw [hX]; exact Nat.le_of_ble_eq_true rfl) (fun y2 h5 f5 k5 => ?_)
  have e4 := k5 _ _ _ e4 (by first | omega | exact fun q => q)
  have f3 := k5 _ _ _ f3 (by first | omega | exact fun q => q)
  refine r_putFA C hN dX5_init_39 flX5_31 rfl e4 rfl rfl (fs2 := [vR bk, vR ao, vR rk, vR tr, vR y1, vR y2, vN]) rfl (fun h6 e6 o6 => ?_)
  have k6 : Kp (fun t => t = 48) h5 h6 := o6.kp e4 rfl
  have f3 := k6 _ _ _ f3 (by first | omega | exact fun q => q)
  have f5 := k6 _ _ _ f5 (by first | omega | exact fun q => q)
  refine r_aload_n C dX5_init_42 rfl ?_
  refine r_sipush C dX5_init_43 (by decide) ?_
  refine r_newaA (kA := 0) C 51 dX5_init_46 rfl ac_int rfl (by omega) (by omega) (by rw [hX]; exact Nat.le_of_ble_eq_true rfl) (by rw [hX]; exact Nat.le_of_ble_eq_true rfl) (fun y3 h7 f7 k7 => ?_)
  have e6 := k7 _ _ _ e6 (by first | omega | exact fun q => q)
  have f3 := k7 _ _ _ f3 (by first | omega | exact fun q => q)
  have f5 := k7 _ _ _ f5 (by first | omega | exact fun q => q)
  refine r_putFA C hN dX5_init_48 flX5_35 rfl e6 rfl rfl (fs2 := [vR bk, vR ao, vR rk, vR tr, vR y1, vR y2, vR y3]) rfl (fun h8 e8 o8 => ?_)
  have k8 : Kp (fun t => t = 48) h7 h8 := o8.kp e6 rfl
  have f3 := k8 _ _ _ f3 (by first | omega | exact fun q => q)
  have f5 := k8 _ _ _ f5 (by first | omega | exact fun q => q)
  have f7 := k8 _ _ _ f7 (by first | omega | exact fun q => q)
  exact r_vret C dX5_init_51 (by decide) (by decide) ⟨rfl, y1, y2, y3, ⟨e8, f3, f5, f7⟩, k1.tr (k2.tr (ka.tr (kb.tr ((k3.mono (fun t q => q.elim)).tr ((k4.mono (fun t q => by omega)).tr ((k5.mono (fun t q => q.elim)).tr ((k6.mono (fun t q => by omega)).tr ((k7.mono (fun t q => q.elim)).tr (k8.mono (fun t q => by omega))))))))))⟩
theorem m_Rinit {bn : Nat} {n : Int} (hs : h a = some (ob 42 3 [vN, vI 0, vI 0, vI 0, vI 0])) (hnt : h nt = some (ob 5 6 [vR bn, vI n])) : Meets yX3_init cX3_init 3 none 1 1 8 [vR a, vR nt] h (pV (fun h' => (∃ xw fw, RkR h' a xw fw 0 0 0 0) ∧ Kp (fun t => t = 42 ∨ t = 43) h h')) := by
  refine Meets.of (plainFor_of_name (by decide)) (Nat.le_of_ble_eq_true rfl) (fun X C hX hN hA => ?_)
  refine r_aload_n C dX3_init_0 rfl ?_
  refine r_obj C dX3_init_1 mlX3_3 (by rw [hX]; exact Nat.le_of_ble_eq_true rfl) (by rw [hX]; exact Nat.le_of_ble_eq_true rfl) ?_
  refine r_aload_n C dX3_init_4 rfl ?_
  refine r_bipush C dX3_init_5 (by decide) ?_
  refine r_newqA (kr := 0) C 43 dX3_init_7 clX3_9 (by omega) (by omega) (by rw [hX]; exact Nat.le_of_ble_eq_true rfl) (by rw [hX]; exact Nat.le_of_ble_eq_true rfl) (fun b h1 eb k1 => ?_)
  have hs1 := k1 _ _ _ hs (fun q => q)
  have hnt := k1 _ _ _ hnt (fun q => q)
  refine r_putFA C hN dX3_init_10 flX3_11 rfl hs1 rfl rfl (fs2 := [vR b, vI 0, vI 0, vI 0, vI 0]) rfl (fun h2 e2 o2 => ?_)
  have k2 : Kp (fun t => t = 42) h1 h2 := o2.kp hs1 rfl
  have eb := k2 _ _ _ eb (by first | omega | exact fun q => q)
  have hnt := k2 _ _ _ hnt (by first | omega | exact fun q => q)
  have k02 : Kp (fun t => t = 42 ∨ t = 43) h h2 := (k1.mono (fun t q => q.elim)).tr (k2.mono (fun t q => Or.inl q))
  have loop : ∀ (j : Nat) (i : Int) (h' : Pic) (f : Int → Option Nat), 0 ≤ i → i ≤ 8 → 8 - i < j → h' b = some (ra 43 0 8 f) → Kp (fun t => t = 43) h2 h' → Go X (Qm X (pV (fun h' => (∃ xw fw, RkR h' a xw fw 0 0 0 0) ∧ Kp (fun t => t = 42 ∨ t = 43) h h')) 1 8) 1 8 h' 15 [some (vR a), some (vR nt), some (vI i)] [] := by
    intro j
    induction j with
    | zero => intro i h' f g3 g4 g5; exact absurd g5 (by omega)
    | succ j ih =>
      intro i h' f g3 g4 g5 hb' k'
      have e2' := k' _ _ _ e2 (by omega)
      have hnt' := k' _ _ _ hnt (by omega)
      refine r_iload_n C dX3_init_15 rfl ?_
      refine r_bipush C dX3_init_16 (by decide) ?_
      refine r_icmp_ge (tgt := 34) C dX3_init_18 (by decide) (fun hc18 => ?_) (fun hc18 => ?_)
      · exact r_vret C dX3_init_34 (by decide) (by decide) ⟨rfl, ⟨b, f, e2', hb'⟩, k02.tr (k'.mono (fun t q => Or.inr q))⟩
      refine r_aload_n C dX3_init_21 rfl ?_
      refine r_get C dX3_init_22 flX3_11 e2' rfl ?_
      refine r_iload_n C dX3_init_25 rfl ?_
      refine r_aload_n C dX3_init_26 rfl ?_
      refine r_aastA C dX3_init_27 hb' hnt' (by omega) (by omega) (fun h3 e3 o3 => ?_)
      have k3 : Kp (fun t => t = 43) h' h3 := o3.kp hb' rfl
      refine r_iinc C dX3_init_28 rfl (by decide) (by omega) ?_
      refine r_goto (tgt := 15) C dX3_init_31 (by decide) ?_
      exact ih (i + 1) h3 _ (by omega) (by omega) (by omega) e3 (k'.tr k3)
  refine r_iconst C dX3_init_13 (by decide) ?_
  refine r_istore_n C dX3_init_14 (by decide) ?_
  exact loop 9 0 h2 _ (by omega) (by omega) (by omega) eb Kp.rf
theorem m_Binit (T : Nat) (hT : 6 < T) (hs : h a = some (ob T 0 [vN, vN, vN, vN, vN, vN, vI 0, vI 0])) (hnt : TxP h (some nt) 0 (fun _ => 0)) : Meets yX0_init cX0_init 3 none 1 5 96 [vR a, vR nt] h (pV (fun h' => BkR h' a T 1 0 (fun _ => 0) (fun _ _ => 0) (fun _ => 0) (fun _ => 0) ∧ Kp (fun t => T ≤ t ∧ t ≤ T + 5) h h')) := by
  refine Meets.of (plainFor_of_name (by decide)) (Nat.le_of_ble_eq_true rfl) (fun X C hX hN hA => ?_)
  refine r_aload_n C dX0_init_0 rfl ?_
  refine r_obj C dX0_init_1 mlX0_3 (by rw [hX]; exact Nat.le_of_ble_eq_true rfl) (by rw [hX]; exact Nat.le_of_ble_eq_true rfl) ?_
  refine r_aload_n C dX0_init_4 rfl ?_
  refine r_aload_n C dX0_init_5 rfl ?_
  refine r_putFA C hN dX0_init_6 flX0_9 rfl hs rfl rfl (fs2 := [vR nt, vN, vN, vN, vN, vN, vI 0, vI 0]) rfl (fun h1 e1 o1 => ?_)
  have k1 : Kp (fun t => T ≤ t ∧ t ≤ T + 5) h h1 := o1.kp hs ⟨by omega, by omega⟩
  have hnt := hnt.kp k1 (by first | omega | exact fun q => q) (by first | omega | exact fun q => q)
  refine r_aload_n C dX0_init_9 rfl ?_
  refine r_bipush C dX0_init_10 (by decide) ?_
  refine r_newqA (kr := 0) C (T+1) dX0_init_12 clX0_15 (by omega) (by omega) (by rw [hX]; exact Nat.le_of_ble_eq_true rfl) (by rw [hX]; exact Nat.le_of_ble_eq_true rfl) (fun x1 h2 f1 k2 => ?_)
  have e1 := k2 _ _ _ e1 (fun q => q)
  have hnt := hnt.kp k2 (fun q => q) (fun q => q)
  refine r_putFA C hN dX0_init_15 flX0_17 rfl e1 rfl rfl (fs2 := [vR nt, vR x1, vN, vN, vN, vN, vI 0, vI 0]) rfl (fun h3 e3 o3 => ?_)
  have k3 : Kp (fun t => t = T) h2 h3 := o3.kp e1 rfl
  have f1 := k3 _ _ _ f1 (by first | omega | exact fun q => q)
  have hnt := hnt.kp k3 (by first | omega | exact fun q => q) (by first | omega | exact fun q => q)
  have K3 : Kp (fun t => T ≤ t ∧ t ≤ T + 5) h h3 := k1.tr ((k2.mono (fun t q => q.elim)).tr (k3.mono (fun t q => by omega)))
  have loop2 : ∀ (j : Nat) (i : Int) (h' : Pic) (f : Int → Option Nat) (x2 x3 : Nat) (ft : Int → Option Nat), 0 ≤ i → i ≤ 12 → 12 - i < j → h' a = some (ob T 0 [vR nt, vR x1, vR x2, vR x3, vN, vN, vI 0, vI 0]) → h' x1 = some (ra (T + 1) 0 48 ft) → (∀ t, 0 ≤ t → t < 48 → ft t = some nt) → h' x2 = some (ia (T + 2) 0 12 (fun _ => 0)) → h' x3 = some (ra (T + 3) 0 12 f) → (∀ t, 0 ≤ t → t < i → f t = some nt) → TxP h' (some nt) 0 (fun _ => 0) → Kp (fun t => T ≤ t ∧ t ≤ T + 5) h h' →
      Go X (Qm X (pV (fun h' => BkR h' a T 1 0 (fun _ => 0) (fun _ _ => 0) (fun _ => 0) (fun _ => 0) ∧ Kp (fun t => T ≤ t ∧ t ≤ T + 5) h h')) 5 96) 3 72 h' 58 [some (vR a), some (vR nt), some (vI i)] [] := by
    intro j
    induction j with
    | zero => intro i h' f x2 x3 ft g3 g4 g5; exact absurd g5 (by omega)
    | succ j ih =>
      intro i h' f x2 x3 ft g3 g4 g5 ea b1 q1 b2 b3 q3 ht k'
      obtain ⟨q', bq, mq, gq, eqq, hq1', -⟩ := id ht
      cases eqq
      refine r_iload_n C dX0_init_58 rfl ?_
      refine r_bipush C dX0_init_59 (by decide) ?_
      refine r_icmp_ge (tgt := 77) C dX0_init_61 (by decide) (fun hc61 => ?_) (fun hc61 => ?_)
      · refine r_aload_n C dX0_init_77 rfl ?_
        refine r_bipush C dX0_init_78 (by decide) ?_
        refine r_newaA (kA := 0) C (T+4) dX0_init_80 rfl ac_int rfl (by omega) (by omega) (by rw [hX]; exact Nat.le_of_ble_eq_true rfl) (by rw [hX]; exact Nat.le_of_ble_eq_true rfl) (fun x4 h4 b4 k4 => ?_)
        have ea := k4 _ _ _ ea (fun q => q)
        have b1 := k4 _ _ _ b1 (fun q => q)
        have b2 := k4 _ _ _ b2 (fun q => q)
        have b3 := k4 _ _ _ b3 (fun q => q)
        have ht := ht.kp k4 (fun q => q) (fun q => q)
        refine r_putFA C hN dX0_init_82 flX0_28 rfl ea rfl rfl (fs2 := [vR nt, vR x1, vR x2, vR x3, vR x4, vN, vI 0, vI 0]) rfl (fun h5 ea5 o5 => ?_)
        have k5 : Kp (fun t => t = T) h4 h5 := o5.kp ea rfl
        have b1 := k5 _ _ _ b1 (by first | omega | exact fun q => q)
        have b2 := k5 _ _ _ b2 (by first | omega | exact fun q => q)
        have b3 := k5 _ _ _ b3 (by first | omega | exact fun q => q)
        have b4 := k5 _ _ _ b4 (by first | omega | exact fun q => q)
        have ht := ht.kp k5 (by first | omega | exact fun q => q) (by first | omega | exact fun q => q)
        refine r_aload_n C dX0_init_85 rfl ?_
        refine r_bipush C dX0_init_86 (by decide) ?_
        refine r_newaA (kA := 0) C (T+5) dX0_init_88 rfl ac_int rfl (by omega) (by omega) (by rw [hX]; exact Nat.le_of_ble_eq_true rfl) (by rw [hX]; exact Nat.le_of_ble_eq_true rfl) (fun x5 h6 b5 k6 => ?_)
        have ea5 := k6 _ _ _ ea5 (fun q => q)
        have b1 := k6 _ _ _ b1 (fun q => q)
        have b2 := k6 _ _ _ b2 (fun q => q)
        have b3 := k6 _ _ _ b3 (fun q => q)
        have b4 := k6 _ _ _ b4 (fun q => q)
        have ht := ht.kp k6 (fun q => q) (fun q => q)
        refine r_putFA C hN dX0_init_90 flX0_31 rfl ea5 rfl rfl (fs2 := [vR nt, vR x1, vR x2, vR x3, vR x4, vR x5, vI 0, vI 0]) rfl (fun h7 ea7 o7 => ?_)
        have k7 : Kp (fun t => t = T) h6 h7 := o7.kp ea5 rfl
        have b1 := k7 _ _ _ b1 (by first | omega | exact fun q => q)
        have b2 := k7 _ _ _ b2 (by first | omega | exact fun q => q)
        have b3 := k7 _ _ _ b3 (by first | omega | exact fun q => q)
        have b4 := k7 _ _ _ b4 (by first | omega | exact fun q => q)
        have b5 := k7 _ _ _ b5 (by first | omega | exact fun q => q)
        have ht := ht.kp k7 (by first | omega | exact fun q => q) (by first | omega | exact fun q => q)
        refine r_aload_n C dX0_init_93 rfl ?_
        refine r_iconst C dX0_init_94 (by decide) ?_
        refine r_putA C dX0_init_95 flX0_34 ea7 rfl rfl (fs2 := [vR nt, vR x1, vR x2, vR x3, vR x4, vR x5, vI 1, vI 0]) rfl (fun h8 ea8 o8 => ?_)
        have k8 : Kp (fun t => t = T) h7 h8 := o8.kp ea7 rfl
        have b1 := k8 _ _ _ b1 (by first | omega | exact fun q => q)
        have b2 := k8 _ _ _ b2 (by first | omega | exact fun q => q)
        have b3 := k8 _ _ _ b3 (by first | omega | exact fun q => q)
        have b4 := k8 _ _ _ b4 (by first | omega | exact fun q => q)
        have b5 := k8 _ _ _ b5 (by first | omega | exact fun q => q)
        have ht := ht.kp k8 (by first | omega | exact fun q => q) (by first | omega | exact fun q => q)
        refine r_aload_n C dX0_init_98 rfl ?_
        refine r_iconst C dX0_init_99 (by decide) ?_
        refine r_putA C dX0_init_100 flX0_38 ea8 rfl rfl (fs2 := [vR nt, vR x1, vR x2, vR x3, vR x4, vR x5, vI 1, vI 0]) rfl (fun h9 ea9 o9 => ?_)
        have k9 : Kp (fun t => t = T) h8 h9 := o9.kp ea8 rfl
        have b1 := k9 _ _ _ b1 (by first | omega | exact fun q => q)
        have b2 := k9 _ _ _ b2 (by first | omega | exact fun q => q)
        have b3 := k9 _ _ _ b3 (by first | omega | exact fun q => q)
        have b4 := k9 _ _ _ b4 (by first | omega | exact fun q => q)
        have b5 := k9 _ _ _ b5 (by first | omega | exact fun q => q)
        have ht := ht.kp k9 (by first | omega | exact fun q => q) (by first | omega | exact fun q => q)
        have kT : Kp (fun t => t = T) h4 h9 := k5.tr ((k6.mono (fun t q => q.elim)).tr (k7.tr (k8.tr k9)))
        exact r_vret C dX0_init_103 (by decide) (by decide) ⟨rfl, ⟨nt, x1, x2, x3, x4, x5, ft, f, fun _ => 0, fun _ => 0, fun _ => 0, ⟨ea9, b1, b2, b3, b4, b5⟩, ht, by omega, by omega, fun t t0 t1 => by rw [q1 t t0 t1]; exact ht, fun t t0 t1 => by rw [q3 t t0 (by omega)]; exact ht, fun _ _ _ => ⟨rfl, rfl, rfl⟩⟩, k'.tr ((k4.mono (fun t q => q.elim)).tr (kT.mono (fun t q => by omega)))⟩
      refine r_aload_n C dX0_init_64 rfl ?_
      refine r_get C dX0_init_65 flX0_25 ea rfl ?_
      refine r_iload_n C dX0_init_68 rfl ?_
      refine r_aload_n C dX0_init_69 rfl ?_
      refine r_aastA C dX0_init_70 b3 hq1' (by omega) (by omega) (fun h3' b3' o3' => ?_)
      have k3 : Kp (fun t => t = T + 3) h' h3' := o3'.kp b3 rfl
      have ea := k3 _ _ _ ea (by first | omega | exact fun q => q)
      have b1 := k3 _ _ _ b1 (by first | omega | exact fun q => q)
      have b2 := k3 _ _ _ b2 (by first | omega | exact fun q => q)
      have ht := ht.kp k3 (by first | omega | exact fun q => q) (by first | omega | exact fun q => q)
      refine r_iinc C dX0_init_71 rfl (by decide) (by omega) ?_
      refine r_goto (tgt := 58) C dX0_init_74 (by decide) ?_
      refine ih (i + 1) h3' _ x2 x3 ft (by omega) (by omega) (by omega) ea b1 q1 b2 b3' (fun t t0 t1 => ?_) ht (k'.tr (k3.mono (fun t q => by omega)))
      by_cases hti : t = i
      · rw [hti, fu_s]
      · rw [fu_n hti]; exact q3 t t0 (by omega)
  have loop : ∀ (j : Nat) (i : Int) (h' : Pic) (f : Int → Option Nat), 0 ≤ i → i ≤ 48 → 48 - i < j → h' a = some (ob T 0 [vR nt, vR x1, vN, vN, vN, vN, vI 0, vI 0]) → h' x1 = some (ra (T + 1) 0 48 f) → (∀ t, 0 ≤ t → t < i → f t = some nt) → TxP h' (some nt) 0 (fun _ => 0) → Kp (fun t => T ≤ t ∧ t ≤ T + 5) h h' →
      Go X (Qm X (pV (fun h' => BkR h' a T 1 0 (fun _ => 0) (fun _ _ => 0) (fun _ => 0) (fun _ => 0) ∧ Kp (fun t => T ≤ t ∧ t ≤ T + 5) h h')) 5 96) 1 48 h' 20 [some (vR a), some (vR nt), some (vI i)] [] := by
    intro j
    induction j with
    | zero => intro i h' f g3 g4 g5; exact absurd g5 (by omega)
    | succ j ih =>
      intro i h' f g3 g4 g5 ea b1 q1 ht k'
      obtain ⟨q', bq, mq, gq, eqq, hq1', -⟩ := id ht
      cases eqq
      refine r_iload_n C dX0_init_20 rfl ?_
      refine r_bipush C dX0_init_21 (by decide) ?_
      refine r_icmp_ge (tgt := 39) C dX0_init_23 (by decide) (fun hc23 => ?_) (fun hc23 => ?_)
      · refine r_aload_n C dX0_init_39 rfl ?_
        refine r_bipush C dX0_init_40 (by decide) ?_
        refine r_newaA (kA := 0) C (T+2) dX0_init_42 rfl ac_int rfl (by omega) (by omega) (by rw [hX]; exact Nat.le_of_ble_eq_true rfl) (by rw [hX]; exact Nat.le_of_ble_eq_true rfl) (fun x2 h4 b2 k4 => ?_)
        have ea := k4 _ _ _ ea (fun q => q)
        have b1 := k4 _ _ _ b1 (fun q => q)
        have ht := ht.kp k4 (fun q => q) (fun q => q)
        refine r_putFA C hN dX0_init_44 flX0_21 rfl ea rfl rfl (fs2 := [vR nt, vR x1, vR x2, vN, vN, vN, vI 0, vI 0]) rfl (fun h5 ea5 o5 => ?_)
        have k5 : Kp (fun t => t = T) h4 h5 := o5.kp ea rfl
        have b1 := k5 _ _ _ b1 (by first | omega | exact fun q => q)
        have b2 := k5 _ _ _ b2 (by first | omega | exact fun q => q)
        have ht := ht.kp k5 (by first | omega | exact fun q => q) (by first | omega | exact fun q => q)
        refine r_aload_n C dX0_init_47 rfl ?_
        refine r_bipush C dX0_init_48 (by decide) ?_
        refine r_newqA (kr := 0) C (T+3) dX0_init_50 clX0_15 (by omega) (by omega) (by rw [hX]; exact Nat.le_of_ble_eq_true rfl) (by rw [hX]; exact Nat.le_of_ble_eq_true rfl) (fun x3 h6 b3 k6 => ?_)
        have ea5 := k6 _ _ _ ea5 (fun q => q)
        have b1 := k6 _ _ _ b1 (fun q => q)
        have b2 := k6 _ _ _ b2 (fun q => q)
        have ht := ht.kp k6 (fun q => q) (fun q => q)
        refine r_putFA C hN dX0_init_53 flX0_25 rfl ea5 rfl rfl (fs2 := [vR nt, vR x1, vR x2, vR x3, vN, vN, vI 0, vI 0]) rfl (fun h7 ea7 o7 => ?_)
        have k7 : Kp (fun t => t = T) h6 h7 := o7.kp ea5 rfl
        have b1 := k7 _ _ _ b1 (by first | omega | exact fun q => q)
        have b2 := k7 _ _ _ b2 (by first | omega | exact fun q => q)
        have b3 := k7 _ _ _ b3 (by first | omega | exact fun q => q)
        have ht := ht.kp k7 (by first | omega | exact fun q => q) (by first | omega | exact fun q => q)
        refine r_iconst C dX0_init_56 (by decide) ?_
        refine r_istore_n C dX0_init_57 (by decide) ?_
        exact loop2 13 0 h7 _ x2 x3 f (by omega) (by omega) (by omega) ea7 b1 (fun t t0 t1 => q1 t t0 (by omega)) b2 b3 (fun t t0 t1 => by omega) ht (k'.tr ((k4.mono (fun t q => q.elim)).tr ((k5.mono (fun t q => by omega)).tr ((k6.mono (fun t q => q.elim)).tr (k7.mono (fun t q => by omega))))))
      refine r_aload_n C dX0_init_26 rfl ?_
      refine r_get C dX0_init_27 flX0_17 ea rfl ?_
      refine r_iload_n C dX0_init_30 rfl ?_
      refine r_aload_n C dX0_init_31 rfl ?_
      refine r_aastA C dX0_init_32 b1 hq1' (by omega) (by omega) (fun h3' b1' o3' => ?_)
      have k3 : Kp (fun t => t = T + 1) h' h3' := o3'.kp b1 rfl
      have ea := k3 _ _ _ ea (by first | omega | exact fun q => q)
      have ht := ht.kp k3 (by first | omega | exact fun q => q) (by first | omega | exact fun q => q)
      refine r_iinc C dX0_init_33 rfl (by decide) (by omega) ?_
      refine r_goto (tgt := 20) C dX0_init_36 (by decide) ?_
      refine ih (i + 1) h3' _ (by omega) (by omega) (by omega) ea b1' (fun t t0 t1 => ?_) ht (k'.tr (k3.mono (fun t q => by omega)))
      by_cases hti : t = i
      · rw [hti, fu_s]
      · rw [fu_n hti]; exact q1 t t0 (by omega)
  refine r_iconst C dX0_init_18 (by decide) ?_
  refine r_istore_n C dX0_init_19 (by decide) ?_
  exact loop 49 0 h3 _ (by omega) (by omega) (by omega) e3 f1 (fun t t0 t1 => by omega) hnt K3
end
