/-! the layer, third part: contracts and calls -/
def rmD (d mc ms : Nat) : Room := { frames := d, cells := mc, slots := ms, locals := 40 * d }
def Meets (y : MethodName) (cc : ByteArray) (nL : Nat) (ret : Option FieldType) (d mc ms : Nat) (as : List Va) (h : Pic) (P : Option Va → Pic → Prop) : Prop :=
  ∀ (l : Launch) (D : va_G) (base : Nat), Met l y (Cond.code y cc nL ret :: mw) (rmD d mc ms) (va_Pc (as.map cv) (fun U => (∀ v ∈ as, Rv v) ∧ KK D U ∧ base ≤ U.heap.size ∧ PicOk D base h U U.heap)) (Qp D base P) mc ms (fun q => base ≤ q)
abbrev pI (z : Int) (h : Pic) : Option Va → Pic → Prop := fun r h' => r = some (vI z) ∧ h' = h
abbrev pR (a : Nat) (h : Pic) : Option Va → Pic → Prop := fun r h' => r = some (vR a) ∧ h' = h
abbrev pV (P : Pic → Prop) : Option Va → Pic → Prop := fun r h' => r = none ∧ P h'
abbrev pX (P : Int → Pic → Prop) : Option Va → Pic → Prop := fun r h' => ∃ z, r = some (vI z) ∧ P z h'
abbrev pY (P : Nat → Pic → Prop) : Option Va → Pic → Prop := fun r h' => ∃ a, r = some (vR a) ∧ P a h'
theorem sl_cv (as : List Va) : lg_sl (as.map cv) = (as.map cv).map Slot.val := by
  induction as with
  | nil => rfl
  | cons v as ih =>
    show (if (cv v).category = 2 then _ else _) ++ lg_sl (as.map cv) = _
    rw [if_neg (by rw [cv_cat]; decide), ih]
    rfl
theorem args_mem (as : List Va) : ∀ (j i : Nat) (v : Va), as[i]? = some v → (j + i, cv v) ∈ lv_args j (as.map cv) := by
  induction as with
  | nil => intro j i v h; simp at h
  | cons w as ih =>
    intro j i v h
    show (j + i, cv v) ∈ (j, cv w) :: lv_args (if (cv w).category = 2 then j + 2 else j + 1) (as.map cv)
    rw [if_neg (by rw [cv_cat]; decide)]
    cases i with
    | zero =>
      cases h
      exact List.mem_cons_self
    | succ i =>
      have := ih (j + 1) i v h
      rw [show j + (i + 1) = j + 1 + i by omega]
      exact List.mem_cons_of_mem _ this
theorem Meets.of {y : MethodName} {cc : ByteArray} {nL : Nat} {ret : Option FieldType} {d mc ms : Nat} {as : List Va} {h : Pic} {P : Option Va → Pic → Prop} (hy : plainFor y = true) (hlen : as.length ≤ nL)
    (body : ∀ X : Ctx, Cx X cc nL y.cls ret → X.1.2.2.2 = rmD d mc ms → X.2.2.1.1.name = y.name → (∀ v ∈ as, Rv v) → Go X (Qm X P mc ms) 0 0 h 0 (as.map some ++ List.replicate (nL - as.length) none) []) : Meets y cc nL ret d mc ms as h P := by
  intro l D base
  refine va_MetF (cc := cc) (maxL := nL) (ret := ret) hy rfl ?_
  intro p e s m args below meth c s₁ B hml hv
  obtain ⟨rfl, hRv, hKK, hbase, hP⟩ := hv
  have hts := atoms_spec (ws := Cond.code y cc nL ret :: mw) B.pre
  have hown : s.vm.findClass y.cls = some m.cls := findClass_of_methodNamed B.named
  have hsl : (lg_sl (as.map cv)).length = as.length := by rw [sl_cv, List.length_map, List.length_map]
  have hl := lv_entry (as.map cv) (n := nL) (by rw [hsl]; exact hlen)
  rw [lg_entry_eq]
  refine body ((p, l, e, rmD d mc ms), (s, m, (as.map cv).toArray, below), (meth, c), (D, base)) ⟨B.exec, B.bytes, hml, hown, fun w hw => hts w (List.mem_cons_of_mem _ hw), B.notSynchronized, B.returns, hKK, hbase⟩ rfl (name_of_methodNamed B.named B.method).1 hRv s.heap [] _ hP va_S.rf ⟨?_, hl.2.1, fun i v hi => ?_⟩ (fun v hv => by simp at hv)
  · show _ = c.maxLocals
    rw [hml]
    exact hl.1
  · by_cases hi2 : i < as.length
    · rw [List.getElem?_append_left (by rw [List.length_map]; exact hi2), List.getElem?_map] at hi
      cases e2 : as[i]? with
      | none => rw [e2] at hi; cases hi
      | some w =>
        rw [e2] at hi
        cases hi
        refine ⟨hRv _ (List.mem_of_getElem? e2), ?_⟩
        have := hl.2.2 _ (args_mem as 0 i _ e2)
        simpa using this
    · rw [List.getElem?_append_right (by rw [List.length_map]; omega), List.getElem?_replicate] at hi
      split at hi
      · cases hi
      · cases hi
theorem Meets.mono {y : MethodName} {cc : ByteArray} {nL : Nat} {ret : Option FieldType} {d mc ms : Nat} {as : List Va} {h : Pic} {P P' : Option Va → Pic → Prop} (hM : Meets y cc nL ret d mc ms as h P) (hp : ∀ r h', P r h' → P' r h') : Meets y cc nL ret d mc ms as h P' := by
  intro l D base
  have := hM l D base
  unfold Met at this ⊢
  refine MetFree.mono this (fun _ _ q => q) (fun _ _ _ _ _ q => q) (fun a s o t _ q => ?_)
  obtain ⟨⟨r, h', q1, q2, q3⟩, q4⟩ := q
  exact ⟨⟨r, h', q1, hp _ _ q2, q3⟩, q4⟩
def Fits (X : Ctx) (d bL mc ms k n : Nat) : Prop := d + 1 ≤ X.1.2.2.2.frames ∧ 8 + (bL + 11) + 40 * d ≤ X.1.2.2.2.locals ∧ k + mc ≤ X.1.2.2.2.cells ∧ n + ms ≤ X.1.2.2.2.slots
theorem fit {X : Ctx} {D MC MS d bL mc ms k n : Nat} (hX : X.1.2.2.2 = rmD D MC MS) (q : d + 1 ≤ D ∧ bL ≤ 21 ∧ k + mc ≤ MC ∧ n + ms ≤ MS) : Fits X d bL mc ms k n := by
  unfold Fits
  rw [hX]
  show d + 1 ≤ D ∧ 8 + (bL + 11) + 40 * d ≤ 40 * D ∧ k + mc ≤ MC ∧ n + ms ≤ MS
  omega
section GoCalls
variable {X : Ctx} {Q : State → Prop} {k n : Nat} {h : Pic} {pc : Nat} {L : List (Option Va)} {st : List Va} {cc : ByteArray} {nL : Nat} {own : String} {ret : Option FieldType}
variable {i b tb ci d mc ms nA bL : Nat} {y : MethodName} {bc : ByteArray} {bret : Option FieldType} {fs as rest : List Va} {P : Option Va → Pic → Prop}
theorem blind {D : va_G} {base : Nat} (as : List Va) (h : Pic) : FrameBlind (va_Pc (as.map cv) (fun U => (∀ v ∈ as, Rv v) ∧ KK D U ∧ base ≤ U.heap.size ∧ PicOk D base h U U.heap)) := by
  intro a U g mk q
  obtain ⟨q1, q2, q3, q4, q5⟩ := q
  exact ⟨q1, q2, q3.same rfl, q4, q5.moved (Vm.Alike.refl U.vm)⟩
theorem go_run {H : Heap} {locs : List Loc} {ls : Array Slot} {a : Array Value} (hL : LsOk ls X.2.2.1.2.maxLocals L) (hS : va_S (fun q => X.2.2.2.2 ≤ q) X.2.1.1.heap H locs) (hR : ∀ v ∈ rest, Rv v)
    (hr : va_Run X.1.1 X.1.2.1 X.1.2.2.1 X.1.2.2.2 X.2.1.1 X.2.1.2.1 X.2.1.2.2.1 X.2.1.2.2.2 X.2.2.1.1 X.2.2.1.2 H locs k n mc ms (F0 X.2.1.2.1 pc ls (st.map cv)) (rest.map cv) (Qp X.2.2.2.1 X.2.2.2.2 P a) (fun q => X.2.2.2.2 ≤ q))
    (kk : ∀ r h', P r h' → Go X Q (k + mc) (n + ms) h' (pc + 3) L (r.toList ++ rest)) : W X.1.1 X.1.2.1 X.1.2.2.1 X.1.2.2.2 X.2.1.1 X.2.1.2.1 X.2.1.2.2.1 X.2.1.2.2.2 X.2.2.1.1 X.2.2.1.2 H locs k n Q (F0 X.2.1.2.1 pc ls (st.map cv)) := by
  intro T hT X1
  obtain ⟨v, st₀, t, T', L', h0, X2, hL', e1, e2, ⟨r, h', hv, hp, hrv, hpic, hz, hk⟩, stp⟩ := hr T hT X1
  cases hv
  rw [h0] at hz hk
  have hal : X.2.1.1.vm.Alike t.vm := by rw [← e2]; exact X2.warmed.alike
  have hst : (r.map cv).toList ++ rest.map cv = (r.toList ++ rest).map cv := by cases r <;> simp
  have K := kk r h' hp T'.heap (locs ++ L') ls (by rw [e1]; exact hpic.moved hal.symm) ⟨Nat.le_trans hS.1 (by rw [e1]; exact hz), fun q h1 h2 => by rw [e1, hk q (Nat.lt_of_lt_of_le h1 hS.1) h2]; exact hS.2.1 q h1 h2, fun q hq => by
      rcases List.mem_append.mp hq with h | h
      · exact hS.2.2 q h
      · exact hL' q h⟩ hL (fun v hv => by
      rcases List.mem_append.mp hv with h | h
      · exact hrv v (by cases r <;> simp at h; rw [h])
      · exact hR v h)
  rw [← hst] at K
  obtain ⟨t2, a1, b1⟩ := K T' rfl X2
  exact ⟨t2, stp t2 a1, b1⟩
theorem r_callV (C : Cx X cc nL own ret) (hd : decode cc pc = .ok (.invokevirtual i, 3)) (hl : Cond.methodLink own i y ∈ mw) (hk : CalV y bc bL bret nA) (hM : Meets y bc bL bret d mc ms (vR b :: as) h P) (hb : h b = some (tb, .inl (ci, fs))) (hci : classes[ci]?.map (fun r => r.1) = some y.cls) (hst : st = as.reverse ++ vR b :: rest) (hn : as.length = nA) (hrest : rest.length ≤ 8) (hf : Fits X d bL mc ms k n) (kk : ∀ r h', P r h' → Go X Q (k + mc) (n + ms) h' (pc + 3) L (r.toList ++ rest)) : Go X Q k n h pc L st := by
  intro H locs ls hP hS hL hR
  obtain ⟨⟨w1, w2, w3⟩, w4, w5⟩ := hk
  subst hst
  obtain ⟨-, -, r, hr, -, cell, g1, g2, g3, -⟩ := hP _ _ _ hb
  rw [hr] at hci
  have hcn : r.1 = y.cls := Option.some.inj hci
  refine go_run hL hS (fun v hv => hR v (List.mem_append_right _ (List.mem_cons_of_mem _ hv))) (va_runV (C := y.cls) (b := b) (As := as.map cv) (rest := rest.map cv) ⟨C.1, C.2.1, C.2.2.1, C.2.2.2.1, C.hts⟩ (hM X.1.2.1 X.2.2.2.1 X.2.2.2.2) ⟨callB_of nA C.hts (mw_good w1) rfl rfl rfl (C.hts _ w2) (C.hts _ hl) w3 ⟨hf.1, hf.2.1⟩, C.hts _ w4, C.hts _ w5⟩ ⟨blind (vR b :: as) h, ⟨cell, g1, by rw [g3]; rfl, by rw [g2, ← hcn]; exact (C.K.1 ci r hr).2.1⟩, fun U hU hW => ⟨rfl, fun v hv => ?_, C.K.warm hW, ?_, ?_⟩⟩ rfl (by rw [List.length_map]; exact hn) (by show ls.size = _; rw [hL.1, C.2.2.1]) ?_ ?_ hd ⟨hf.2.2.1, hf.2.2.2⟩) kk
  · rcases List.mem_cons.mp hv with rfl | hv
    · trivial
    · exact hR v (List.mem_append_left _ (List.mem_reverse.mpr hv))
  · rw [hU]; exact Nat.le_trans C.2.2.2.2.2.2.2.2 hS.1
  · rw [hU]; exact hP.moved hW.alike
  · show List.map cv _ = _
    rw [List.map_append, List.map_reverse]
    rfl
  · rw [cv_sum]
    show 2 * 0 + _ ≤ _
    omega
theorem r_callS (C : Cx X cc nL own ret) (hd : decode cc pc = .ok (.invokestatic i, 3)) (hl : Cond.methodLink own i y ∈ mw) (hk : CalS y bc bL bret nA) (hM : Meets y bc bL bret d mc ms as h P) (hst : st = as.reverse ++ rest) (hn : as.length = nA) (hrest : rest.length ≤ 8) (hf : Fits X d bL mc ms k n) (kk : ∀ r h', P r h' → Go X Q (k + mc) (n + ms) h' (pc + 3) L (r.toList ++ rest)) : Go X Q k n h pc L st := by
  intro H locs ls hP hS hL hR
  obtain ⟨⟨w1, w2, w3⟩, w4⟩ := hk
  subst hst
  refine go_run hL hS (fun v hv => hR v (List.mem_append_right _ hv)) (va_runS (As := as.map cv) (rest := rest.map cv) ⟨C.1, C.2.1, C.2.2.1, C.2.2.2.1, C.hts⟩ (hM X.1.2.1 X.2.2.2.1 X.2.2.2.2) ⟨callB_of nA C.hts (mw_good w1) rfl rfl rfl (C.hts _ w2) (C.hts _ hl) w3 ⟨hf.1, hf.2.1⟩, C.hts _ w4⟩ ⟨blind as h, fun U hU hW => ⟨rfl, fun v hv => hR v (List.mem_append_left _ (List.mem_reverse.mpr hv)), C.K.warm hW, ?_, ?_⟩⟩ rfl (by rw [List.length_map]; exact hn) (by show ls.size = _; rw [hL.1, C.2.2.1]) ?_ ?_ hd ⟨hf.2.2.1, hf.2.2.2⟩) kk
  · rw [hU]; exact Nat.le_trans C.2.2.2.2.2.2.2.2 hS.1
  · rw [hU]; exact hP.moved hW.alike
  · show List.map cv _ = _
    rw [List.map_append, List.map_reverse]
  · rw [cv_sum]
    show 2 * 0 + _ ≤ _
    omega
theorem r_callN {host : String} (C : Cx X cc nL own ret) (hd : decode cc pc = .ok (.invokestatic i, 3)) (hl : va_Nw (.methodLinkNest own i y host) X.2.1.1) (hk : CalS y bc bL bret nA) (hM : Meets y bc bL bret d mc ms as h P) (hst : st = as.reverse ++ rest) (hn : as.length = nA) (hrest : rest.length ≤ 8) (hf : Fits X d bL mc ms k n) (kk : ∀ r h', P r h' → Go X Q (k + mc) (n + ms) h' (pc + 3) L (r.toList ++ rest)) : Go X Q k n h pc L st := by
  intro H locs ls hP hS hL hR
  obtain ⟨⟨w1, w2, w3⟩, w4⟩ := hk
  subst hst
  refine go_run hL hS (fun v hv => hR v (List.mem_append_right _ hv)) (va_runSN (As := as.map cv) (rest := rest.map cv) ⟨C.1, C.2.1, C.2.2.1, C.2.2.2.1, C.hts⟩ (hM X.1.2.1 X.2.2.2.1 X.2.2.2.2) ⟨va_cnB nA C.hts (mw_good w1) rfl rfl rfl hl (C.hts _ w2) w3 ⟨hf.1, hf.2.1⟩, C.hts _ w4, trivial⟩ ⟨blind as h, fun U hU hW => ⟨rfl, fun v hv => hR v (List.mem_append_left _ (List.mem_reverse.mpr hv)), C.K.warm hW, ?_, ?_⟩⟩ rfl (by rw [List.length_map]; exact hn) (by show ls.size = _; rw [hL.1, C.2.2.1]) ?_ ?_ hd ⟨hf.2.2.1, hf.2.2.2⟩) kk
  · rw [hU]; exact Nat.le_trans C.2.2.2.2.2.2.2.2 hS.1
  · rw [hU]; exact hP.moved hW.alike
  · show List.map cv _ = _
    rw [List.map_append, List.map_reverse]
  · rw [cv_sum]
    show 2 * 0 + _ ≤ _
    omega
theorem r_callI (C : Cx X cc nL own ret) (hd : decode cc pc = .ok (.invokespecial i, 3)) (hl : Cond.methodLink own i y ∈ mw) (hk : CalI y bc bL nA) (hM : Meets y bc bL none d mc ms (vR b :: as) h P) (hst : st = as.reverse ++ vR b :: rest) (hn : as.length = nA) (hrest : rest.length ≤ 8) (hf : Fits X d bL mc ms k n) (kk : ∀ r h', P r h' → Go X Q (k + mc) (n + ms) h' (pc + 3) L (r.toList ++ rest)) : Go X Q k n h pc L st := by
  intro H locs ls hP hS hL hR
  obtain ⟨⟨w1, w2, w3⟩, w4, w5⟩ := hk
  subst hst
  refine go_run hL hS (fun v hv => hR v (List.mem_append_right _ (List.mem_cons_of_mem _ hv))) (va_runI (b := b) (As := as.map cv) (rest := rest.map cv) ⟨C.1, C.2.1, C.2.2.1, C.2.2.2.1, C.hts⟩ (hM X.1.2.1 X.2.2.2.1 X.2.2.2.2) ⟨callB_of nA C.hts (mw_good w1) rfl rfl rfl (C.hts _ w2) (C.hts _ hl) w3 ⟨hf.1, hf.2.1⟩, w5, C.hts _ w4⟩ ⟨blind (vR b :: as) h, fun U hU hW => ⟨rfl, fun v hv => ?_, C.K.warm hW, ?_, ?_⟩⟩ rfl (by rw [List.length_map]; exact hn) (by show ls.size = _; rw [hL.1, C.2.2.1]) ?_ ?_ hd ⟨hf.2.2.1, hf.2.2.2⟩) kk
  · rcases List.mem_cons.mp hv with rfl | hv
    · trivial
    · exact hR v (List.mem_append_left _ (List.mem_reverse.mpr hv))
  · rw [hU]; exact Nat.le_trans C.2.2.2.2.2.2.2.2 hS.1
  · rw [hU]; exact hP.moved hW.alike
  · show List.map cv _ = _
    rw [List.map_append, List.map_reverse]
    rfl
  · rw [cv_sum]
    show 2 * 0 + _ ≤ _
    omega
-- by what comes back: i, r: nothing changes; v: nothing comes back; x: a number and a change; y: an address and a change
theorem r_cVi {z : Int} (C : Cx X cc nL own ret) (hd : decode cc pc = .ok (.invokevirtual i, 3)) (hl : Cond.methodLink own i y ∈ mw) (hk : CalV y bc bL bret nA) (hM : Meets y bc bL bret d 0 0 (vR b :: as) h (pI z h)) (hb : h b = some (tb, .inl (ci, fs))) (hci : classes[ci]?.map (fun r => r.1) = some y.cls) (hst : st = as.reverse ++ vR b :: rest) (hn : as.length = nA) (hrest : rest.length ≤ 8) (hf : Fits X d bL 0 0 k n) (kk : Go X Q k n h (pc + 3) L (vI z :: rest)) : Go X Q k n h pc L st :=
  r_callV C hd hl hk hM hb hci hst hn hrest hf (fun r h' q => by obtain ⟨rfl, rfl⟩ := q; exact kk)
theorem r_cVr {a : Nat} (C : Cx X cc nL own ret) (hd : decode cc pc = .ok (.invokevirtual i, 3)) (hl : Cond.methodLink own i y ∈ mw) (hk : CalV y bc bL bret nA) (hM : Meets y bc bL bret d 0 0 (vR b :: as) h (pR a h)) (hb : h b = some (tb, .inl (ci, fs))) (hci : classes[ci]?.map (fun r => r.1) = some y.cls) (hst : st = as.reverse ++ vR b :: rest) (hn : as.length = nA) (hrest : rest.length ≤ 8) (hf : Fits X d bL 0 0 k n) (kk : Go X Q k n h (pc + 3) L (vR a :: rest)) : Go X Q k n h pc L st :=
  r_callV C hd hl hk hM hb hci hst hn hrest hf (fun r h' q => by obtain ⟨rfl, rfl⟩ := q; exact kk)
theorem r_cVv {P : Pic → Prop} (C : Cx X cc nL own ret) (hd : decode cc pc = .ok (.invokevirtual i, 3)) (hl : Cond.methodLink own i y ∈ mw) (hk : CalV y bc bL bret nA) (hM : Meets y bc bL bret d mc ms (vR b :: as) h (pV P)) (hb : h b = some (tb, .inl (ci, fs))) (hci : classes[ci]?.map (fun r => r.1) = some y.cls) (hst : st = as.reverse ++ vR b :: rest) (hn : as.length = nA) (hrest : rest.length ≤ 8) (hf : Fits X d bL mc ms k n) (kk : ∀ h', P h' → Go X Q (k + mc) (n + ms) h' (pc + 3) L rest) : Go X Q k n h pc L st :=
  r_callV C hd hl hk hM hb hci hst hn hrest hf (fun r h' q => by obtain ⟨rfl, q⟩ := q; exact kk h' q)
theorem r_cVx {P : Int → Pic → Prop} (C : Cx X cc nL own ret) (hd : decode cc pc = .ok (.invokevirtual i, 3)) (hl : Cond.methodLink own i y ∈ mw) (hk : CalV y bc bL bret nA) (hM : Meets y bc bL bret d mc ms (vR b :: as) h (pX P)) (hb : h b = some (tb, .inl (ci, fs))) (hci : classes[ci]?.map (fun r => r.1) = some y.cls) (hst : st = as.reverse ++ vR b :: rest) (hn : as.length = nA) (hrest : rest.length ≤ 8) (hf : Fits X d bL mc ms k n) (kk : ∀ z h', P z h' → Go X Q (k + mc) (n + ms) h' (pc + 3) L (vI z :: rest)) : Go X Q k n h pc L st :=
  r_callV C hd hl hk hM hb hci hst hn hrest hf (fun r h' q => by obtain ⟨z, rfl, q⟩ := q; exact kk z h' q)
theorem r_cVy {P : Nat → Pic → Prop} (C : Cx X cc nL own ret) (hd : decode cc pc = .ok (.invokevirtual i, 3)) (hl : Cond.methodLink own i y ∈ mw) (hk : CalV y bc bL bret nA) (hM : Meets y bc bL bret d mc ms (vR b :: as) h (pY P)) (hb : h b = some (tb, .inl (ci, fs))) (hci : classes[ci]?.map (fun r => r.1) = some y.cls) (hst : st = as.reverse ++ vR b :: rest) (hn : as.length = nA) (hrest : rest.length ≤ 8) (hf : Fits X d bL mc ms k n) (kk : ∀ a h', P a h' → Go X Q (k + mc) (n + ms) h' (pc + 3) L (vR a :: rest)) : Go X Q k n h pc L st :=
  r_callV C hd hl hk hM hb hci hst hn hrest hf (fun r h' q => by obtain ⟨a, rfl, q⟩ := q; exact kk a h' q)
theorem r_cSi {z : Int} (C : Cx X cc nL own ret) (hd : decode cc pc = .ok (.invokestatic i, 3)) (hl : Cond.methodLink own i y ∈ mw) (hk : CalS y bc bL bret nA) (hM : Meets y bc bL bret d 0 0 as h (pI z h)) (hst : st = as.reverse ++ rest) (hn : as.length = nA) (hrest : rest.length ≤ 8) (hf : Fits X d bL 0 0 k n) (kk : Go X Q k n h (pc + 3) L (vI z :: rest)) : Go X Q k n h pc L st :=
  r_callS C hd hl hk hM hst hn hrest hf (fun r h' q => by obtain ⟨rfl, rfl⟩ := q; exact kk)
theorem r_cNi {z : Int} {host : String} (C : Cx X cc nL own ret) (hd : decode cc pc = .ok (.invokestatic i, 3)) (hl : va_Nw (.methodLinkNest own i y host) X.2.1.1) (hk : CalS y bc bL bret nA) (hM : Meets y bc bL bret d 0 0 as h (pI z h)) (hst : st = as.reverse ++ rest) (hn : as.length = nA) (hrest : rest.length ≤ 8) (hf : Fits X d bL 0 0 k n) (kk : Go X Q k n h (pc + 3) L (vI z :: rest)) : Go X Q k n h pc L st :=
  r_callN C hd hl hk hM hst hn hrest hf (fun r h' q => by obtain ⟨rfl, rfl⟩ := q; exact kk)
theorem r_cI {P : Pic → Prop} (C : Cx X cc nL own ret) (hd : decode cc pc = .ok (.invokespecial i, 3)) (hl : Cond.methodLink own i y ∈ mw) (hk : CalI y bc bL nA) (hM : Meets y bc bL none d mc ms (vR b :: as) h (pV P)) (hst : st = as.reverse ++ vR b :: rest) (hn : as.length = nA) (hrest : rest.length ≤ 8) (hf : Fits X d bL mc ms k n) (kk : ∀ h', P h' → Go X Q (k + mc) (n + ms) h' (pc + 3) L rest) : Go X Q k n h pc L st :=
  r_callI C hd hl hk hM hst hn hrest hf (fun r h' q => by obtain ⟨rfl, q⟩ := q; exact kk h' q)
-- what the picture tells of ranges
theorem r_rngI {a t kA : Nat} {m : Int} {f : Int → Int} (ha : h a = some (ia t kA m f)) (kk : (0 ≤ m ∧ m ≤ 2147483647) → (∀ j, Rg (f j)) → Go X Q k n h pc L st) : Go X Q k n h pc L st := fun H locs ls hP hS hL hR => by
  obtain ⟨-, hm, hf, -⟩ := hP _ _ _ ha
  exact kk hm hf H locs ls hP hS hL hR
theorem r_rngF {a t c : Nat} {fs : List Va} (ha : h a = some (t, .inl (c, fs))) (kk : (∀ v ∈ fs, Rv v) → Go X Q k n h pc L st) : Go X Q k n h pc L st := fun H locs ls hP hS hL hR => by
  obtain ⟨-, hf, -⟩ := hP _ _ _ ha
  exact kk hf H locs ls hP hS hL hR
theorem r_loc {L' : List (Option Va)} (hs : ∀ (i : Nat) (v : Va), L'[i]? = some (some v) → L[i]? = some (some v)) (kk : Go X Q k n h pc L' st) : Go X Q k n h pc L st := fun H locs ls hP hS hL hR =>
  kk H locs ls hP hS ⟨hL.1, hL.2.1, fun i v q => hL.2.2 i v (hs i v q)⟩ hR
end GoCalls
