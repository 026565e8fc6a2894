/-! a layer over the kit: whole numbers as Int, the heap as a picture (address to what lies there, with a ghost mark) -/
abbrev Va : Type := Int ⊕ Option Nat
abbrev vI (z : Int) : Va := Sum.inl z
abbrev vR (a : Nat) : Va := Sum.inr (some a)
def cv : Va → Value
  | .inl z => .int (Int32.ofInt z)
  | .inr r => va_rf r
abbrev Rg (z : Int) : Prop := -2147483648 ≤ z ∧ z ≤ 2147483647
def Rv : Va → Prop
  | .inl z => Rg z
  | .inr _ => True
abbrev Bd : Type := (Nat × List Va) ⊕ (Nat × Int × (Int → Int)) ⊕ (Nat × Int × (Int → Option Nat))
abbrev Ob : Type := Nat × Bd
abbrev Pic : Type := Nat → Option Ob
abbrev ob (t ci : Nat) (fs : List Va) : Ob := (t, .inl (ci, fs))
abbrev ia (t k : Nat) (n : Int) (f : Int → Int) : Ob := (t, .inr (.inl (k, n, f)))
abbrev ra (t k : Nat) (n : Int) (f : Int → Option Nat) : Ob := (t, .inr (.inr (k, n, f)))
def pu (h : Pic) (a : Nat) (o : Ob) : Pic := fun q => if q = a then some o else h q
def fu {α : Type} (f : Int → α) (i : Int) (v : α) : Int → α := fun j => if j = i then v else f j
theorem pu_s {h : Pic} {a : Nat} {o : Ob} : pu h a o a = some o := if_pos rfl
theorem pu_n {h : Pic} {a q : Nat} {o : Ob} (e : q ≠ a) : pu h a o q = h q := if_neg e
theorem fu_s {α : Type} {f : Int → α} {i : Int} {v : α} : fu f i v i = v := if_pos rfl
theorem fu_n {α : Type} {f : Int → α} {i j : Int} {v : α} (e : j ≠ i) : fu f i v j = f j := if_neg e
theorem cv_cat (v : Va) : (cv v).category = 1 := by
  rcases v with z | (_ | a) <;> rfl
theorem o_toInt {z : Int} (h : Rg z) : (Int32.ofInt z).toInt = z := Int32.toInt_ofInt_of_le (by have := h.1; omega) (by have := h.2; omega)
theorem o_le {x y : Int} (hx : Rg x) (hy : Rg y) : Int32.ofInt x ≤ Int32.ofInt y ↔ x ≤ y := by rw [Int32.le_iff_toInt_le, o_toInt hx, o_toInt hy]
theorem o_lt {x y : Int} (hx : Rg x) (hy : Rg y) : Int32.ofInt x < Int32.ofInt y ↔ x < y := by rw [Int32.lt_iff_toInt_lt, o_toInt hx, o_toInt hy]
theorem o_eq {x y : Int} (hx : Rg x) (hy : Rg y) : Int32.ofInt x = Int32.ofInt y ↔ x = y := by
  refine ⟨fun h => ?_, fun h => by rw [h]⟩
  have := congrArg Int32.toInt h
  rwa [o_toInt hx, o_toInt hy] at this
theorem o_clamp {x : Int} (h : Rg x) : (Int32.ofInt x).toNatClampNeg = x.toNat := Int32.toNatClampNeg_ofInt_of_le (by have := h.1; omega) (by have := h.2; omega)
theorem o_in {x n : Int} (h0 : 0 ≤ x) (h1 : x < n) (h : Rg x) : vp_in (Int32.ofInt x) n.toNat := by
  rw [vp_in_iff, o_toInt h]
  omega
theorem o_ns {x n : Int} (h0 : 0 ≤ x) (h1 : x < n) (h : Rg x) : ¬ (Int32.ofInt x < 0 ∨ n.toNat ≤ (Int32.ofInt x).toNatClampNeg) := o_in h0 h1 h
theorem o_8 {z : Int} (h : -128 ≤ z ∧ z ≤ 127) : (Int8.ofInt z).toInt32 = Int32.ofInt z := by
  rw [← Int32.toInt_inj, Int8.toInt_toInt32, Int8.toInt_ofInt_of_le (by omega) (by omega), o_toInt (by omega)]
theorem o_16 {z : Int} (h : -32768 ≤ z ∧ z ≤ 32767) : (Int16.ofInt z).toInt32 = Int32.ofInt z := by
  rw [← Int32.toInt_inj, Int16.toInt_toInt32, Int16.toInt_ofInt_of_le (by omega) (by omega), o_toInt (by omega)]
theorem o_nb {z : Int} (h : z = 0 ∨ z = 1) : narrow .boolean (.int (Int32.ofInt z)) = .int (Int32.ofInt z) := by
  rcases h with rfl | rfl <;> rfl
theorem o_nc {z : Int} (h : 0 ≤ z ∧ z ≤ 65535) : narrow .char (.int (Int32.ofInt z)) = .int (Int32.ofInt z) := by
  obtain ⟨k, rfl⟩ := Int.eq_ofNat_of_zero_le h.1
  rw [Int32.ofInt_eq_ofNat]
  exact (pk_charN (by omega)).1
def tyI (k : Nat) : FieldType := match k with
  | 0 => .int
  | 1 => .char
  | _ => .boolean
def tyR (k : Nat) : Nat × String := match k with
  | 0 => (6, "BookShows$Text")
  | _ => (0, "BookShows$Book")
/-- what lies at an address is there -/
def OkAt (D : va_G) (U : State) (H : Heap) (a : Nat) (b : Bd) : Prop := match b with
  | .inl (ci, fs) => (∀ v ∈ fs, Rv v) ∧ ∃ r : vw_C, classes[ci]? = some r ∧ fs.length = r.2.2 ∧ t_OB a (D.1 ci) r.2.2 (D.2 ci) H (vp_V (fs.map cv))
  | .inr (.inl (k, n, f)) => (0 ≤ n ∧ n ≤ 2147483647) ∧ (∀ j, Rg (f j)) ∧ ∃ cA : ClassId, ArrOfT U cA (tyI k) ∧ H[a]? = some (arrV cA n.toNat (fun j => .int (Int32.ofInt (f j))))
  | .inr (.inr (k, n, f)) => (0 ≤ n ∧ n ≤ 2147483647) ∧ ∃ cA : ClassId, ArrOfT U cA (.object (tyR k).2) ∧ va_RA U cA (.object (tyR k).2) ∧ H[a]? = some (arrV cA n.toNat (fun j => va_rf (f j)))
def PicOk (D : va_G) (base : Nat) (h : Pic) (U : State) (H : Heap) : Prop := ∀ (a t : Nat) (b : Bd), h a = some (t, b) → base ≤ a ∧ OkAt D U H a b
theorem OkAt.moved {D : va_G} {u U : State} {H : Heap} {a : Nat} {b : Bd} (hvm : u.vm.Alike U.vm) (h : OkAt D u H a b) : OkAt D U H a b := by
  rcases b with ⟨ci, fs⟩ | ⟨k, n, f⟩ | ⟨k, n, f⟩
  · exact h
  · obtain ⟨h1, h2, cA, h3, h4⟩ := h
    exact ⟨h1, h2, cA, arrOfT_moved hvm h3, h4⟩
  · obtain ⟨h1, cA, h2, h3, h4⟩ := h
    exact ⟨h1, cA, arrOfT_moved hvm h2, h3.moved hvm, h4⟩
theorem OkAt.kept {D : va_G} {U : State} {H H1 : Heap} {a : Nat} {b : Bd} (h : OkAt D U H a b) (e : H1[a]? = H[a]?) : OkAt D U H1 a b := by
  rcases b with ⟨ci, fs⟩ | ⟨k, n, f⟩ | ⟨k, n, f⟩
  · obtain ⟨h0, r, h1, h2, h3⟩ := h
    exact ⟨h0, r, h1, h2, h3.kept e⟩
  · obtain ⟨h1, h2, cA, h3, h4⟩ := h
    exact ⟨h1, h2, cA, h3, e.trans h4⟩
  · obtain ⟨h1, cA, h2, h3, h4⟩ := h
    exact ⟨h1, cA, h2, h3, e.trans h4⟩
theorem OkAt.lt {D : va_G} {U : State} {H : Heap} {a : Nat} {b : Bd} (h : OkAt D U H a b) : a < H.size := by
  rcases b with ⟨ci, fs⟩ | ⟨k, n, f⟩ | ⟨k, n, f⟩
  · obtain ⟨h0, r, h1, h2, cell, h3, -⟩ := h
    exact (Array.getElem?_eq_some_iff.mp h3).1
  · obtain ⟨h1, h2, cA, h3, h4⟩ := h
    exact (Array.getElem?_eq_some_iff.mp h4).1
  · obtain ⟨h1, cA, h2, h3, h4⟩ := h
    exact (Array.getElem?_eq_some_iff.mp h4).1
theorem PicOk.moved {D : va_G} {base : Nat} {h : Pic} {u U : State} {H : Heap} (hp : PicOk D base h u H) (hvm : u.vm.Alike U.vm) : PicOk D base h U H := fun a t b e => ⟨(hp a t b e).1, (hp a t b e).2.moved hvm⟩
theorem PicOk.set {D : va_G} {base : Nat} {h : Pic} {U : State} {H H1 : Heap} {a t : Nat} {b b' : Bd} (hp : PicOk D base h U H) (ha : h a = some (t, b)) (hb : OkAt D U H1 a b') (e : ∀ q : Nat, q ≠ a → H1[q]? = H[q]?) : PicOk D base (pu h a (t, b')) U H1 := by
  intro q t' b'' hq
  by_cases hqa : q = a
  · subst hqa
    rw [pu_s] at hq
    cases hq
    exact ⟨(hp _ _ _ ha).1, hb⟩
  · rw [pu_n hqa] at hq
    exact ⟨(hp _ _ _ hq).1, (hp _ _ _ hq).2.kept (e q hqa)⟩
theorem PicOk.fresh {D : va_G} {base : Nat} {h : Pic} {U : State} {H : Heap} (hp : PicOk D base h U H) : h H.size = none := by
  cases e : h H.size with
  | none => rfl
  | some o => exact absurd (hp _ o.1 o.2 e).2.lt (Nat.lt_irrefl _)
theorem PicOk.push {D : va_G} {base : Nat} {h : Pic} {U : State} {H H1 : Heap} {t : Nat} {b : Bd} (hp : PicOk D base h U H) (hs : base ≤ H.size) (hb : OkAt D U H1 H.size b) (e : ∀ q : Nat, q < H.size → H1[q]? = H[q]?) : PicOk D base (pu h H.size (t, b)) U H1 := by
  intro q t' b'' hq
  by_cases hqa : q = H.size
  · subst hqa
    rw [pu_s] at hq
    cases hq
    exact ⟨hs, hb⟩
  · rw [pu_n hqa] at hq
    exact ⟨(hp _ _ _ hq).1, (hp _ _ _ hq).2.kept (e q (hp _ _ _ hq).2.lt)⟩
/-- what the tables say of the classes -/
def KK (D : va_G) (U : State) : Prop := (∀ (c : Nat) (q : vw_C), classes[c]? = some q → u_Kn U q.1 q.2.1 q.2.2 (D.1 c) (D.2 c)) ∧ va_AO "BookShows$Text" U ∧ va_AO "BookShows$Book" U ∧ va_Nw (.methodLinkNest RX0 49 yX7_isWord "BookShows") U ∧ va_Nw (.methodLinkNest RX3 23 yX7_isWord "BookShows") U
theorem KK.warm {D : va_G} {s U : State} (h : KK D s) (hW : s.WarmedH U.vm) : KK D U :=
  ⟨fun c q e => u_Kn_moved hW.alike (h.1 c q e), h.2.1.moved hW.alike, h.2.2.1.moved hW.alike, va_Nw.warmM hW h.2.2.2.1, va_Nw.warmM hW h.2.2.2.2⟩
theorem KK.same {D : va_G} {s U : State} (h : KK D s) (e : s.vm = U.vm) : KK D U := by
  have ha : s.vm.Alike U.vm := by rw [e]; exact Vm.Alike.refl _
  exact ⟨fun c q e => u_Kn_moved ha (h.1 c q e), h.2.1.moved ha, h.2.2.1.moved ha, va_Nw.same rfl e h.2.2.2.1, va_Nw.same rfl e h.2.2.2.2⟩
theorem KK.K {D : va_G} {U : State} (h : KK D U) : va_K D classes [] U := ⟨h.1, fun k q e => by simp at e⟩
/-- the locals hold what is listed -/
def LsOk (ls : Array Slot) (nL : Nat) (L : List (Option Va)) : Prop := ls.size = nL ∧ lv_wf ls ∧ ∀ (i : Nat) (v : Va), L[i]? = some (some v) → Rv v ∧ ls[i]? = some (.val (cv v))
def lvL (L : List (Option Va)) : List (Nat × Value) := L.zipIdx.filterMap (fun q => q.1.map (fun v => (q.2, cv v)))
theorem lvL_mem {L : List (Option Va)} {q : Nat × Value} (h : q ∈ lvL L) : ∃ v : Va, L[q.1]? = some (some v) ∧ q.2 = cv v := by
  obtain ⟨⟨o, i⟩, h1, h2⟩ := List.mem_filterMap.mp h
  rw [List.mk_mem_zipIdx_iff_getElem?] at h1
  cases o with
  | none => cases h2
  | some v =>
    cases h2
    exact ⟨v, h1, rfl⟩
theorem mem_lvL {L : List (Option Va)} {i : Nat} {v : Va} (h : L[i]? = some (some v)) : (i, cv v) ∈ lvL L :=
  List.mem_filterMap.mpr ⟨(some v, i), List.mk_mem_zipIdx_iff_getElem?.mpr h, rfl⟩
theorem LsOk.has {ls : Array Slot} {nL : Nat} {L : List (Option Va)} (h : LsOk ls nL L) : lv_has ls nL (lvL L) := by
  refine ⟨h.1, h.2.1, fun q hq => ?_⟩
  obtain ⟨v, h1, h2⟩ := lvL_mem hq
  rw [h2]
  exact (h.2.2 _ _ h1).2
theorem LsOk.put {ls ls' : Array Slot} {nL i : Nat} {L : List (Option Va)} {v : Va} {lv : List (Nat × Value)} (h : LsOk ls nL L) (hv : Rv v) (hsub : ∀ q ∈ lvL L, q ∈ lv) (h' : lv_has ls' nL ((i, cv v) :: lv.filter (fun q => !(q.1 == i) && !(q.1 + 1 == i && q.2.category == 2)))) : LsOk ls' nL (L.set i (some v)) := by
  refine ⟨h'.1, h'.2.1, fun j w hj => ?_⟩
  by_cases e : i = j
  · subst e
    by_cases hl : i < L.length
    · rw [List.getElem?_set_self hl] at hj
      cases hj
      exact ⟨hv, h'.2.2 (i, cv v) List.mem_cons_self⟩
    · rw [List.getElem?_eq_none (by simpa using hl)] at hj
      cases hj
  · rw [List.getElem?_set_ne e] at hj
    refine ⟨(h.2.2 _ _ hj).1, h'.2.2 (j, cv w) (List.mem_cons_of_mem _ (List.mem_filter.mpr ⟨hsub _ (mem_lvL hj), ?_⟩))⟩
    have e2 : (j == i) = false := by simpa using fun q => e q.symm
    simp [e2, cv_cat]
abbrev Ctx : Type := (Program × Launch × Env × Room) × (State × MethodId × Array Value × List Frame) × (Method × Code) × (va_G × Nat)
/-- the machine, at a place of a method, with a picture, locals and stack, comes to Q -/
def Go (X : Ctx) (Q : State → Prop) (k n : Nat) (h : Pic) (pc : Nat) (L : List (Option Va)) (st : List Va) : Prop :=
  ∀ (H : Heap) (locs : List Loc) (ls : Array Slot), PicOk X.2.2.2.1 X.2.2.2.2 h X.2.1.1 H → va_S (fun q => X.2.2.2.2 ≤ q) X.2.1.1.heap H locs → LsOk ls X.2.2.1.2.maxLocals L → (∀ v ∈ st, Rv v) →
    W X.1.1 X.1.2.1 X.1.2.2.1 X.1.2.2.2 X.2.1.1 X.2.1.2.1 X.2.1.2.2.1 X.2.1.2.2.2 X.2.2.1.1 X.2.2.1.2 H locs k n Q (F0 X.2.1.2.1 pc ls (st.map cv))
/-- what holds of a method's run -/
def Cx (X : Ctx) (cc : ByteArray) (nL : Nat) (own : String) (ret : Option FieldType) : Prop :=
  X.1.1.tables.exec = Jvm.exec ∧ X.2.2.1.2.code = cc ∧ X.2.2.1.2.maxLocals = nL ∧ X.2.1.1.vm.findClass own = some X.2.1.2.1.cls ∧ (∀ w ∈ mw, w.before X.2.1.2.2.1 X.2.1.1 = true) ∧ X.2.2.1.1.locks = false ∧ X.2.2.1.1.sig.returnType = ret ∧ KK X.2.2.2.1 X.2.1.1 ∧ X.2.2.2.2 ≤ X.2.1.1.heap.size
theorem Rc {v : Va} {st : List Va} (h : Rv v) (hs : ∀ w ∈ st, Rv w) : ∀ w ∈ v :: st, Rv w := List.forall_mem_cons.mpr ⟨h, hs⟩
theorem Rt {v : Va} {st : List Va} (hs : ∀ w ∈ v :: st, Rv w) : ∀ w ∈ st, Rv w := (List.forall_mem_cons.mp hs).2
theorem Rh {v : Va} {st : List Va} (hs : ∀ w ∈ v :: st, Rv w) : Rv v := (List.forall_mem_cons.mp hs).1
section GoRules
variable {X : Ctx} {Q : State → Prop} {k n : Nat} {h : Pic} {pc : Nat} {L : List (Option Va)} {st : List Va} {cc : ByteArray} {nL : Nat} {own : String} {ret : Option FieldType}
theorem r_iload_n {i : Fin 4} {z : Int} (C : Cx X cc nL own ret) (hd : decode cc pc = .ok (.iload_n i, 1)) (hi : L[i.val]? = some (some (vI z))) (kk : Go X Q k n h (pc + 1) L (vI z :: st)) : Go X Q k n h pc L st := fun H locs ls hP hS hL hR =>
  lv_iload_n C.1 C.2.1 hd rfl (hL.2.2 _ _ hi).2 (kk H locs ls hP hS hL (Rc (hL.2.2 _ _ hi).1 hR))
theorem r_iload {i : Nat} {z : Int} (C : Cx X cc nL own ret) (hd : decode cc pc = .ok (.iload i, 2)) (hi : L[i]? = some (some (vI z))) (kk : Go X Q k n h (pc + 2) L (vI z :: st)) : Go X Q k n h pc L st := fun H locs ls hP hS hL hR =>
  lv_iload C.1 C.2.1 hd (hL.2.2 _ _ hi).2 (kk H locs ls hP hS hL (Rc (hL.2.2 _ _ hi).1 hR))
theorem r_aload_n {i : Fin 4} {a : Nat} (C : Cx X cc nL own ret) (hd : decode cc pc = .ok (.aload_n i, 1)) (hi : L[i.val]? = some (some (vR a))) (kk : Go X Q k n h (pc + 1) L (vR a :: st)) : Go X Q k n h pc L st := fun H locs ls hP hS hL hR =>
  lv_aload_n C.1 C.2.1 hd rfl (hL.2.2 _ _ hi).2 (kk H locs ls hP hS hL (Rc (hL.2.2 _ _ hi).1 hR))
theorem r_aload {i a : Nat} (C : Cx X cc nL own ret) (hd : decode cc pc = .ok (.aload i, 2)) (hi : L[i]? = some (some (vR a))) (kk : Go X Q k n h (pc + 2) L (vR a :: st)) : Go X Q k n h pc L st := fun H locs ls hP hS hL hR =>
  lv_aload C.1 C.2.1 hd (hL.2.2 _ _ hi).2 (kk H locs ls hP hS hL (Rc (hL.2.2 _ _ hi).1 hR))
theorem r_istore_n {i : Fin 4} {z : Int} (C : Cx X cc nL own ret) (hd : decode cc pc = .ok (.istore_n i, 1)) (hi : i.val < nL) (kk : Go X Q k n h (pc + 1) (L.set i.val (some (vI z))) st) : Go X Q k n h pc L (vI z :: st) := fun H locs ls hP hS hL hR =>
  lv_istore_n C.1 C.2.1 hd rfl hL.has (by rw [C.2.2.1]; exact hi) rfl (fun ls' h' => kk H locs ls' hP hS (hL.put (v := vI z) (Rh hR) (fun _ q => q) h') (Rt hR))
theorem r_istore {i : Nat} {z : Int} (C : Cx X cc nL own ret) (hd : decode cc pc = .ok (.istore i, 2)) (hi : i < nL) (kk : Go X Q k n h (pc + 2) (L.set i (some (vI z))) st) : Go X Q k n h pc L (vI z :: st) := fun H locs ls hP hS hL hR =>
  lv_istore C.1 C.2.1 hd hL.has (by rw [C.2.2.1]; exact hi) rfl (fun ls' h' => kk H locs ls' hP hS (hL.put (v := vI z) (Rh hR) (fun _ q => q) h') (Rt hR))
theorem r_astore_n {i : Fin 4} {a : Nat} (C : Cx X cc nL own ret) (hd : decode cc pc = .ok (.astore_n i, 1)) (hi : i.val < nL) (kk : Go X Q k n h (pc + 1) (L.set i.val (some (vR a))) st) : Go X Q k n h pc L (vR a :: st) := fun H locs ls hP hS hL hR =>
  lv_astore_n C.1 C.2.1 hd rfl hL.has (by rw [C.2.2.1]; exact hi) rfl (fun ls' h' => kk H locs ls' hP hS (hL.put (v := vR a) (Rh hR) (fun _ q => q) h') (Rt hR))
theorem r_astore {i : Nat} {a : Nat} (C : Cx X cc nL own ret) (hd : decode cc pc = .ok (.astore i, 2)) (hi : i < nL) (kk : Go X Q k n h (pc + 2) (L.set i (some (vR a))) st) : Go X Q k n h pc L (vR a :: st) := fun H locs ls hP hS hL hR =>
  lv_astore C.1 C.2.1 hd hL.has (by rw [C.2.2.1]; exact hi) rfl (fun ls' h' => kk H locs ls' hP hS (hL.put (v := vR a) (Rh hR) (fun _ q => q) h') (Rt hR))
theorem r_iinc {i : Nat} {z c : Int} (C : Cx X cc nL own ret) (hd : decode cc pc = .ok (.iinc i c, 3)) (hi : L[i]? = some (some (vI z))) (hn : i < nL) (hr : Rg (z + c)) (kk : Go X Q k n h (pc + 3) (L.set i (some (vI (z + c)))) st) : Go X Q k n h pc L st := fun H locs ls hP hS hL hR =>
  lv_iinc (lv := (i, cv (vI z)) :: lvL L) (k := 0) (v := Int32.ofInt (z + c)) C.1 C.2.1 hd ⟨hL.1, hL.2.1, List.forall_mem_cons.mpr ⟨(hL.2.2 _ _ hi).2, hL.has.2.2⟩⟩ rfl (Int32.ofInt_add z c).symm (by rw [C.2.2.1]; exact hn) rfl (fun ls' h' => kk H locs ls' hP hS (hL.put (v := vI (z + c)) hr (fun _ q => List.mem_cons_of_mem _ q) h') hR)
theorem r_iconst {z : Int} (C : Cx X cc nL own ret) (hd : decode cc pc = .ok (.iconst z, 1)) (hr : Rg z) (kk : Go X Q k n h (pc + 1) L (vI z :: st)) : Go X Q k n h pc L st := fun H locs ls hP hS hL hR =>
  lv_iconst C.1 C.2.1 hd rfl (kk H locs ls hP hS hL (Rc hr hR))
theorem r_bipush {z : Int} (C : Cx X cc nL own ret) (hd : decode cc pc = .ok (.bipush z, 2)) (hr : -128 ≤ z ∧ z ≤ 127) (kk : Go X Q k n h (pc + 2) L (vI z :: st)) : Go X Q k n h pc L st := fun H locs ls hP hS hL hR =>
  lv_bipush C.1 C.2.1 hd (o_8 hr) (kk H locs ls hP hS hL (Rc (v := vI z) (by show Rg z; omega) hR))
theorem r_sipush {z : Int} (C : Cx X cc nL own ret) (hd : decode cc pc = .ok (.sipush z, 3)) (hr : -32768 ≤ z ∧ z ≤ 32767) (kk : Go X Q k n h (pc + 3) L (vI z :: st)) : Go X Q k n h pc L st := fun H locs ls hP hS hL hR =>
  lv_sipush C.1 C.2.1 hd (o_16 hr) (kk H locs ls hP hS hL (Rc (v := vI z) (by show Rg z; omega) hR))
theorem r_ldcw {i : Nat} {v : Int32} {z : Int} (C : Cx X cc nL own ret) (hd : decode cc pc = .ok (.ldc_w i, 3)) (hc : Cond.constant own i v ∈ mw) (hz : v = Int32.ofInt z) (hr : Rg z) (kk : Go X Q k n h (pc + 3) L (vI z :: st)) : Go X Q k n h pc L st := fun H locs ls hP hS hL hR => by
  subst hz
  exact lv_ldcw C.1 C.2.1 C.2.2.2.1 (C.2.2.2.2.1 _ hc) hd (kk H locs ls hP hS hL (Rc (v := vI z) hr hR))
theorem r_iadd {x y : Int} (C : Cx X cc nL own ret) (hd : decode cc pc = .ok (.iadd, 1)) (hr : Rg (x + y)) (kk : Go X Q k n h (pc + 1) L (vI (x + y) :: st)) : Go X Q k n h pc L (vI y :: vI x :: st) := fun H locs ls hP hS hL hR =>
  lv_iadd C.1 C.2.1 hd (by rw [← Int32.ofInt_add]; exact kk H locs ls hP hS hL (Rc (v := vI (x + y)) hr (Rt (Rt hR))))
theorem r_isub {x y : Int} (C : Cx X cc nL own ret) (hd : decode cc pc = .ok (.isub, 1)) (hr : Rg (x - y)) (kk : Go X Q k n h (pc + 1) L (vI (x - y) :: st)) : Go X Q k n h pc L (vI y :: vI x :: st) := fun H locs ls hP hS hL hR =>
  lv_isub C.1 C.2.1 hd (by rw [← Int32.ofInt_sub]; exact kk H locs ls hP hS hL (Rc (v := vI (x - y)) hr (Rt (Rt hR))))
theorem r_imul {x y : Int} (C : Cx X cc nL own ret) (hd : decode cc pc = .ok (.imul, 1)) (hr : Rg (x * y)) (kk : Go X Q k n h (pc + 1) L (vI (x * y) :: st)) : Go X Q k n h pc L (vI y :: vI x :: st) := fun H locs ls hP hS hL hR =>
  lv_imul C.1 C.2.1 hd (by rw [← Int32.ofInt_mul]; exact kk H locs ls hP hS hL (Rc (v := vI (x * y)) hr (Rt (Rt hR))))
theorem r_goto {off : Int} {tgt : Nat} (C : Cx X cc nL own ret) (hd : decode cc pc = .ok (.goto off, 3)) (ht : (pc : Int) + off = (tgt : Int)) (kk : Go X Q k n h tgt L st) : Go X Q k n h pc L st := fun H locs ls hP hS hL hR =>
  lv_goto C.1 C.2.1 hd ht (kk H locs ls hP hS hL hR)
theorem r_dup {v : Va} (C : Cx X cc nL own ret) (hd : decode cc pc = .ok (.dup, 1)) (kk : Go X Q k n h (pc + 1) L (v :: v :: st)) : Go X Q k n h pc L (v :: st) := fun H locs ls hP hS hL hR =>
  lv_dup C.1 C.2.1 hd (cv_cat v) (kk H locs ls hP hS hL (Rc (Rh hR) hR))
theorem r_dup2 {v w : Va} (C : Cx X cc nL own ret) (hd : decode cc pc = .ok (.dup2, 1)) (kk : Go X Q k n h (pc + 1) L (v :: w :: v :: w :: st)) : Go X Q k n h pc L (v :: w :: st) := fun H locs ls hP hS hL hR =>
  lv_dup2_11 C.1 C.2.1 hd (cv_cat v) (cv_cat w) (kk H locs ls hP hS hL (Rc (Rh hR) (Rc (Rh (Rt hR)) hR)))
theorem r_pop {v : Va} (C : Cx X cc nL own ret) (hd : decode cc pc = .ok (.pop, 1)) (kk : Go X Q k n h (pc + 1) L st) : Go X Q k n h pc L (v :: st) := fun H locs ls hP hS hL hR =>
  lv_pop C.1 C.2.1 hd (cv_cat v) (kk H locs ls hP hS hL (Rt hR))
-- BRANCHES
theorem z_eq {x : Int} (hx : Rg x) : Int32.ofInt x = 0 ↔ x = 0 := o_eq hx (y := 0) (by omega)
theorem z_lt {x : Int} (hx : Rg x) : Int32.ofInt x < 0 ↔ x < 0 := o_lt hx (y := 0) (by omega)
theorem z_le {x : Int} (hx : Rg x) : Int32.ofInt x ≤ 0 ↔ x ≤ 0 := o_le hx (y := 0) (by omega)
theorem z_gt {x : Int} (hx : Rg x) : 0 < Int32.ofInt x ↔ 0 < x := o_lt (x := 0) (by omega) hx
theorem z_ge {x : Int} (hx : Rg x) : 0 ≤ Int32.ofInt x ↔ 0 ≤ x := o_le (x := 0) (by omega) hx
theorem r_icmp_eq {x y off : Int} {tgt : Nat} (C : Cx X cc nL own ret) (hd : decode cc pc = .ok (.if_icmp .eq off, 3)) (ht : (pc : Int) + off = (tgt : Int)) (kt : x = y → Go X Q k n h tgt L st) (kf : ¬ x = y → Go X Q k n h (pc + 3) L st) : Go X Q k n h pc L (vI y :: vI x :: st) := fun H locs ls hP hS hL hR => by
  have hy : Rg y := Rh hR
  have hx : Rg x := Rh (Rt hR)
  have hr := Rt (Rt hR)
  exact lv_icmp_eq C.1 C.2.1 hd ht (fun q => kt ((o_eq hx hy).mp q) H locs ls hP hS hL hr) (fun q => kf (fun z => q ((o_eq hx hy).mpr z)) H locs ls hP hS hL hr)
theorem r_if_eq {x off : Int} {tgt : Nat} (C : Cx X cc nL own ret) (hd : decode cc pc = .ok (.ifCond .eq off, 3)) (ht : (pc : Int) + off = (tgt : Int)) (kt : x = 0 → Go X Q k n h tgt L st) (kf : ¬ x = 0 → Go X Q k n h (pc + 3) L st) : Go X Q k n h pc L (vI x :: st) := fun H locs ls hP hS hL hR => by
  have hx : Rg x := Rh hR
  have hr := Rt hR
  exact lv_if_eq C.1 C.2.1 hd ht (fun q => kt ((z_eq hx).mp q) H locs ls hP hS hL hr) (fun q => kf (fun z => q ((z_eq hx).mpr z)) H locs ls hP hS hL hr)
theorem r_icmp_ne {x y off : Int} {tgt : Nat} (C : Cx X cc nL own ret) (hd : decode cc pc = .ok (.if_icmp .ne off, 3)) (ht : (pc : Int) + off = (tgt : Int)) (kt : ¬ x = y → Go X Q k n h tgt L st) (kf : x = y → Go X Q k n h (pc + 3) L st) : Go X Q k n h pc L (vI y :: vI x :: st) := fun H locs ls hP hS hL hR => by
  have hy : Rg y := Rh hR
  have hx : Rg x := Rh (Rt hR)
  have hr := Rt (Rt hR)
  exact lv_icmp_ne C.1 C.2.1 hd ht (fun q => kt (fun z => q ((o_eq hx hy).mpr z)) H locs ls hP hS hL hr) (fun q => kf ((o_eq hx hy).mp q) H locs ls hP hS hL hr)
theorem r_if_ne {x off : Int} {tgt : Nat} (C : Cx X cc nL own ret) (hd : decode cc pc = .ok (.ifCond .ne off, 3)) (ht : (pc : Int) + off = (tgt : Int)) (kt : ¬ x = 0 → Go X Q k n h tgt L st) (kf : x = 0 → Go X Q k n h (pc + 3) L st) : Go X Q k n h pc L (vI x :: st) := fun H locs ls hP hS hL hR => by
  have hx : Rg x := Rh hR
  have hr := Rt hR
  exact lv_if_ne C.1 C.2.1 hd ht (fun q => kt (fun z => q ((z_eq hx).mpr z)) H locs ls hP hS hL hr) (fun q => kf ((z_eq hx).mp q) H locs ls hP hS hL hr)
theorem r_icmp_lt {x y off : Int} {tgt : Nat} (C : Cx X cc nL own ret) (hd : decode cc pc = .ok (.if_icmp .lt off, 3)) (ht : (pc : Int) + off = (tgt : Int)) (kt : x < y → Go X Q k n h tgt L st) (kf : y ≤ x → Go X Q k n h (pc + 3) L st) : Go X Q k n h pc L (vI y :: vI x :: st) := fun H locs ls hP hS hL hR => by
  have hy : Rg y := Rh hR
  have hx : Rg x := Rh (Rt hR)
  have hr := Rt (Rt hR)
  exact lv_icmp_lt C.1 C.2.1 hd ht (fun q => kt ((o_lt hx hy).mp q) H locs ls hP hS hL hr) (fun q => kf (Int.not_lt.mp (fun z => q ((o_lt hx hy).mpr z))) H locs ls hP hS hL hr)
theorem r_if_lt {x off : Int} {tgt : Nat} (C : Cx X cc nL own ret) (hd : decode cc pc = .ok (.ifCond .lt off, 3)) (ht : (pc : Int) + off = (tgt : Int)) (kt : x < 0 → Go X Q k n h tgt L st) (kf : 0 ≤ x → Go X Q k n h (pc + 3) L st) : Go X Q k n h pc L (vI x :: st) := fun H locs ls hP hS hL hR => by
  have hx : Rg x := Rh hR
  have hr := Rt hR
  exact lv_if_lt C.1 C.2.1 hd ht (fun q => kt ((z_lt hx).mp q) H locs ls hP hS hL hr) (fun q => kf (Int.not_lt.mp (fun z => q ((z_lt hx).mpr z))) H locs ls hP hS hL hr)
theorem r_icmp_ge {x y off : Int} {tgt : Nat} (C : Cx X cc nL own ret) (hd : decode cc pc = .ok (.if_icmp .ge off, 3)) (ht : (pc : Int) + off = (tgt : Int)) (kt : y ≤ x → Go X Q k n h tgt L st) (kf : x < y → Go X Q k n h (pc + 3) L st) : Go X Q k n h pc L (vI y :: vI x :: st) := fun H locs ls hP hS hL hR => by
  have hy : Rg y := Rh hR
  have hx : Rg x := Rh (Rt hR)
  have hr := Rt (Rt hR)
  exact lv_icmp_ge C.1 C.2.1 hd ht (fun q => kt ((o_le hy hx).mp q) H locs ls hP hS hL hr) (fun q => kf (Int.not_le.mp (fun z => q ((o_le hy hx).mpr z))) H locs ls hP hS hL hr)
theorem r_if_ge {x off : Int} {tgt : Nat} (C : Cx X cc nL own ret) (hd : decode cc pc = .ok (.ifCond .ge off, 3)) (ht : (pc : Int) + off = (tgt : Int)) (kt : 0 ≤ x → Go X Q k n h tgt L st) (kf : x < 0 → Go X Q k n h (pc + 3) L st) : Go X Q k n h pc L (vI x :: st) := fun H locs ls hP hS hL hR => by
  have hx : Rg x := Rh hR
  have hr := Rt hR
  exact lv_if_ge C.1 C.2.1 hd ht (fun q => kt ((z_ge hx).mp q) H locs ls hP hS hL hr) (fun q => kf (Int.not_le.mp (fun z => q ((z_ge hx).mpr z))) H locs ls hP hS hL hr)
theorem r_icmp_gt {x y off : Int} {tgt : Nat} (C : Cx X cc nL own ret) (hd : decode cc pc = .ok (.if_icmp .gt off, 3)) (ht : (pc : Int) + off = (tgt : Int)) (kt : y < x → Go X Q k n h tgt L st) (kf : x ≤ y → Go X Q k n h (pc + 3) L st) : Go X Q k n h pc L (vI y :: vI x :: st) := fun H locs ls hP hS hL hR => by
  have hy : Rg y := Rh hR
  have hx : Rg x := Rh (Rt hR)
  have hr := Rt (Rt hR)
  exact lv_icmp_gt C.1 C.2.1 hd ht (fun q => kt ((o_lt hy hx).mp q) H locs ls hP hS hL hr) (fun q => kf (Int.not_lt.mp (fun z => q ((o_lt hy hx).mpr z))) H locs ls hP hS hL hr)
theorem r_if_gt {x off : Int} {tgt : Nat} (C : Cx X cc nL own ret) (hd : decode cc pc = .ok (.ifCond .gt off, 3)) (ht : (pc : Int) + off = (tgt : Int)) (kt : 0 < x → Go X Q k n h tgt L st) (kf : x ≤ 0 → Go X Q k n h (pc + 3) L st) : Go X Q k n h pc L (vI x :: st) := fun H locs ls hP hS hL hR => by
  have hx : Rg x := Rh hR
  have hr := Rt hR
  exact lv_if_gt C.1 C.2.1 hd ht (fun q => kt ((z_gt hx).mp q) H locs ls hP hS hL hr) (fun q => kf (Int.not_lt.mp (fun z => q ((z_gt hx).mpr z))) H locs ls hP hS hL hr)
theorem r_icmp_le {x y off : Int} {tgt : Nat} (C : Cx X cc nL own ret) (hd : decode cc pc = .ok (.if_icmp .le off, 3)) (ht : (pc : Int) + off = (tgt : Int)) (kt : x ≤ y → Go X Q k n h tgt L st) (kf : y < x → Go X Q k n h (pc + 3) L st) : Go X Q k n h pc L (vI y :: vI x :: st) := fun H locs ls hP hS hL hR => by
  have hy : Rg y := Rh hR
  have hx : Rg x := Rh (Rt hR)
  have hr := Rt (Rt hR)
  exact lv_icmp_le C.1 C.2.1 hd ht (fun q => kt ((o_le hx hy).mp q) H locs ls hP hS hL hr) (fun q => kf (Int.not_le.mp (fun z => q ((o_le hx hy).mpr z))) H locs ls hP hS hL hr)
theorem r_if_le {x off : Int} {tgt : Nat} (C : Cx X cc nL own ret) (hd : decode cc pc = .ok (.ifCond .le off, 3)) (ht : (pc : Int) + off = (tgt : Int)) (kt : x ≤ 0 → Go X Q k n h tgt L st) (kf : 0 < x → Go X Q k n h (pc + 3) L st) : Go X Q k n h pc L (vI x :: st) := fun H locs ls hP hS hL hR => by
  have hx : Rg x := Rh hR
  have hr := Rt hR
  exact lv_if_le C.1 C.2.1 hd ht (fun q => kt ((z_le hx).mp q) H locs ls hP hS hL hr) (fun q => kf (Int.not_le.mp (fun z => q ((z_le hx).mpr z))) H locs ls hP hS hL hr)
-- BITS, DIVISION: the answer as the machine has it, a number again
def bAnd (x y : Int) : Int := (Int32.ofInt x &&& Int32.ofInt y).toInt
def bOr (x y : Int) : Int := (Int32.ofInt x ||| Int32.ofInt y).toInt
def bXor (x y : Int) : Int := (Int32.ofInt x ^^^ Int32.ofInt y).toInt
def bShl (x y : Int) : Int := (Int32.ofInt x <<< (Int32.ofInt y &&& 31)).toInt
def bShr (x y : Int) : Int := (Int32.ofInt x >>> (Int32.ofInt y &&& 31)).toInt
def bUshr (x y : Int) : Int := ((Int32.ofInt x).toUInt32 >>> ((Int32.ofInt y).toUInt32 &&& Int32.toUInt32 31)).toInt32.toInt
def bDiv (x y : Int) : Int := (Int32.ofInt x / Int32.ofInt y).toInt
def bRem (x y : Int) : Int := (Int32.ofInt x - Int32.ofInt x / Int32.ofInt y * Int32.ofInt y).toInt
theorem b_rg (a : Int32) : Rg a.toInt := ⟨by have := a.le_toInt; omega, by have := a.toInt_lt; omega⟩
theorem r_iand {x y : Int} (C : Cx X cc nL own ret) (hd : decode cc pc = .ok (.iand, 1)) (kk : Go X Q k n h (pc + 1) L (vI (bAnd x y) :: st)) : Go X Q k n h pc L (vI y :: vI x :: st) := fun H locs ls hP hS hL hR =>
  lv_iand C.1 C.2.1 hd (by
    have q := kk H locs ls hP hS hL (Rc (v := vI (bAnd x y)) (b_rg _) (Rt (Rt hR)))
    simp only [List.map_cons, cv, bAnd, Int32.ofInt_toInt] at q
    exact q)
theorem r_ior {x y : Int} (C : Cx X cc nL own ret) (hd : decode cc pc = .ok (.ior, 1)) (kk : Go X Q k n h (pc + 1) L (vI (bOr x y) :: st)) : Go X Q k n h pc L (vI y :: vI x :: st) := fun H locs ls hP hS hL hR =>
  lv_ior C.1 C.2.1 hd (by
    have q := kk H locs ls hP hS hL (Rc (v := vI (bOr x y)) (b_rg _) (Rt (Rt hR)))
    simp only [List.map_cons, cv, bOr, Int32.ofInt_toInt] at q
    exact q)
theorem r_ixor {x y : Int} (C : Cx X cc nL own ret) (hd : decode cc pc = .ok (.ixor, 1)) (kk : Go X Q k n h (pc + 1) L (vI (bXor x y) :: st)) : Go X Q k n h pc L (vI y :: vI x :: st) := fun H locs ls hP hS hL hR =>
  lv_ixor C.1 C.2.1 hd (by
    have q := kk H locs ls hP hS hL (Rc (v := vI (bXor x y)) (b_rg _) (Rt (Rt hR)))
    simp only [List.map_cons, cv, bXor, Int32.ofInt_toInt] at q
    exact q)
theorem r_ishl {x y : Int} (C : Cx X cc nL own ret) (hd : decode cc pc = .ok (.ishl, 1)) (kk : Go X Q k n h (pc + 1) L (vI (bShl x y) :: st)) : Go X Q k n h pc L (vI y :: vI x :: st) := fun H locs ls hP hS hL hR =>
  lv_ishl C.1 C.2.1 hd (by
    have q := kk H locs ls hP hS hL (Rc (v := vI (bShl x y)) (b_rg _) (Rt (Rt hR)))
    simp only [List.map_cons, cv, bShl, Int32.ofInt_toInt] at q
    exact q)
theorem r_ishr {x y : Int} (C : Cx X cc nL own ret) (hd : decode cc pc = .ok (.ishr, 1)) (kk : Go X Q k n h (pc + 1) L (vI (bShr x y) :: st)) : Go X Q k n h pc L (vI y :: vI x :: st) := fun H locs ls hP hS hL hR =>
  lv_ishr C.1 C.2.1 hd (by
    have q := kk H locs ls hP hS hL (Rc (v := vI (bShr x y)) (b_rg _) (Rt (Rt hR)))
    simp only [List.map_cons, cv, bShr, Int32.ofInt_toInt] at q
    exact q)
theorem r_iushr {x y : Int} (C : Cx X cc nL own ret) (hd : decode cc pc = .ok (.iushr, 1)) (kk : Go X Q k n h (pc + 1) L (vI (bUshr x y) :: st)) : Go X Q k n h pc L (vI y :: vI x :: st) := fun H locs ls hP hS hL hR =>
  lv_iushr C.1 C.2.1 hd rfl (by
    have q := kk H locs ls hP hS hL (Rc (v := vI (bUshr x y)) (b_rg _) (Rt (Rt hR)))
    simp only [List.map_cons, cv, bUshr, Int32.ofInt_toInt] at q
    exact q)
theorem r_idiv {x y : Int} (C : Cx X cc nL own ret) (hd : decode cc pc = .ok (.idiv, 1)) (hy : ¬ y = 0) (kk : Go X Q k n h (pc + 1) L (vI (bDiv x y) :: st)) : Go X Q k n h pc L (vI y :: vI x :: st) := fun H locs ls hP hS hL hR =>
  lv_idiv C.1 C.2.1 hd (fun q => hy ((z_eq (Rh hR)).mp q)) (by
    have q := kk H locs ls hP hS hL (Rc (v := vI (bDiv x y)) (b_rg _) (Rt (Rt hR)))
    simp only [List.map_cons, cv, bDiv, Int32.ofInt_toInt] at q
    exact q)
theorem r_irem {x y : Int} (C : Cx X cc nL own ret) (hd : decode cc pc = .ok (.irem, 1)) (hy : ¬ y = 0) (kk : Go X Q k n h (pc + 1) L (vI (bRem x y) :: st)) : Go X Q k n h pc L (vI y :: vI x :: st) := fun H locs ls hP hS hL hR =>
  lv_irem C.1 C.2.1 hd (fun q => hy ((z_eq (Rh hR)).mp q)) (by
    have q := kk H locs ls hP hS hL (Rc (v := vI (bRem x y)) (b_rg _) (Rt (Rt hR)))
    simp only [List.map_cons, cv, bRem, Int32.ofInt_toInt] at q
    exact q)
theorem r_i2c {x : Int} (C : Cx X cc nL own ret) (hd : decode cc pc = .ok (.i2c, 1)) (hx : 0 ≤ x ∧ x ≤ 65535) (kk : Go X Q k n h (pc + 1) L (vI x :: st)) : Go X Q k n h pc L (vI x :: st) := fun H locs ls hP hS hL hR =>
  lv_i2c C.1 C.2.1 hd (by
    obtain ⟨j, rfl⟩ := Int.eq_ofNat_of_zero_le hx.1
    rw [Int32.ofInt_eq_ofNat, pk_char, show (Int32.ofNat j).toBitVec.toNat = j from pk_tn (by omega), Nat.mod_eq_of_lt (by omega)]
    rfl) (kk H locs ls hP hS hL hR)
theorem r_tableIn {x dflt lo hi : Int} {offs : Array Int} {len tgt : Nat} {off : Int} (C : Cx X cc nL own ret) (hd : decode cc pc = .ok (.tableswitch dflt lo hi offs, len)) (h1 : lo ≤ x) (h2 : x ≤ hi) (ho : offs[(x - lo).toNat]? = some off) (ht : (pc : Int) + off = (tgt : Int)) (kk : Go X Q k n h tgt L st) : Go X Q k n h pc L (vI x :: st) := fun H locs ls hP hS hL hR =>
  lv_tableIn C.1 C.2.1 hd (by rw [o_toInt (Rh hR)]; omega) (by rw [o_toInt (Rh hR)]; omega) (by rw [o_toInt (Rh hR)]; exact ho) ht (kk H locs ls hP hS hL (Rt hR))
theorem r_tableOut {x dflt lo hi : Int} {offs : Array Int} {len tgt : Nat} (C : Cx X cc nL own ret) (hd : decode cc pc = .ok (.tableswitch dflt lo hi offs, len)) (h1 : x < lo ∨ hi < x) (ht : (pc : Int) + dflt = (tgt : Int)) (kk : Go X Q k n h tgt L st) : Go X Q k n h pc L (vI x :: st) := fun H locs ls hP hS hL hR =>
  lv_tableOut C.1 C.2.1 hd (by rw [o_toInt (Rh hR)]; exact h1) ht (kk H locs ls hP hS hL (Rt hR))
theorem r_lookup {x dflt : Int} {ps : Array (Int × Int)} {len tgt : Nat} {off : Int} (C : Cx X cc nL own ret) (hd : decode cc pc = .ok (.lookupswitch dflt ps, len)) (hp : (ps.toList.zip (ps.toList.drop 1)).all (fun (a, next) => a.1 < next.1) = true) (ho : Op.lookupswitch.offset ps.toList dflt x = off) (ht : (pc : Int) + off = (tgt : Int)) (kk : Go X Q k n h tgt L st) : Go X Q k n h pc L (vI x :: st) := fun H locs ls hP hS hL hR =>
  lv_lookup C.1 C.2.1 hd hp (by rw [o_toInt (Rh hR)]; exact ho) ht (kk H locs ls hP hS hL (Rt hR))
end GoRules
