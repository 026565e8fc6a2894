/-! the layer, second part: fields, arrays, new cells, returns, calls -/
section GoHeap
variable {X : Ctx} {Q : State → Prop} {k n : Nat} {h : Pic} {pc : Nat} {L : List (Option Va)} {st : List Va} {cc : ByteArray} {nL : Nat} {own : String} {ret : Option FieldType}
theorem Cx.K (C : Cx X cc nL own ret) : KK X.2.2.2.1 X.2.1.1 := C.2.2.2.2.2.2.2.1
theorem Cx.hts (C : Cx X cc nL own ret) : ∀ w ∈ mw, w.before X.2.1.2.2.1 X.2.1.1 = true := C.2.2.2.2.1
theorem r_get {i ci kf a t : Nat} {fin : Bool} {tf : FieldType} {fs : List Va} {v : Va} (C : Cx X cc nL own ret) (hd : decode cc pc = .ok (.getfield i, 3)) (hf : FL own i ci kf fin tf) (ha : h a = some (t, .inl (ci, fs))) (hv : fs[kf]? = some v) (kk : Go X Q k n h (pc + 3) L (v :: st)) : Go X Q k n h pc L (vR a :: st) := by
  intro H locs ls hP hS hL hR
  obtain ⟨C', T, N, ty, hc, hk, hl, hC, hfin, htf, hin, hty, hnm⟩ := hf
  obtain ⟨-, hrv, r, hr, hlen, hob⟩ := hP _ _ _ ha
  have hP' : va_P X.2.2.2.1 classes [(a, .inr (ci, fs.map cv))] H := by
    intro j q hj
    cases j with
    | zero => cases hj; exact ⟨r, hr, hob⟩
    | succ j => simp at hj
  exact va_get (ci := ci) (C := C') (T := T) (N := N) (v := cv v) C.1 C.2.1 C.hts hin C.2.2.2.1 C.K.K hP' 0 rfl hc kf hk (C.hts _ hl) (fun x hx => by rw [hC] at hx; exact hx) (by rw [List.getElem?_map, hv]; rfl) hd (kk H locs ls hP hS hL (Rc (hrv v (List.mem_of_getElem? hv)) (Rt hR)))
theorem pic_put {D : va_G} {base : Nat} {U : State} {H H1 : Heap} {a t ci kf : Nat} {fs : List Va} {v : Va} {r : vw_C} {cell : Cell} (hP : PicOk D base h U H) (ha : h a = some (t, .inl (ci, fs))) (hc : classes[ci]? = some r) (hk : kf < r.2.2) (hap : ∀ x y, x < r.2.2 → y < r.2.2 → x ≠ y → (D.2 ci) x ≠ (D.2 ci) y) (hcell : H[a]? = some cell) (hv : Rv v) (e1 : H1[a]? = some (cell.setSlot (D.2 ci kf) (cv v))) (e3 : ∀ q : Nat, q ≠ a → H1[q]? = H[q]?) : PicOk D base (pu h a (t, .inl (ci, fs.set kf v))) U H1 := by
  obtain ⟨-, hrv, r', hr, hlen, cell', q1, q2, q3, q4⟩ := hP _ _ _ ha
  cases hr.symm.trans hc
  cases q1.symm.trans hcell
  refine hP.set ha ⟨fun w hw => ?_, r, hc, by rw [List.length_set]; exact hlen, ?_⟩ e3
  · rcases List.mem_or_eq_of_mem_set hw with hw | rfl
    · exact hrv w hw
    · exact hv
  · rw [List.map_set]
    exact t_OB.to (V := updV (vp_V (fs.map cv)) kf (cv v)) ⟨_, e1, q2, q3, t_set q4 hap hk (cv v)⟩ (fun j _ => vp_updV_set (by rw [List.length_map, hlen]; exact hk) (cv v) j)
theorem r_put {i ci kf a t : Nat} {tf : FieldType} {fs : List Va} {v : Va} (C : Cx X cc nL own ret) (hd : decode cc pc = .ok (.putfield i, 3)) (hf : FL own i ci kf false tf) (ha : h a = some (t, .inl (ci, fs))) (hn : narrow tf (cv v) = cv v) (hfit : fits tf (cv v) = true) (kk : Go X Q k n (pu h a (t, .inl (ci, fs.set kf v))) (pc + 3) L st) : Go X Q k n h pc L (v :: vR a :: st) := by
  intro H locs ls hP hS hL hR
  obtain ⟨C', T, N, ty, hc, hk, hl, hC, hfin, htf, hin, hty, hnm⟩ := hf
  obtain ⟨hbase, hrv, r, hr, hlen, hob⟩ := hP _ _ _ ha
  cases hr.symm.trans hc
  have hap := va_apart (own := own) C.hts hin ty hty hnm C.K.K hc
  obtain ⟨cell, q1, q2, q3, q4⟩ := id hob
  obtain ⟨hSl, hfc, kC, hkC, hkind⟩ := C.K.1 ci _ hc
  obtain ⟨cf, kf', fi, f, hi, hsl⟩ := hSl kf hk
  have hlay := C.hts _ (hin _ (u_in_lay hk))
  unfold u_lay at hlay
  rw [if_neg (by rw [hfin]; decide)] at hlay
  have hst := (u_facts hfc hkC (u_lays C.hts hin hk) hi).1
  have h6 := u_store (ty := tf) hfc hkC hkind hlay hi (by rw [← htf]; exact hty kf hk) hn hfit
  refine W.putK C.1 C.2.1 (f := f) ⟨C.2.2.2.1, C.hts _ hl, ⟨cf, kf', fi, by rw [hC] at hi; exact hi⟩, hst⟩ (by rw [q2]; exact h6) q1 q3 (by rw [hsl]; exact k2_hasslot (q4 kf hk)) rfl rfl hd fun H' e1 e2 e3 => ?_
  rw [hsl] at e1 ⊢
  exact kk H' _ ls (pic_put hP ha hc hk hap q1 (Rh hR) e1 e3) (hS.put e2 e3 hbase) hL (Rt (Rt hR))
theorem r_putF {i ci kf a t : Nat} {tf : FieldType} {fs : List Va} {v : Va} (C : Cx X cc nL own ret) (hin2 : X.2.2.1.1.name = "<init>") (hd : decode cc pc = .ok (.putfield i, 3)) (hf : FL own i ci kf true tf) (how : classes[ci]?.map (fun r => r.1) = some own) (ha : h a = some (t, .inl (ci, fs))) (hn : narrow tf (cv v) = cv v) (hfit : fits tf (cv v) = true) (kk : Go X Q k n (pu h a (t, .inl (ci, fs.set kf v))) (pc + 3) L st) : Go X Q k n h pc L (v :: vR a :: st) := by
  intro H locs ls hP hS hL hR
  obtain ⟨C', T, N, ty, hc, hk, hl, hC, hfin, htf, hin, hty, hnm⟩ := hf
  have hdecl : (T kf).1 = own := by
    rw [hc] at how
    rw [hC]
    exact Option.some.inj how
  obtain ⟨hbase, hrv, r, hr, hlen, hob⟩ := hP _ _ _ ha
  cases hr.symm.trans hc
  have hap := va_apart (own := own) C.hts hin ty hty hnm C.K.K hc
  obtain ⟨cell, q1, q2, q3, q4⟩ := id hob
  obtain ⟨hSl, hfc, kC, hkC, hkind⟩ := C.K.1 ci _ hc
  obtain ⟨cf, kf', fi, f, hi, hsl⟩ := hSl kf hk
  have hlay := C.hts _ (hin _ (u_in_lay hk))
  unfold u_lay at hlay
  rw [if_pos hfin] at hlay
  have hst := (u_facts hfc hkC (u_lays C.hts hin hk) hi).1
  have hcf : X.2.1.2.1.cls = cf := by
    obtain ⟨_, _, c', _, _, _, -, -, hf', -, -, -, hown2, -⟩ := Cond.laysFinal_spec hlay
    have e1 : c' = cf := by have := hi.symm.trans hf'; simp at this; exact this.1.symm
    rw [hdecl] at hown2
    rw [← e1]; exact Option.some.inj (C.2.2.2.1.symm.trans hown2)
  have h6 := u_fits (ty := tf) hfc hkC hkind (Or.inr hlay) hi (by rw [← htf]; exact hty kf hk) hn hfit
  refine W.putFinK C.1 C.2.1 C.2.2.2.1 (C.hts _ hl) (by rw [hC] at hi; exact hi) hst hcf hin2 (by rw [q2]; exact h6) q1 q3 (by rw [hsl]; exact k2_hasslot (q4 kf hk)) rfl rfl hd fun H' e1 e2 e3 => ?_
  rw [hsl] at e1 ⊢
  exact kk H' _ ls (pic_put hP ha hc hk hap q1 (Rh hR) e1 e3) (hS.put e2 e3 hbase) hL (Rt (Rt hR))
-- arrays
theorem r_iald {a t : Nat} {m i : Int} {f : Int → Int} (C : Cx X cc nL own ret) (hd : decode cc pc = .ok (.iaload, 1)) (ha : h a = some (ia t 0 m f)) (h0 : 0 ≤ i) (h1 : i < m) (kk : Go X Q k n h (pc + 1) L (vI (f i) :: st)) : Go X Q k n h pc L (vI i :: vR a :: st) := by
  intro H locs ls hP hS hL hR
  obtain ⟨-, hm, hf, cA, hA, hc⟩ := hP _ _ _ ha
  have hi : Rg i := Rh hR
  refine W.iald (v := .int (Int32.ofInt (f i))) C.1 C.2.1 hc (hA m.toNat (fun j => .int (Int32.ofInt (f j)))) (fun q => by cases q) (by rw [arrV_size]; exact o_ns h0 h1 hi) (by rw [o_clamp hi, arrV_read _ _ (by omega), Int.toNat_of_nonneg h0]) rfl rfl hd (kk H locs ls hP hS hL (Rc (v := vI (f i)) (hf i) (Rt (Rt hR))))
theorem r_cald {a t : Nat} {m i : Int} {f : Int → Int} (C : Cx X cc nL own ret) (hd : decode cc pc = .ok (.caload, 1)) (ha : h a = some (ia t 1 m f)) (h0 : 0 ≤ i) (h1 : i < m) (kk : Go X Q k n h (pc + 1) L (vI (f i) :: st)) : Go X Q k n h pc L (vI i :: vR a :: st) := by
  intro H locs ls hP hS hL hR
  obtain ⟨-, hm, hf, cA, hA, hc⟩ := hP _ _ _ ha
  have hi : Rg i := Rh hR
  refine W.cald (v := .int (Int32.ofInt (f i))) C.1 C.2.1 hc (hA m.toNat (fun j => .int (Int32.ofInt (f j)))) (fun q => by cases q) (by rw [arrV_size]; exact o_ns h0 h1 hi) (by rw [o_clamp hi, arrV_read _ _ (by omega), Int.toNat_of_nonneg h0]) rfl rfl hd (kk H locs ls hP hS hL (Rc (v := vI (f i)) (hf i) (Rt (Rt hR))))
theorem r_zald {a t : Nat} {m i : Int} {f : Int → Int} (C : Cx X cc nL own ret) (hd : decode cc pc = .ok (.baload, 1)) (ha : h a = some (ia t 2 m f)) (h0 : 0 ≤ i) (h1 : i < m) (kk : Go X Q k n h (pc + 1) L (vI (f i) :: st)) : Go X Q k n h pc L (vI i :: vR a :: st) := by
  intro H locs ls hP hS hL hR
  obtain ⟨-, hm, hf, cA, hA, hc⟩ := hP _ _ _ ha
  have hi : Rg i := Rh hR
  refine W.zald (v := .int (Int32.ofInt (f i))) C.1 C.2.1 hc (hA m.toNat (fun j => .int (Int32.ofInt (f j)))) (fun q => by cases q) (by rw [arrV_size]; exact o_ns h0 h1 hi) (by rw [o_clamp hi, arrV_read _ _ (by omega), Int.toNat_of_nonneg h0]) rfl rfl hd (kk H locs ls hP hS hL (Rc (v := vI (f i)) (hf i) (Rt (Rt hR))))
theorem r_aald {a t b kr : Nat} {m i : Int} {f : Int → Option Nat} (C : Cx X cc nL own ret) (hd : decode cc pc = .ok (.aaload, 1)) (ha : h a = some (ra t kr m f)) (h0 : 0 ≤ i) (h1 : i < m) (hb : f i = some b) (kk : Go X Q k n h (pc + 1) L (vR b :: st)) : Go X Q k n h pc L (vI i :: vR a :: st) := by
  intro H locs ls hP hS hL hR
  obtain ⟨-, hm, cA, hA, hRA, hc⟩ := hP _ _ _ ha
  have hi : Rg i := Rh hR
  refine W.aald (v := .ref b) (ty := .object (tyR kr).2) C.1 C.2.1 hc (hA m.toNat (fun j => va_rf (f j))) rfl (fun q => by cases q) (by rw [arrV_size]; exact o_ns h0 h1 hi) (by rw [o_clamp hi, arrV_read _ _ (by omega), Int.toNat_of_nonneg h0, hb]; rfl) rfl rfl hd (kk H locs ls hP hS hL (Rc (v := vR b) trivial (Rt (Rt hR))))
theorem arr_fu {D : va_G} {U : State} {H1 : Heap} {a kA : Nat} {m i v : Int} {f : Int → Int} {cA : ClassId} (hm : 0 ≤ m ∧ m ≤ 2147483647) (hf : ∀ j, Rg (f j)) (hA : ArrOfT U cA (tyI kA)) (h0 : 0 ≤ i) (hv : Rg v) (e : H1[a]? = some ((arrV cA m.toNat (fun j => .int (Int32.ofInt (f j)))).setSlot i.toNat (.int (Int32.ofInt v)))) : OkAt D U H1 a (.inr (.inl (kA, m, fu f i v))) := by
  refine ⟨hm, fun j => ?_, cA, hA, ?_⟩
  · unfold fu
    split
    · exact hv
    · exact hf j
  · rw [e, arrV_store]
    congr 2
    funext q
    by_cases hq : q = i.toNat
    · have h2 : (q : Int) = i := by omega
      show (if q = i.toNat then _ else _) = Value.int (Int32.ofInt (if (q : Int) = i then v else f q))
      rw [if_pos hq, if_pos h2]
    · have h2 : ¬ (q : Int) = i := by omega
      show (if q = i.toNat then _ else _) = Value.int (Int32.ofInt (if (q : Int) = i then v else f q))
      rw [if_neg hq, if_neg h2]
theorem r_iast {a t : Nat} {m i v : Int} {f : Int → Int} (C : Cx X cc nL own ret) (hd : decode cc pc = .ok (.iastore, 1)) (ha : h a = some (ia t 0 m f)) (h0 : 0 ≤ i) (h1 : i < m) (kk : Go X Q k n (pu h a (ia t 0 m (fu f i v))) (pc + 1) L st) : Go X Q k n h pc L (vI v :: vI i :: vR a :: st) := by
  intro H locs ls hP hS hL hR
  obtain ⟨hbase, hm, hf, cA, hA, hc⟩ := hP _ _ _ ha
  have hv : Rg v := Rh hR
  have hi : Rg i := Rh (Rt hR)
  refine W.iast C.1 C.2.1 hc (hA m.toNat (fun j => .int (Int32.ofInt (f j)))) (fun q => by cases q) (by rw [arrV_size]; exact o_ns h0 h1 hi) rfl rfl hd fun H1 e z oq => ?_
  rw [o_clamp hi] at e ⊢
  exact kk H1 _ ls (hP.set ha (arr_fu hm hf hA h0 hv e) oq) (hS.put z oq hbase) hL (Rt (Rt (Rt hR)))
theorem r_cast {a t : Nat} {m i v : Int} {f : Int → Int} (C : Cx X cc nL own ret) (hd : decode cc pc = .ok (.castore, 1)) (ha : h a = some (ia t 1 m f)) (h0 : 0 ≤ i) (h1 : i < m) (h2 : 0 ≤ v ∧ v ≤ 65535) (kk : Go X Q k n (pu h a (ia t 1 m (fu f i v))) (pc + 1) L st) : Go X Q k n h pc L (vI v :: vI i :: vR a :: st) := by
  intro H locs ls hP hS hL hR
  obtain ⟨hbase, hm, hf, cA, hA, hc⟩ := hP _ _ _ ha
  have hv : Rg v := Rh hR
  have hi : Rg i := Rh (Rt hR)
  refine W.cast C.1 C.2.1 hc (hA m.toNat (fun j => .int (Int32.ofInt (f j)))) (fun q => by cases q) (by rw [arrV_size]; exact o_ns h0 h1 hi) rfl rfl hd fun H1 e z oq => ?_
  rw [o_clamp hi] at e ⊢
  rw [o_nc h2] at e
  exact kk H1 _ ls (hP.set ha (arr_fu hm hf hA h0 hv e) oq) (hS.put z oq hbase) hL (Rt (Rt (Rt hR)))
theorem r_zast {a t : Nat} {m i v : Int} {f : Int → Int} (C : Cx X cc nL own ret) (hd : decode cc pc = .ok (.bastore, 1)) (ha : h a = some (ia t 2 m f)) (h0 : 0 ≤ i) (h1 : i < m) (h2 : v = 0 ∨ v = 1) (kk : Go X Q k n (pu h a (ia t 2 m (fu f i v))) (pc + 1) L st) : Go X Q k n h pc L (vI v :: vI i :: vR a :: st) := by
  intro H locs ls hP hS hL hR
  obtain ⟨hbase, hm, hf, cA, hA, hc⟩ := hP _ _ _ ha
  have hv : Rg v := Rh hR
  have hi : Rg i := Rh (Rt hR)
  refine W.zast C.1 C.2.1 hc (hA m.toNat (fun j => .int (Int32.ofInt (f j)))) (fun q => by cases q) (by rw [arrV_size]; exact o_ns h0 h1 hi) rfl rfl hd fun H1 e z oq => ?_
  rw [o_clamp hi] at e ⊢
  rw [o_nb h2] at e
  exact kk H1 _ ls (hP.set ha (arr_fu hm hf hA h0 hv e) oq) (hS.put z oq hbase) hL (Rt (Rt (Rt hR)))
theorem r_aast {a t b tb kr : Nat} {m i : Int} {f : Int → Option Nat} {vs : List Va} (C : Cx X cc nL own ret) (hd : decode cc pc = .ok (.aastore, 1)) (ha : h a = some (ra t kr m f)) (hb : h b = some (tb, .inl ((tyR kr).1, vs))) (h0 : 0 ≤ i) (h1 : i < m) (kk : Go X Q k n (pu h a (ra t kr m (fu f i (some b)))) (pc + 1) L st) : Go X Q k n h pc L (vR b :: vI i :: vR a :: st) := by
  intro H locs ls hP hS hL hR
  obtain ⟨hbase, hm, cA, hA, hRA, hc⟩ := hP _ _ _ ha
  obtain ⟨-, -, r, hr, -, cellV, g1, g2, g3, -⟩ := hP _ _ _ hb
  have hi : Rg i := Rh (Rt hR)
  have hname : r.1 = (tyR kr).2 := by
    match kr with
    | 0 => cases hr; rfl
    | _ + 1 => cases hr; rfl
  have hcls := (C.K.1 _ r hr).2
  rw [hname] at hcls
  obtain ⟨kA, comp, k1, k2, k3, -⟩ := id hRA
  have hcomp : comp = X.2.2.2.1.1 (tyR kr).1 := Option.some.inj (k3.symm.trans hcls.1)
  subst hcomp
  obtain ⟨kC, hkC, -⟩ := hcls.2
  refine W.aast C.1 C.2.1 hc (fun q h => by cases h) (fun h => by cases h) k1 k2 rfl hkC ⟨fun q => by rw [z_lt hi] at q; omega, by show _ < (arrV _ _ _).slots.size; rw [arrV_size, o_clamp hi]; omega⟩ g1 (fun q h => by rw [g3] at h; cases h) (by rw [g2]; exact hkC) (by rw [g2]; exact va_assign hcls) rfl rfl hd fun H1 e z oq => ?_
  rw [o_clamp hi] at e ⊢
  refine kk H1 _ ls (hP.set ha ⟨hm, cA, hA, hRA, ?_⟩ oq) (hS.put z oq hbase) hL (Rt (Rt (Rt hR)))
  rw [e, arrV_store]
  congr 2
  funext q
  by_cases hq : q = i.toNat
  · have h2 : (q : Int) = i := by omega
    show (if q = i.toNat then _ else _) = va_rf (if (q : Int) = i then some b else f q)
    rw [if_pos hq, if_pos h2]
    rfl
  · have h2 : ¬ (q : Int) = i := by omega
    show (if q = i.toNat then _ else _) = va_rf (if (q : Int) = i then some b else f q)
    rw [if_neg hq, if_neg h2]
theorem r_alen {a t kA : Nat} {m : Int} {f : Int → Int} (C : Cx X cc nL own ret) (hd : decode cc pc = .ok (.arraylength, 1)) (ha : h a = some (ia t kA m f)) (kk : Go X Q k n h (pc + 1) L (vI m :: st)) : Go X Q k n h pc L (vR a :: st) := by
  intro H locs ls hP hS hL hR
  obtain ⟨-, hm, hf, cA, hA, hc⟩ := hP _ _ _ ha
  refine W.alen (n := Int32.ofInt m) C.1 C.2.1 hc (hA m.toNat (fun j => .int (Int32.ofInt (f j)))) ?_ rfl rfl hd (kk H locs ls hP hS hL (Rc (v := vI m) (by show Rg m; omega) (Rt hR)))
  rw [arrV_size]
  show Int32.ofNat m.toNat = _
  rw [← Int32.ofInt_eq_ofNat, Int.toNat_of_nonneg hm.1]
-- new cells
theorem r_newa {at' : ArrayType} {kA : Nat} {m : Int} (C : Cx X cc nL own ret) (tag : Nat) (hd : decode cc pc = .ok (.newarray at', 2)) (hty : newarray.typeOf at' = tyI kA) (hac : Cond.arrayClass (tyI kA) ∈ mw) (hdv : defaultValue (tyI kA) = .int 0) (h0 : 0 ≤ m) (hb : m ≤ 100000) (hc : k + 1 ≤ X.1.2.2.2.cells) (hs : n + m.toNat ≤ X.1.2.2.2.slots) (kk : ∀ q : Nat, h q = none → Go X Q (k + 1) (n + m.toNat) (pu h q (ia tag kA m (fun _ => 0))) (pc + 2) L (vR q :: st)) : Go X Q k n h pc L (vI m :: st) := by
  intro H locs ls hP hS hL hR
  have hm : Rg m := Rh hR
  refine va_newaK (N := m.toNat) (h := H.size) C.1 C.2.1 (by rw [hty]; exact C.hts _ hac) rfl hd rfl (fun q => by rw [z_lt hm] at q; omega) (o_clamp hm) ?_ hc hs rfl fun H1 cA e1 z1 o1 hAr hNm => ?_
  · rw [hty]
    have h8 : componentBytes (tyI kA) ≤ 8 := by
      match kA with
      | 0 => decide
      | 1 => decide
      | _ + 2 => show componentBytes .boolean ≤ 8; decide
    have : m.toNat * componentBytes (tyI kA) ≤ m.toNat * 8 := Nat.mul_le_mul_left _ h8
    omega
  · rw [hty] at e1 hAr
    refine kk H.size hP.fresh H1 locs ls (hP.push (Nat.le_trans C.2.2.2.2.2.2.2.2 hS.1) ⟨by omega, fun _ => (by show Rg 0; omega), cA, hAr, ?_⟩ o1) ⟨Nat.le_trans hS.1 (by omega), fun x q1 q2 => (o1 x (Nat.lt_of_lt_of_le q1 hS.1)).trans (hS.2.1 x q1 q2), hS.2.2⟩ hL (Rc (v := vR H.size) trivial (Rt hR))
    rw [e1, hdv]
    rfl
theorem r_newq {i kr : Nat} {m : Int} (C : Cx X cc nL own ret) (tag : Nat) (hd : decode cc pc = .ok (.anewarray i, 3)) (hcl : Cond.classLink own i (tyR kr).2 ∈ mw) (h0 : 0 ≤ m) (hb : m ≤ 100000) (hc : k + 1 ≤ X.1.2.2.2.cells) (hs : n + m.toNat ≤ X.1.2.2.2.slots) (kk : ∀ q : Nat, h q = none → Go X Q (k + 1) (n + m.toNat) (pu h q (ra tag kr m (fun _ => none))) (pc + 3) L (vR q :: st)) : Go X Q k n h pc L (vI m :: st) := by
  intro H locs ls hP hS hL hR
  have hm : Rg m := Rh hR
  have hover : va_AO (tyR kr).2 X.2.1.1 := by
    match kr with
    | 0 => exact C.K.2.1
    | _ + 1 => exact C.K.2.2.1
  refine W.anew C.1 C.2.1 C.2.2.2.1 (C.hts _ hcl) (va_AO.use hover) rfl hd rfl (fun q => by rw [z_lt hm] at q; omega) (by rw [o_clamp hm]; omega) hc (by rw [o_clamp hm]; exact hs) fun cA kA comp f1 f2 f3 f4 => ?_
  rw [o_clamp hm]
  generalize hH1 : H.push ({ cls := cA, slots := Array.replicate m.toNat .null, vm := .none } : Cell) = H1
  have z1 : H1.size = H.size + 1 := by rw [← hH1, Array.size_push]
  have e1 : H1[H.size]? = some (arrV cA m.toNat (fun _ => .null)) := by rw [← hH1, Array.getElem?_push_size, ← arrV_new]
  have o1 : ∀ q : Nat, q < H.size → H1[q]? = H[q]? := fun q hq => by rw [← hH1, Array.getElem?_push, if_neg (Nat.ne_of_lt hq)]
  have hAr : ArrOfT X.2.1.1 cA (.object (tyR kr).2) := fun N z => ⟨(fun k h => by cases h), kA, f2, comp, f3⟩
  exact kk H.size hP.fresh H1 locs ls (hP.push (Nat.le_trans C.2.2.2.2.2.2.2.2 hS.1) ⟨by omega, cA, hAr, ⟨kA, comp, f2, f3, f4, f1⟩, e1⟩ o1) ⟨Nat.le_trans hS.1 (by omega), fun x q1 q2 => (o1 x (Nat.lt_of_lt_of_le q1 hS.1)).trans (hS.2.1 x q1 q2), hS.2.2⟩ hL (Rc (v := vR H.size) trivial (Rt hR))
theorem r_new {i ci N : Nat} {Cn : String} {T : u_T} {fs : List Va} (C : Cx X cc nL own ret) (tag : Nat) (hd : decode cc pc = .ok (.new i, 3)) (hcl : Cond.classLink own i Cn ∈ mw) (hins : Cond.instantiable Cn N ∈ mw) (hini : Cond.initialized Cn ∈ mw) (hin : ∀ w ∈ u_ws Cn T N, w ∈ mw) (ty : Nat → FieldType) (hty : ∀ k, k < N → parseFieldDescriptor (T k).2.2.1 = some (ty k)) (hcc : classes[ci]? = some (Cn, T, N)) (hlen : fs.length = N) (hfs : ∀ j, j < N → defaultValue (ty j) = vp_V (fs.map cv) j) (hrv : ∀ v ∈ fs, Rv v) (hc : k + 1 ≤ X.1.2.2.2.cells) (hs : n + N ≤ X.1.2.2.2.slots) (kk : ∀ q : Nat, h q = none → Go X Q (k + 1) (n + N) (pu h q (tag, .inl (ci, fs))) (pc + 3) L (vR q :: st)) : Go X Q k n h pc L st := by
  intro H locs ls hP hS hL hR
  have hKn := C.K.1 ci _ hcc
  refine W.newcK C.1 C.2.1 C.2.2.2.1 (C.hts _ hcl) (C.hts _ hins) (C.hts _ hini) rfl hd hc hs hKn.2.1 rfl fun H1 kC hkC e1 z1 o1 => ?_
  exact kk H.size hP.fresh H1 locs ls (hP.push (Nat.le_trans C.2.2.2.2.2.2.2.2 hS.1) ⟨hrv, _, hcc, hlen, (u_born ty C.hts hin hKn hkC e1 hty).to hfs⟩ o1) ⟨Nat.le_trans hS.1 (by omega), fun x q1 q2 => (o1 x (Nat.lt_of_lt_of_le q1 hS.1)).trans (hS.2.1 x q1 q2), hS.2.2⟩ hL (Rc (v := vR H.size) trivial hR)
theorem cv_sum (st : List Va) : ((st.map cv).map fun v => v.category).sum = st.length := by
  induction st with
  | nil => rfl
  | cons v st ih => simp only [List.map_cons, List.sum_cons, List.length_cons, ih, cv_cat]; omega
theorem r_obj {i a : Nat} (C : Cx X cc nL own ret) (hd : decode cc pc = .ok (.invokespecial i, 3)) (hl : Cond.methodLink own i objectInit ∈ mw) (hf : 1 ≤ X.1.2.2.2.frames) (hlo : st.length + 12 ≤ X.1.2.2.2.locals) (kk : Go X Q k n h (pc + 3) L st) : Go X Q k n h pc L (vR a :: st) := by
  intro H locs ls hP hS hL hR
  refine W.objInit C.1 C.2.1 C.2.2.2.1 (C.hts _ hl) (C.hts _ oI_i) (C.hts _ oI_c) rfl hL.1 rfl hd hf ?_ (kk H locs ls hP hS hL (Rt hR))
  rw [cv_sum]
  show 2 * 0 + _ + _ ≤ _
  omega
-- returns
def Qp (D : va_G) (base : Nat) (P : Option Va → Pic → Prop) : Array Value → State → Outcome → State → Prop := fun _ s o t => ∃ (r : Option Va) (h' : Pic), o = .returned (r.map cv) ∧ P r h' ∧ (∀ v, r = some v → Rv v) ∧ PicOk D base h' t t.heap ∧ va_F (fun q => base ≤ q) s t
def Qm (X : Ctx) (P : Option Va → Pic → Prop) (mc ms : Nat) : State → Prop := MQ X.2.1.2.2.2 (Qp X.2.2.2.1 X.2.2.2.2 P) X.2.1.2.2.1 X.2.1.1 mc ms (fun q => X.2.2.2.2 ≤ q)
theorem r_iret {z : Int} {mc ms : Nat} {P : Option Va → Pic → Prop} (C : Cx X cc nL own (some .int)) (hd : decode cc pc = .ok (.ireturn, 1)) (hk : k ≤ mc) (hn : n ≤ ms) (hp : P (some (vI z)) h) : Go X (Qm X P mc ms) k n h pc L [vI z] := fun H locs ls hP hS hL hR =>
  W.widen hk hn (W.iret (v := Int32.ofInt z) C.1 C.2.1 C.2.2.2.2.2.2.1 (fun t ht hW => ⟨some (vI z), h, rfl, hp, fun v hv => (by cases hv; exact Rh hR), by rw [ht]; exact hP.moved hW.alike, hS.F ht⟩) hS.2.2 hd C.2.2.2.2.2.1)
theorem r_zret {z : Int} {mc ms : Nat} {P : Option Va → Pic → Prop} (C : Cx X cc nL own (some .boolean)) (hd : decode cc pc = .ok (.ireturn, 1)) (hz : z = 0 ∨ z = 1) (hk : k ≤ mc) (hn : n ≤ ms) (hp : P (some (vI z)) h) : Go X (Qm X P mc ms) k n h pc L [vI z] := fun H locs ls hP hS hL hR =>
  W.widen hk hn (W.zret (v := Int32.ofInt z) C.1 C.2.1 C.2.2.2.2.2.2.1 (o_nb hz) (fun t ht hW => ⟨some (vI z), h, rfl, hp, fun v hv => (by cases hv; exact Rh hR), by rw [ht]; exact hP.moved hW.alike, hS.F ht⟩) hS.2.2 hd C.2.2.2.2.2.1)
theorem r_vret {mc ms : Nat} {P : Option Va → Pic → Prop} (C : Cx X cc nL own none) (hd : decode cc pc = .ok (.return_, 1)) (hk : k ≤ mc) (hn : n ≤ ms) (hp : P none h) : Go X (Qm X P mc ms) k n h pc L [] := fun H locs ls hP hS hL hR =>
  W.widen hk hn (W.vret C.1 C.2.1 C.2.2.2.2.2.2.1 (fun t ht hW => ⟨none, h, rfl, hp, fun v hv => (by cases hv), by rw [ht]; exact hP.moved hW.alike, hS.F ht⟩) hS.2.2 hd C.2.2.2.2.2.1)
theorem r_aret {a mc ms : Nat} {rn : String} {P : Option Va → Pic → Prop} (C : Cx X cc nL own (some (.object rn))) (hd : decode cc pc = .ok (.areturn, 1)) (hk : k ≤ mc) (hn : n ≤ ms) (hp : P (some (vR a)) h) : Go X (Qm X P mc ms) k n h pc L [vR a] := fun H locs ls hP hS hL hR =>
  W.widen hk hn (W.aret (v := .ref a) C.1 C.2.1 C.2.2.2.2.2.2.1 (Or.inl ⟨rn, rfl⟩) (Or.inr ⟨a, rfl⟩) (fun t ht hW => ⟨some (vR a), h, rfl, hp, fun v hv => (by cases hv; trivial), by rw [ht]; exact hP.moved hW.alike, hS.F ht⟩) hS.2.2 hd C.2.2.2.2.2.1)
end GoHeap
