/-! MAKING: a constructor's call; rows -/
theorem nd_of : ∀ l : List Nat, l.Nodup → va_nd l = true
  | [], _ => rfl
  | a :: l, h => by
    rw [List.nodup_cons] at h
    unfold va_nd
    rw [nd_of l h.2, decide_eq_true h.1]
    rfl
theorem range_at {α : Type} (wr : List α) (x : List α) : (List.range wr.length).map (fun i => (wr ++ x)[i]?) = wr.map some := by
  apply List.ext_getElem?
  intro i
  simp only [List.getElem?_map]
  by_cases h : i < wr.length
  · rw [List.getElem?_range h, List.getElem?_eq_getElem h]
    simp [List.getElem?_append_left h, List.getElem?_eq_getElem h]
  · rw [List.getElem?_eq_none (by simpa using h), List.getElem?_eq_none (by simpa using h)]
    rfl
section KC
variable {q : MI} {C Sl : Nat} {w0 : va_W} {ll : List (Nat × Value)} {D : va_G} {ty : Bool → ClassId} {Q : va_W → Prop} {pc np : Nat} {st : List Value} {k n : Nat} {ws : va_W}
theorem kv_con {q' : MI} {C' Sl' idx a : Nat} {e : va_E} {As rest : List Value} {wr : va_W} {Qc : (Bool → ClassId) → va_W → Prop} (h : Con q' C' Sl' (.ref a :: As) [(a, e)] Qc) (hd : decode q.2.1 pc = .ok (.invokespecial idx, 3)) (w1 : Cond.methodLink q.1.cls idx q'.1 ∈ TBL) (w2 : Cond.instanceMethod q'.1 ∈ TBL) (w3 : Cond.initialized q'.1.cls ∈ TBL) (w4 : Cond.code q'.1 q'.2.1 q'.2.2.1 q'.2.2.2.1 ∈ TBL) (hnm : q'.1.name = "<init>") (hret : q'.2.2.2.1 = none)
    (m5 : q'.1.cls ≠ "java/lang/invoke/MethodHandle" ∧ q'.1.cls ≠ "java/lang/invoke/VarHandle" ∧ (parseMethodDescriptor q'.1.desc).map (fun d => d.parameters.length) = some As.length) (rf : RoomFor q q') (hst : st = As.reverse ++ .ref a :: rest) (hw : (rest.map fun v => v.category).sum ≤ 8) (hk : k + C' ≤ C) (hs : n + Sl' ≤ Sl) (hn : pc + 3 = np)
    (kk : ∀ w1, Qc ty w1 → Kv q C Sl w0 ll D ty Q np rest (k + C') (n + Sl') (wr ++ w1)) : Kv q C Sl w0 ll D ty Q pc st k n (wr ++ [(a, e)]) := by
  subst hn; subst hst
  intro p l e0 s m args below meth c H locs lsA hc hP hD hS hL
  have hts := hc.2.2.2.2.2.1
  have hK := hc.2.2.2.2.2.2.2.2.1
  have hN := hc.2.2.2.2.2.2.2.2.2
  have hA : ∀ x : Nat, s.heap.size ≤ x → va_A w0 s.heap.size x := fun x h => Or.inr h
  have eC : [wr.length].map (fun i => (wr ++ [(a, e)])[i]?) = [(a, e)].map some := by simp
  have hPc := hP.sub (ws' := [(a, e)]) [wr.length] (by simp)
  have hDc := hD.sub (ws' := [(a, e)]) [wr.length] (by simp [va_nd]) eC
  have hFc := va_free (wc := [(a, e)]) hD hS hA [wr.length] eC
  have ew : miW q' = Cond.code q'.1 q'.2.1 q'.2.2.1 none :: TBL := by unfold miW; rw [hret]
  refine va_callv (va_runI (own := q.1.cls) (index := idx) (As := As) (rest := rest) (b := a) (Ts := TBL) (n := As.length) ⟨hc.1, hc.2.1, hc.2.2.2.1, hc.2.2.2.2.1, hts⟩ (h l D ty H.size) (cwI As.length hts (gdW w4) ew rfl rfl (hts _ w3) (hts _ w1) (hts _ w2) hnm m5 rf) ⟨?_, fun U hU hW => ⟨rfl, by rw [hU], by rw [hU]; exact hPc, va_K.moved hW.alike hK, hDc.weaken (fun _ _ _ _ => trivial), NW.warm hW hN⟩⟩ rfl rfl hL.1 rfl (lv_room hw) hd ⟨hk, hs⟩) hS (fun x _ h => hFc x h) hFc (fun u t H1 locs1 ht hvm h16 hB hz1 hk1 hS1 => ?_)
  · intro b U g mk h
    obtain ⟨h0, h1, h2, h3, h4, h5⟩ := h
    exact ⟨h0, h1, h2, va_K.moved (u := U) (U := U.calling g mk b) (Vm.Alike.refl U.vm) h3, h4, NW.same (U := U.calling g mk b) rfl h5⟩
  · obtain ⟨hP1, hD1⟩ := hB
    rw [ht] at hP1
    obtain ⟨hP2, hD2⟩ := va_join (wr := wr) (w1 := u) hP hD [wr.length] (List.range wr.length) eC (range_at wr _) (nd_of _ List.nodup_range) (fun i hi => by have := List.mem_range.mp hi; simp; omega) hk1 hFc hP1 hD1
    exact kk u h16 p l e0 s m args below meth c H1 locs1 lsA hc hP2 hD2 hS1 hL
theorem kv_ifge {v : Int32} {off : Int} {tgt : Nat} (hd : decode q.2.1 pc = .ok (.ifCond .ge off, 3)) (ht : (pc : Int) + off = (tgt : Int)) (hv : 0 ≤ v) (kk : Kv q C Sl w0 ll D ty Q tgt st k n ws) : Kv q C Sl w0 ll D ty Q pc (.int v :: st) k n ws := by
  intro p l e s m args below meth c H locs lsA hc hP hD hS hL
  exact lv_if_ge hc.1 hc.2.1 hd ht (fun _ => kk p l e s m args below meth c H locs lsA hc hP hD hS hL) (fun h => absurd hv h)
end KC
