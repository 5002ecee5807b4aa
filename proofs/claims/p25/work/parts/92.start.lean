/-! THE LAW, from its entry -/
/-- a constructor's call in the law -/
theorem lw_con {p : Program} {l : Launch} {e : Env} {s : State} {m : MethodId} {below : List Frame} {meth : Method} {c : Code} {b L : Nat} {xs : Nat → Int32} {ty : Bool → ClassId} {D : va_G} {q' : MI} {C' Sl' idx a pc k n : Nat} {e0 : va_E} {wr : va_W} {Qc : (Bool → ClassId) → va_W → Prop} {H : Heap} {locs : List Loc} {ls : Array Slot} {rest : List Value} {Z : State → Prop}
    (C0 : lw_At p s m meth c b L xs) (hK : va_K D vwCl [(ty false, .int), (ty true, .int)] s) (hN : NW s) (h : Con q' C' Sl' [.ref a] [(a, e0)] Qc) (hd : decode code pc = .ok (.invokespecial idx, 3)) (w1 : Cond.methodLink R_law idx q'.1 ∈ TBL) (w2 : Cond.instanceMethod q'.1 ∈ TBL) (w3 : Cond.initialized q'.1.cls ∈ TBL) (w4 : Cond.code q'.1 q'.2.1 q'.2.2.1 q'.2.2.2.1 ∈ TBL) (hnm : q'.1.name = "<init>") (hret : q'.2.2.2.1 = none)
    (m5 : q'.1.cls ≠ "java/lang/invoke/MethodHandle" ∧ q'.1.cls ≠ "java/lang/invoke/VarHandle" ∧ (parseMethodDescriptor q'.1.desc).map (fun d => d.parameters.length) = some 0) (rf : RoomFor miL q') (hw : (rest.map fun v => v.category).sum ≤ 8) (hk : k + C' ≤ 600000) (hs : n + Sl' ≤ 7302250) (hl : ls.size = 5)
    (hP : va_P D vwCl (wr ++ [(a, e0)]) H) (hD : va_D (fun q => s.heap.size ≤ q) (wr ++ [(a, e0)])) (hS : va_S (fun q => s.heap.size ≤ q) s.heap H locs)
    (kk : ∀ (w1 : va_W) (H1 : Heap) (locs1 : List Loc), Qc ty w1 → va_P D vwCl (wr ++ w1) H1 → va_D (fun q => s.heap.size ≤ q) (wr ++ w1) → va_S (fun q => s.heap.size ≤ q) s.heap H1 locs1 → W p l e room_1 s m #[Value.ref b] below meth c H1 locs1 (k + C') (n + Sl') Z (F0 m (pc + 3) ls rest)) :
    W p l e room_1 s m #[Value.ref b] below meth c H locs k n Z (F0 m pc ls (.ref a :: rest)) := by
  obtain ⟨hx, hb, hr, hml, hown, hts0, hX, hbl, hlocks, hgv⟩ := id C0
  have hts := lw_tb hts0
  have hA : ∀ x : Nat, s.heap.size ≤ x → (fun q : Nat => s.heap.size ≤ q) x := fun x h => h
  have eC : [wr.length].map (fun i => (wr ++ [(a, e0)])[i]?) = [(a, e0)].map some := by simp
  have hPc := hP.sub (ws' := [(a, e0)]) [wr.length] (by simp)
  have hDc := hD.sub (ws' := [(a, e0)]) [wr.length] (by simp [va_nd]) eC
  have hFc := va_free (wc := [(a, e0)]) hD hS hA [wr.length] eC
  have ew : miW q' = Cond.code q'.1 q'.2.1 q'.2.2.1 none :: TBL := by unfold miW; rw [hret]
  refine va_callv (va_runI (own := R_law) (index := idx) (As := []) (rest := rest) (b := a) (Ts := TBL) (n := 0) ⟨hx, hb, hml, hown, hts⟩ (h l D ty H.size) (cwI 0 hts (gdW w4) ew rfl rfl (hts _ w3) (hts _ w1) (hts _ w2) hnm m5 rf) ⟨?_, fun U hU hW => ⟨rfl, by rw [hU], by rw [hU]; exact hPc, va_K.moved hW.alike hK, hDc.weaken (fun _ _ _ _ => trivial), NW.warm hW hN⟩⟩ rfl rfl hl rfl (lv_room hw) hd ⟨hk, hs⟩) hS (fun x _ h => hFc x h) hFc (fun u t H1 locs1 ht hvm h16 hB hz1 hk1 hS1 => ?_)
  · intro b U g mk h
    obtain ⟨h0, h1, h2, h3, h4, h5⟩ := h
    exact ⟨h0, h1, h2, va_K.moved (u := U) (U := U.calling g mk b) (Vm.Alike.refl U.vm) h3, h4, NW.same (U := U.calling g mk b) rfl h5⟩
  · obtain ⟨hP1, hD1⟩ := hB
    rw [ht] at hP1
    obtain ⟨hP2, hD2⟩ := va_join (wr := wr) (w1 := u) hP hD [wr.length] (List.range wr.length) eC (range_at wr _) (nd_of _ List.nodup_range) (fun i hi => by have := List.mem_range.mp hi; simp; omega) hk1 hFc hP1 hD1
    exact kk u H1 locs1 h16 hP2 hD2 hS1
theorem arr_of {s : State} {args : Array Value} {t : FieldType} (h : (Cond.arrayClass t).before args s = true) (ho : ∀ C, t ≠ .object C) : ∃ cA : ClassId, ArrOfT s cA t ∧ va_RA s cA t := by
  obtain ⟨cA, kA, comp, h1, h2, h3⟩ := Cond.arrayClass_spec h
  refine ⟨cA, fun n z => ⟨fun k h => (by cases h), kA, h2, comp, h3⟩, ?_⟩
  cases t with
  | object C => exact absurd rfl (ho C)
  | _ => exact h1
theorem classes_of {s : State} {args : Array Value} (hts : ∀ w ∈ TBL, w.before args s = true) : ∃ D : va_G, ∀ (k : Nat) (q : vw_C), vwCl[k]? = some q → u_Kn s q.1 q.2.1 q.2.2 (D.1 k) (D.2 k) := by
  have h : ∀ k : Nat, ∃ (cC : ClassId) (iS : Nat → Nat), ∀ q : vw_C, vwCl[k]? = some q → u_Kn s q.1 q.2.1 q.2.2 cC iS := by
    intro k
    match k with
    | 0 => obtain ⟨a, b, h⟩ := u_known hts uwX0 (hts _ (inT1 129 rfl rfl)); exact ⟨a, b, fun q hq => by cases hq; exact h⟩
    | 1 => obtain ⟨a, b, h⟩ := u_known hts uwX1 (hts _ (inT1 21 rfl rfl)); exact ⟨a, b, fun q hq => by cases hq; exact h⟩
    | 2 => obtain ⟨a, b, h⟩ := u_known hts uwX2 (hts _ (inT1 141 rfl rfl)); exact ⟨a, b, fun q hq => by cases hq; exact h⟩
    | 3 => obtain ⟨a, b, h⟩ := u_known hts uwX3 (hts _ (inT1 111 rfl rfl)); exact ⟨a, b, fun q hq => by cases hq; exact h⟩
    | 4 => obtain ⟨a, b, h⟩ := u_known hts uwX4 (hts _ (inT1 81 rfl rfl)); exact ⟨a, b, fun q hq => by cases hq; exact h⟩
    | 5 => obtain ⟨a, b, h⟩ := u_known hts uwX5 (hts _ (inT1 171 rfl rfl)); exact ⟨a, b, fun q hq => by cases hq; exact h⟩
    | 6 => obtain ⟨a, b, h⟩ := u_known hts uwX6 (hts _ (inT1 27 rfl rfl)); exact ⟨a, b, fun q hq => by cases hq; exact h⟩
    | 7 => obtain ⟨a, b, h⟩ := u_known hts uwX7 (hts _ (inT1 63 rfl rfl)); exact ⟨a, b, fun q hq => by cases hq; exact h⟩
    | 8 => obtain ⟨a, b, h⟩ := u_known hts uwX8 (hts _ (inT1 156 rfl rfl)); exact ⟨a, b, fun q hq => by cases hq; exact h⟩
    | 9 => obtain ⟨a, b, h⟩ := u_known hts uwX9 (hts _ (inT1 13 rfl rfl)); exact ⟨a, b, fun q hq => by cases hq; exact h⟩
    | k + 10 => exact ⟨0, fun _ => 0, fun q hq => by simp at hq⟩
  exact ⟨(fun k => (h k).choose, fun k => (h k).choose_spec.choose), fun k q hq => (h k).choose_spec.choose_spec q hq⟩
set_option maxHeartbeats 4000000 in
/-- from the entry, for every script of at most 260 ints, the law comes to its end with true -/
theorem whole_start {p : Program} {e : Env} {s : State} {m : MethodId} {below : List Frame} {meth : Method} {c : Code} (l : Launch) (hflags : l.flags = flags0) {b L : Nat} {xs : Nat → Int32} (hL : L ≤ 260) (C0 : lw_At p s m meth c b L xs) : W p l e room_1 s m #[Value.ref b] below meth c s.heap [] 0 0 (lw_Z below #[Value.ref b] s) (entryFrame m ([Value.ref b] : List Value).toArray 5) := by
  obtain ⟨hx, hb, hr, hml, hown, hts0, hX, hbl, hlocks, hgv⟩ := id C0
  have hts := lw_tb hts0
  obtain ⟨D, hKc⟩ := classes_of hts
  obtain ⟨cI, hI⟩ := arr_of (hts (.arrayClass .int) (inT1 36 rfl rfl)) (fun C h => by cases h)
  obtain ⟨ty, ht0, ht1⟩ : ∃ ty : Bool → ClassId, ty false = cI ∧ ty true = cI := ⟨fun _ => cI, rfl, rfl⟩
  have hK : va_K D vwCl [(ty false, .int), (ty true, .int)] s := by
    refine ⟨hKc, fun k q hq => ?_⟩
    match k with
    | 0 => cases hq; rw [ht0]; exact hI
    | 1 => cases hq; rw [ht1]; exact hI
    | k + 2 => simp at hq
  have hN : NW s := NW.of (args := #[Value.ref b]) (fun w hw => hts0 w (List.mem_append_right _ hw))
  have hS : va_S (fun q : Nat => s.heap.size ≤ q) s.heap s.heap [] := va_S.rf
  have hP : va_P D vwCl [] s.heap := fun k q h => by simp at h
  have hD : va_D (fun q : Nat => s.heap.size ≤ q) [] := ⟨fun i j p q h => by simp at h, fun k q h => by simp at h⟩
  have hl := lv_entry ([.ref b]) (n := 5) (Nat.le_of_ble_eq_true rfl)
  rw [lg_entry_eq]
  generalize (lg_sl ([.ref b]) ++ List.replicate (5 - (lg_sl ([.ref b])).length) Slot.unset).toArray = ls at hl ⊢
  have hl : lv_has ls 5 [(0, .ref b)] := hl
  refine va_new (ci := 9) (fs := [.null, .null, .null, .null, .null, .null, .null, .null, .null, .null, .null, .null]) (C := RX9) (T := TX9) (N := 12) (Ts := TBL) (A := fun q => s.heap.size ≤ q) hx hb hts uwX9 tyX9 tyX9_ok hown (hts _ (inT1 12 rfl rfl)) (hts _ (inT1 13 rfl rfl)) (hts _ (inT1 1 rfl rfl)) hK hP hD hS (fun _ h => h) rfl (fun j hj => by rcases (show j = 0 ∨ j = 1 ∨ j = 2 ∨ j = 3 ∨ j = 4 ∨ j = 5 ∨ j = 6 ∨ j = 7 ∨ j = 8 ∨ j = 9 ∨ j = 10 ∨ j = 11 by omega) with rfl | rfl | rfl | rfl | rfl | rfl | rfl | rfl | rfl | rfl | rfl | rfl <;> rfl) (Nat.le_of_ble_eq_true rfl) (Nat.le_of_ble_eq_true rfl) dL_law_0 (fun q0 H0 hP0 hD0 hS0 => ?_)
  refine lv_dup hx hb dL_law_3 rfl ?_
  refine lw_con (ty := ty) (D := D) (wr := []) C0 hK hN (con_X9 q0) dL_law_4 (inT1 14 rfl rfl) (inT1 15 rfl rfl) (inT1 1 rfl rfl) (inT1 16 rfl rfl) rfl rfl ⟨by decide, by decide, by decide +kernel⟩ ⟨by decide, by decide⟩ (Nat.le_of_ble_eq_true rfl) (Nat.le_of_ble_eq_true rfl) (Nat.le_of_ble_eq_true rfl) hl.1 hP0 hD0 hS0 (fun wT H locs hQ hP1 hD1 hS1 => ?_)
  obtain ⟨aT, M, e0, eb, hIT, hwT⟩ := made_T (b := b) hQ
  subst e0
  refine lv_astore_n (lv' := [(1, .ref (aT (cX 0))), (0, .ref b)]) hx hb dL_law_7 rfl hl (by decide) rfl (fun ls hl => ?_)
  refine W.widen (k := 600000) (n := 7302250) (Nat.le_of_ble_eq_true rfl) (Nat.le_of_ble_eq_true rfl) ?_
  have hDT : va_D (fun q : Nat => s.heap.size ≤ q) (wl ST aT ty M) := wl_ofD (S := ST) pos_inj hwT hD1
  have hPT : va_P D vwCl (wl ST aT ty M) H := wl_of (S := ST) hwT hP1
  have hLH : LH aT ls 5 (gL none none none) := by
    refine ⟨hl.1, hl.2.1, fun i v hv => ?_⟩
    match i, hv with
    | 0, hv =>
      cases hv
      have h0 : ls[0]? = some (.val (.ref b)) := hl.2.2 (0, .ref b) (List.mem_cons_of_mem _ List.mem_cons_self)
      show ls[0]? = some (.val (.ref (aT (cX 99))))
      rw [eb]
      exact h0
    | 1, hv =>
      cases hv
      exact hl.2.2 (1, .ref (aT (cX 0))) List.mem_cons_self
    | 2, hv => cases hv
    | 3, hv => cases hv
    | 4, hv => cases hv
    | i + 5, hv => cases hv
  refine law_8 hIT p l e s m below meth c b aT ty D H locs ls ⟨C0, hL, hK, hN, wl_D hDT (fun c hc => ?_), eb⟩ hPT hS1 hLH
  obtain ⟨k, hk⟩ := List.getElem?_of_mem hc
  exact hDT.2 k _ (wl_at hk)
