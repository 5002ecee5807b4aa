/-! THE LAW, from its entry -/
theorem D_l {A : Nat → Prop} {u v : va_W} (h : va_D A (u ++ v)) : va_D A u := by
  have e : ∀ (k : Nat) (q : Nat × va_E), u[k]? = some q → (u ++ v)[k]? = some q := fun k q hk => by
    rw [List.getElem?_append_left (List.getElem?_eq_some_iff.mp hk).1]; exact hk
  exact ⟨fun i j p q hp hq => h.1 i j p q (e i p hp) (e j q hq), fun k q hk => h.2 k q (e k q hk)⟩
theorem D_r {A : Nat → Prop} {u v : va_W} (h : va_D A (u ++ v)) : va_D A v := by
  have e : ∀ (k : Nat) (q : Nat × va_E), v[k]? = some q → (u ++ v)[u.length + k]? = some q := fun k q hk => by
    rw [List.getElem?_append_right (Nat.le_add_right _ _), Nat.add_sub_cancel_left]; exact hk
  exact ⟨fun i j p q hp hq hpq => Nat.add_left_cancel (h.1 _ _ p q (e i p hp) (e j q hq) hpq), fun k q hk => h.2 _ q (e k q hk)⟩
theorem D_x {A : Nat → Prop} {u v : va_W} (h : va_D A (u ++ v)) {i j : Nat} {p q : Nat × va_E} (hp : u[i]? = some p) (hq : v[j]? = some q) : p.1 ≠ q.1 := by
  intro e
  have l := (List.getElem?_eq_some_iff.mp hp).1
  have h1 : (u ++ v)[i]? = some p := by rw [List.getElem?_append_left l]; exact hp
  have h2 : (u ++ v)[u.length + j]? = some q := by rw [List.getElem?_append_right (Nat.le_add_right _ _), Nat.add_sub_cancel_left]; exact hq
  have := h.1 _ _ p q h1 h2 e
  omega
theorem P_l {D : va_G} {u v : va_W} {H : Heap} (h : va_P D vwCl (u ++ v) H) : va_P D vwCl u H := fun k q hk => h k q (by
  rw [List.getElem?_append_left (List.getElem?_eq_some_iff.mp hk).1]; exact hk)
theorem P_r {D : va_G} {u v : va_W} {H : Heap} (h : va_P D vwCl (u ++ v) H) : va_P D vwCl v H := fun k q hk => h (u.length + k) q (by
  rw [List.getElem?_append_right (Nat.le_add_right _ _), Nat.add_sub_cancel_left]; exact hk)
/-- a constructor's call in the law -/
theorem lw_con {p : Program} {l : Launch} {e : Env} {s : State} {m : MethodId} {below : List Frame} {meth : Method} {c : Code} {b L : Nat} {xs : Nat → Int32} {ty : Bool → ClassId} {D : va_G} {q' : MI} {C' Sl' idx a pc k n : Nat} {e0 : va_E} {wr : va_W} {Qc : (Bool → ClassId) → va_W → Prop} {H : Heap} {locs : List Loc} {ls : Array Slot} {rest : List Value} {Z : State → Prop}
    (C0 : lw_At p s m meth c b L xs) (hK : va_K D vwCl [(ty false, .int), (ty true, .char)] s) (hN : NW s) (h : Con q' C' Sl' [.ref a] [(a, e0)] Qc) (hd : decode code pc = .ok (.invokespecial idx, 3)) (w1 : Cond.methodLink R_law idx q'.1 ∈ TBL) (w2 : Cond.instanceMethod q'.1 ∈ TBL) (w3 : Cond.initialized q'.1.cls ∈ TBL) (w4 : Cond.code q'.1 q'.2.1 q'.2.2.1 q'.2.2.2.1 ∈ TBL) (hnm : q'.1.name = "<init>") (hret : q'.2.2.2.1 = none)
    (m5 : q'.1.cls ≠ "java/lang/invoke/MethodHandle" ∧ q'.1.cls ≠ "java/lang/invoke/VarHandle" ∧ (parseMethodDescriptor q'.1.desc).map (fun d => d.parameters.length) = some 0) (rf : RoomFor miL q') (hw : (rest.map fun v => v.category).sum ≤ 8) (hk : k + C' ≤ 600000) (hs : n + Sl' ≤ 7302250) (hl : ls.size = 4)
    (hP : va_P D vwCl (wr ++ [(a, e0)]) H) (hD : va_D (fun q => s.heap.size ≤ q) (wr ++ [(a, e0)])) (hS : va_S (fun q => s.heap.size ≤ q) s.heap H locs)
    (kk : ∀ (w1 : va_W) (H1 : Heap) (locs1 : List Loc), Qc ty w1 → va_P D vwCl (wr ++ w1) H1 → va_D (fun q => s.heap.size ≤ q) (wr ++ w1) → va_S (fun q => s.heap.size ≤ q) s.heap H1 locs1 → W p l e room_1 s m #[Value.ref b] below meth c H1 locs1 (k + C') (n + Sl') Z (F0 m (pc + 3) ls rest)) :
    W p l e room_1 s m #[Value.ref b] below meth c H locs k n Z (F0 m pc ls (.ref a :: rest)) := by
  obtain ⟨hx, hb, hr, hml, hown, hts0, hX, hbl, hlocks, hgv⟩ := id C0
  have hts := lw_tb hts0
  have hA : ∀ x : Nat, s.heap.size ≤ x → (fun q : Nat => s.heap.size ≤ q) x := fun x h => h
  have eC : [wr.length].map (fun i => (wr ++ [(a, e0)])[i]?) = [(a, e0)].map some := by simp
  have hPc := hP.sub (ws' := [(a, e0)]) [wr.length] (by simp)
  have hDc := hD.sub (ws' := [(a, e0)]) [wr.length] (by simp [va_nd]) eC
  have hFc := va_free (wc := [(a, e0)]) hD hS hA [wr.length] eC
  have ew : miW q' = Cond.code q'.1 q'.2.1 q'.2.2.1 none :: TBL := by unfold miW; rw [hret]
  refine va_callv (va_runI (own := R_law) (index := idx) (As := []) (rest := rest) (b := a) (Ts := TBL) (n := 0) ⟨hx, hb, hml, hown, hts⟩ (h l D ty H.size) (cwI 0 hts (gdW w4) ew rfl rfl (hts _ w3) (hts _ w1) (hts _ w2) hnm m5 rf) ⟨?_, fun U hU hW => ⟨rfl, by rw [hU], by rw [hU]; exact hPc, va_K.moved hW.alike hK, hDc.weaken (fun _ _ _ _ => trivial), NW.warm hW hN⟩⟩ rfl rfl hl rfl (lv_room hw) hd ⟨hk, hs⟩) hS (fun x _ h => hFc x h) hFc (fun u t H1 locs1 ht hvm h16 hB hz1 hk1 hS1 => ?_)
  · intro b U g mk h
    obtain ⟨h0, h1, h2, h3, h4, h5⟩ := h
    exact ⟨h0, h1, h2, va_K.moved (u := U) (U := U.calling g mk b) (Vm.Alike.refl U.vm) h3, h4, NW.same (U := U.calling g mk b) rfl h5⟩
  · obtain ⟨hP1, hD1⟩ := hB
    rw [ht] at hP1
    obtain ⟨hP2, hD2⟩ := va_join (wr := wr) (w1 := u) hP hD [wr.length] (List.range wr.length) eC (range_at wr _) (nd_of _ List.nodup_range) (fun i hi => by have := List.mem_range.mp hi; simp; omega) hk1 hFc hP1 hD1
    exact kk u H1 locs1 h16 hP2 hD2 hS1
theorem arr_of {s : State} {args : Array Value} {t : FieldType} (h : (Cond.arrayClass t).before args s = true) (ho : ∀ C, t ≠ .object C) : ∃ cA : ClassId, ArrOfT s cA t ∧ va_RA s cA t := by
  obtain ⟨cA, kA, comp, h1, h2, h3⟩ := Cond.arrayClass_spec h
  refine ⟨cA, fun n z => ⟨fun k h => (by cases h), kA, h2, comp, h3⟩, ?_⟩
  cases t with
  | object C => exact absurd rfl (ho C)
  | _ => exact h1
theorem classes_of {s : State} {args : Array Value} (hts : ∀ w ∈ TBL, w.before args s = true) : ∃ D : va_G, ∀ (k : Nat) (q : vw_C), vwCl[k]? = some q → u_Kn s q.1 q.2.1 q.2.2 (D.1 k) (D.2 k) := by
  have h : ∀ k : Nat, ∃ (cC : ClassId) (iS : Nat → Nat), ∀ q : vw_C, vwCl[k]? = some q → u_Kn s q.1 q.2.1 q.2.2 cC iS := by
    intro k
    match k with
    | 0 => obtain ⟨a, b, h⟩ := u_known hts uwX0 (hts _ (inT1 130 rfl rfl)); exact ⟨a, b, fun q hq => by cases hq; exact h⟩
    | 1 => obtain ⟨a, b, h⟩ := u_known hts uwX1 (hts _ (inT1 22 rfl rfl)); exact ⟨a, b, fun q hq => by cases hq; exact h⟩
    | 2 => obtain ⟨a, b, h⟩ := u_known hts uwX2 (hts _ (inT1 142 rfl rfl)); exact ⟨a, b, fun q hq => by cases hq; exact h⟩
    | 3 => obtain ⟨a, b, h⟩ := u_known hts uwX3 (hts _ (inT1 112 rfl rfl)); exact ⟨a, b, fun q hq => by cases hq; exact h⟩
    | 4 => obtain ⟨a, b, h⟩ := u_known hts uwX4 (hts _ (inT1 82 rfl rfl)); exact ⟨a, b, fun q hq => by cases hq; exact h⟩
    | 5 => obtain ⟨a, b, h⟩ := u_known hts uwX5 (hts _ (inT1 172 rfl rfl)); exact ⟨a, b, fun q hq => by cases hq; exact h⟩
    | 6 => obtain ⟨a, b, h⟩ := u_known hts uwX6 (hts _ (inT1 28 rfl rfl)); exact ⟨a, b, fun q hq => by cases hq; exact h⟩
    | 7 => obtain ⟨a, b, h⟩ := u_known hts uwX7 (hts _ (inT1 64 rfl rfl)); exact ⟨a, b, fun q hq => by cases hq; exact h⟩
    | 8 => obtain ⟨a, b, h⟩ := u_known hts uwX8 (hts _ (inT1 157 rfl rfl)); exact ⟨a, b, fun q hq => by cases hq; exact h⟩
    | 9 => obtain ⟨a, b, h⟩ := u_known hts uwX9 (hts _ (inT1 14 rfl rfl)); exact ⟨a, b, fun q hq => by cases hq; exact h⟩
    | 10 => obtain ⟨a, b, h⟩ := u_known hts uwX10 (hts _ (inT3 198 rfl rfl)); exact ⟨a, b, fun q hq => by cases hq; exact h⟩
    | k + 11 => exact ⟨0, fun _ => 0, fun q hq => by simp at hq⟩
  exact ⟨(fun k => (h k).choose, fun k => (h k).choose_spec.choose), fun k q hq => (h k).choose_spec.choose_spec q hq⟩
set_option maxHeartbeats 4000000 in
/-- from the entry, for every script of at most 3072 ints, the law comes to its end with true -/
theorem whole_start {p : Program} {e : Env} {s : State} {m : MethodId} {below : List Frame} {meth : Method} {c : Code} (l : Launch) (hflags : l.flags = flags0) {b L : Nat} {xs : Nat → Int32} (hL : L ≤ 3072) (C0 : lw_At p s m meth c b L xs) : W p l e room_1 s m #[Value.ref b] below meth c s.heap [] 0 0 (lw_Z below #[Value.ref b] s) (entryFrame m ([Value.ref b] : List Value).toArray 4) := by
  obtain ⟨hx, hb, hr, hml, hown, hts0, hX, hbl, hlocks, hgv⟩ := id C0
  have hts := lw_tb hts0
  obtain ⟨D, hKc⟩ := classes_of hts
  obtain ⟨cI, hI⟩ := arr_of (hts (.arrayClass .int) (inT1 37 rfl rfl)) (fun C h => by cases h)
  obtain ⟨cC, hC⟩ := arr_of (hts (.arrayClass .char) (inT4 36 rfl rfl)) (fun C h => by cases h)
  obtain ⟨ty, ht0, ht1⟩ : ∃ ty : Bool → ClassId, ty false = cI ∧ ty true = cC := ⟨fun z => if z = true then cC else cI, rfl, rfl⟩
  have hK : va_K D vwCl [(ty false, .int), (ty true, .char)] s := by
    refine ⟨hKc, fun k q hq => ?_⟩
    match k with
    | 0 => cases hq; rw [ht0]; exact hI
    | 1 => cases hq; rw [ht1]; exact hC
    | k + 2 => simp at hq
  have hN : NW s := NW.of (args := #[Value.ref b]) (fun w hw => hts0 w (List.mem_append_right _ hw))
  have hS : va_S (fun q : Nat => s.heap.size ≤ q) s.heap s.heap [] := va_S.rf
  have hP : va_P D vwCl [] s.heap := fun k q h => by simp at h
  have hD : va_D (fun q : Nat => s.heap.size ≤ q) [] := ⟨fun i j p q h => by simp at h, fun k q h => by simp at h⟩
  have hl := lv_entry ([.ref b]) (n := 4) (Nat.le_of_ble_eq_true rfl)
  rw [lg_entry_eq]
  generalize (lg_sl ([.ref b]) ++ List.replicate (4 - (lg_sl ([.ref b])).length) Slot.unset).toArray = ls at hl ⊢
  have hl : lv_has ls 4 [(0, .ref b)] := hl
  refine va_new (ci := 9) (fs := [.null, .null, .null, .null, .null, .null, .null, .null, .null, .null, .null, .null]) (C := RX9) (T := TX9) (N := 12) (Ts := TBL) (A := fun q => s.heap.size ≤ q) hx hb hts uwX9 tyX9 tyX9_ok hown (hts _ (inT1 13 rfl rfl)) (hts _ (inT1 14 rfl rfl)) (hts _ (inT1 1 rfl rfl)) hK hP hD hS (fun _ h => h) rfl (fun j hj => by rcases (show j = 0 ∨ j = 1 ∨ j = 2 ∨ j = 3 ∨ j = 4 ∨ j = 5 ∨ j = 6 ∨ j = 7 ∨ j = 8 ∨ j = 9 ∨ j = 10 ∨ j = 11 by omega) with rfl | rfl | rfl | rfl | rfl | rfl | rfl | rfl | rfl | rfl | rfl | rfl <;> rfl) (Nat.le_of_ble_eq_true rfl) (Nat.le_of_ble_eq_true rfl) dL_law_0 (fun q0 H0 hP0 hD0 hS0 => ?_)
  refine lv_dup hx hb dL_law_3 rfl ?_
  refine lw_con (ty := ty) (D := D) (wr := []) C0 hK hN (con_X9 q0) dL_law_4 (inT1 15 rfl rfl) (inT1 16 rfl rfl) (inT1 1 rfl rfl) (inT1 17 rfl rfl) rfl rfl ⟨by decide, by decide, by decide +kernel⟩ ⟨by decide, by decide⟩ (Nat.le_of_ble_eq_true rfl) (Nat.le_of_ble_eq_true rfl) (Nat.le_of_ble_eq_true rfl) hl.1 hP0 hD0 hS0 (fun wT H locs hQ hP1 hD1 hS1 => ?_)
  obtain ⟨aT, M, e0, hIT, hwT⟩ := made_T hQ
  subst e0
  refine lv_astore_n (lv' := [(1, .ref (aT (cX 0))), (0, .ref b)]) hx hb dL_law_7 rfl hl (by decide) rfl (fun ls hl => ?_)
  refine va_new (ci := 10) (fs := [.null, .null, .null, .int 0, .null, .int 0, .int 0, .int 0, .null, .int 0, .null, .null, .null, .null, .null, .null, .int 0, .int 0, .int 0, .null, .null, .null, .null]) (C := RX10) (T := TX10) (N := 23) (Ts := TBL) (A := fun q => s.heap.size ≤ q) hx hb hts uwX10 tyX10 tyX10_ok hown (hts _ (inT3 197 rfl rfl)) (hts _ (inT3 198 rfl rfl)) (hts _ (inT1 11 rfl rfl)) hK hP1 hD1 hS1 (fun _ h => h) rfl (fun j hj => by rcases (show j = 0 ∨ j = 1 ∨ j = 2 ∨ j = 3 ∨ j = 4 ∨ j = 5 ∨ j = 6 ∨ j = 7 ∨ j = 8 ∨ j = 9 ∨ j = 10 ∨ j = 11 ∨ j = 12 ∨ j = 13 ∨ j = 14 ∨ j = 15 ∨ j = 16 ∨ j = 17 ∨ j = 18 ∨ j = 19 ∨ j = 20 ∨ j = 21 ∨ j = 22 by omega) with rfl | rfl | rfl | rfl | rfl | rfl | rfl | rfl | rfl | rfl | rfl | rfl | rfl | rfl | rfl | rfl | rfl | rfl | rfl | rfl | rfl | rfl | rfl <;> rfl) (Nat.le_of_ble_eq_true rfl) (Nat.le_of_ble_eq_true rfl) dL_law_8 (fun q1 H2 hP2 hD2 hS2 => ?_)
  refine lv_dup hx hb dL_law_11 rfl ?_
  refine lw_con (ty := ty) (D := D) (wr := [] ++ wT) C0 hK hN (con_X10 q1) dL_law_12 (inT3 199 rfl rfl) (inT3 200 rfl rfl) (inT1 11 rfl rfl) (inT3 201 rfl rfl) rfl rfl ⟨by decide, by decide, by decide +kernel⟩ ⟨by decide, by decide⟩ (Nat.le_of_ble_eq_true rfl) (Nat.le_of_ble_eq_true rfl) (Nat.le_of_ble_eq_true rfl) hl.1 hP2 hD2 hS2 (fun wM H3 locs3 hQ hP3 hD3 hS3 => ?_)
  obtain ⟨aM, N, e1, hIM, rfl⟩ := hQ
  subst e1
  refine lv_astore_n (lv' := [(2, .ref (aM (cX 0))), (1, .ref (aT (cX 0))), (0, .ref b)]) hx hb dL_law_15 rfl hl (by decide) rfl (fun ls hl => ?_)
  refine lv_iconst (v := nI 0) hx hb dL_law_16 (iNn 0) ?_
  refine lv_istore_n (lv' := [(3, .int (nI 0)), (2, .ref (aM (cX 0))), (1, .ref (aT (cX 0))), (0, .ref b)]) hx hb dL_law_17 rfl hl (by decide) rfl (fun ls hl => ?_)
  refine W.widen (k := 600000) (n := 7302250) (Nat.le_of_ble_eq_true rfl) (Nat.le_of_ble_eq_true rfl) ?_
  have hDT : va_D (fun q : Nat => s.heap.size ≤ q) (wl ST aT ty M) := wl_ofD (S := ST) pos_inj hwT (D_l hD3)
  have hPT : va_P D vwCl (wl ST aT ty M) H3 := wl_of (S := ST) hwT (P_l hP3)
  refine lw_loop L 0 M N sg0 (Nat.zero_le _) (by omega) sg0_w hIT hIM p l e s m below meth c b aT aM ty D H3 locs3 ls ⟨C0, hL, hK, hN, wl_D hDT (fun c hc => ?_), wl_D (D_r hD3) (fun c hc => ?_), fun c1 h1 d h2 => ?_⟩ hPT (P_r hP3) hS3 hl
  · obtain ⟨k, hk⟩ := List.getElem?_of_mem hc
    exact hDT.2 k _ (wl_at hk)
  · obtain ⟨k, hk⟩ := List.getElem?_of_mem hc
    exact (D_r hD3).2 k _ (wl_at hk)
  · obtain ⟨k, hk⟩ := List.getElem?_of_mem h2
    exact D_x hD3 (hwT c1 h1) (wl_at hk)
