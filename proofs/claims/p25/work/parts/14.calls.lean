def MOkV (q : MI) (n : Nat) : Prop := Cond.instanceMethod q.1 ∈ TBL ∧ Cond.selects q.1.cls q.1 q.1 ∈ TBL ∧ Cond.initialized q.1.cls ∈ TBL ∧ Cond.code q.1 q.2.1 q.2.2.1 q.2.2.2.1 ∈ TBL ∧ (q.1.cls ≠ "java/lang/invoke/MethodHandle" ∧ q.1.cls ≠ "java/lang/invoke/VarHandle" ∧ (parseMethodDescriptor q.1.desc).map (fun d => d.parameters.length) = some n)
def MOkS (q : MI) (n : Nat) : Prop := Cond.static q.1 ∈ TBL ∧ Cond.initialized q.1.cls ∈ TBL ∧ Cond.code q.1 q.2.1 q.2.2.1 q.2.2.2.1 ∈ TBL ∧ (q.1.cls ≠ "java/lang/invoke/MethodHandle" ∧ q.1.cls ≠ "java/lang/invoke/VarHandle" ∧ (parseMethodDescriptor q.1.desc).map (fun d => d.parameters.length) = some n)
def RoomFor (q q' : MI) : Prop := q'.2.2.2.2.1 + 1 ≤ q.2.2.2.2.1 ∧ 8 + (q'.2.2.1 + 11) + q'.2.2.2.2.2 ≤ q.2.2.2.2.2
def SiteV (q q' : MI) (pc : Nat) : Prop := ∃ idx : Nat, Cond.methodLink q.1.cls idx q'.1 ∈ TBL ∧ decode q.2.1 pc = .ok (.invokevirtual idx, 3) ∧ RoomFor q q'
def SiteS (q q' : MI) (pc : Nat) : Prop := ∃ idx : Nat, Cond.methodLink q.1.cls idx q'.1 ∈ TBL ∧ decode q.2.1 pc = .ok (.invokestatic idx, 3) ∧ RoomFor q q'
def SiteN (q q' : MI) (pc : Nat) : Prop := ∃ (idx : Nat) (host : String), (q.1.cls, idx, q'.1, host) ∈ nestL ∧ decode q.2.1 pc = .ok (.invokestatic idx, 3) ∧ RoomFor q q'
theorem gdW {q : MI} (h : Cond.code q.1 q.2.1 q.2.2.1 q.2.2.2.1 ∈ TBL) : GoodIn TBL (miW q) := fun w hw => by
  rcases List.mem_cons.mp hw with e | e
  · rw [e]; exact gdT _ h
  · exact gdT _ e
theorem cat_sum (ad : Cc → Nat) : ∀ r : List Val, ((r.map (cvv ad)).map fun v => v.category).sum = r.length
  | [] => rfl
  | a :: t => by simp only [List.map_cons, List.sum_cons, cvv_cat, cat_sum ad t, List.length_cons]; omega
theorem run_go {S : Sy} {p : Program} {l : Launch} {e : Env} {R : Room} {s : State} {m : MethodId} {args : Array Value} {below : List Frame} {meth : Method} {c : Code} {H : Heap} {locs : List Loc} {Z : State → Prop} {ad : Cc → Nat} {D : va_G} {ty : Bool → ClassId} {pc : Nat} {lsA : Array Slot} {st0 rest : List Value} {a : Array Value} {Qc : Option Val → Mem → Prop}
    (hr : va_Run p l e R s m args below meth c H locs 0 0 0 0 (F0 m pc lsA st0) rest (QcS S ad D ty H.size Qc a) (AA S ad H.size)) (hS : va_S (AA S ad s.heap.size) s.heap H locs)
    (kk : ∀ (v : Option Val) (M' : Mem) (H1 : Heap) (locs1 : List Loc), Qc v M' → va_P D vwCl (wl S ad ty M') H1 → va_S (AA S ad s.heap.size) s.heap H1 locs1 → W p l e R s m args below meth c H1 locs1 0 0 Z (F0 m (pc + 3) lsA ((v.map (cvv ad)).toList ++ rest))) : W p l e R s m args below meth c H locs 0 0 Z (F0 m pc lsA st0) := by
  intro T hT X
  obtain ⟨v, st₀, t, T', L, h0, X', hL, e1, e2, ⟨⟨v2, M', hv, hq, hP1⟩, hz, hk⟩, st⟩ := hr T hT X
  cases hv
  rw [h0] at hz hk
  have hAA : ∀ q, AA S ad H.size q → AA S ad s.heap.size q := fun q h => h.elim Or.inl (fun h => Or.inr (Nat.le_trans hS.1 h))
  obtain ⟨t2, a1, b1⟩ := kk v2 M' T'.heap (locs ++ L) hq (by rw [e1]; exact hP1) ⟨Nat.le_trans hS.1 (by rw [e1]; exact hz), fun q h1 h2 => by rw [e1, hk q (Nat.lt_of_lt_of_le h1 hS.1) (fun z => h2 (hAA q z))]; exact hS.2.1 q h1 h2, fun q hq => by
      rcases List.mem_append.mp hq with h | h
      · exact hS.2.2 q h
      · exact hAA _ (hL q h)⟩ T' rfl X'
  exact ⟨t2, st t2 a1, b1⟩
theorem PcS_blind {S : Sy} {ad : Cc → Nat} {D : va_G} {ty : Bool → ClassId} {sz : Nat} {As : List Val} {M : Mem} : FrameBlind (PcS S ad D ty sz As M) := by
  intro a U g mk h
  obtain ⟨h0, h1, h2, h3, h4, h5⟩ := h
  exact ⟨h0, h1, h2, va_K.moved (u := U) (U := U.calling g mk a) (Vm.Alike.refl U.vm) h3, h4, NW.same (U := U.calling g mk a) rfl h5⟩
section RC
variable {S : Sy} {q q' : MI} {pc np n : Nat} {ls : List (Option Val)} {st0 rest : List Val} {As : List Val} {M : Mem} {Q Qc : Option Val → Mem → Prop}
theorem tl_map (ad : Cc → Nat) (v : Option Val) (r : List Val) : (v.map (cvv ad)).toList ++ r.map (cvv ad) = (v.toList ++ r).map (cvv ad) := by
  cases v <;> rfl
theorem ev_callV {c0 : Cc} {ci : Nat} {fl : List (Option Cc)} {T : u_T} {N : Nat} (mo : MOkV q' n) (sc : SiteV q q' pc) (h : Sem S q' (.inr c0 :: As) M Qc) (hs : S.1 c0 = some (.inr (ci, fl))) (hci : vwCl[ci]? = some (q'.1.cls, T, N)) (hst : st0 = As.reverse ++ .inr c0 :: rest) (hlen : As.length = n) (hw : rest.length ≤ 8) (hn : pc + 3 = np) (kk : ∀ v M', Qc v M' → Ev S q np ls (v.toList ++ rest) M' Q) : Ev S q pc ls st0 M Q := by
  subst hn; subst hst
  obtain ⟨m1, m2, m3, m4, m5⟩ := mo
  obtain ⟨idx, w1, hd, r1, r2⟩ := sc
  intro p l e s m args below meth c ad D ty H locs lsA hc hP hD hS hL
  obtain ⟨j, hj⟩ := wl_ix hc.2.2.2.2.2.2.2.2.2 hs
  refine run_go (rest := rest.map (cvv ad)) (a := (Value.ref (ad c0) :: As.map (cvv ad)).toArray) (Qc := Qc) (D := D) (ty := ty) (S := S) (ad := ad) ?_ hS (fun v M' H1 locs1 hq hP1 hS1 => ?_)
  · refine va_runV (own := q.1.cls) (index := idx) (As := As.map (cvv ad)) (b := ad c0) (C := q'.1.cls) (Ts := TBL) (n := n) ⟨hc.1, hc.2.1, hc.2.2.2.1, hc.2.2.2.2.1, hc.2.2.2.2.2.1⟩ (h l ad D ty H.size) (cwV (ws' := TBL) n hc.2.2.2.2.2.1 ?_ rfl rfl rfl ⟨rfl, m5⟩ ⟨r1, r2⟩) ⟨PcS_blind, va_recv hc.2.2.2.2.2.2.2.1 hP hci (obj_at hs hj), fun U hU hW => ⟨rfl, by rw [hU], by rw [hU]; exact hP, va_K.moved hW.alike hc.2.2.2.2.2.2.2.1, hD.weaken (fun _ _ _ _ => trivial), NW.warm hW hc.2.2.2.2.2.2.2.2.1⟩⟩ rfl (by simpa using hlen) hL.1 ?_ (lv_room (by rw [cat_sum]; exact hw)) hd ⟨Nat.le_refl _, Nat.le_refl _⟩
    · intro w hw
      simp only [wsV, List.mem_append, List.mem_cons, List.not_mem_nil, or_false] at hw
      rcases hw with (e | e | e | e) | e
      · rw [e]; exact gdT _ w1
      · rw [e]; exact gdT _ m1
      · rw [e]; exact gdT _ m2
      · rw [e]; exact gdT _ m3
      · exact gdW m4 _ e
    · simp [cvv]
  · rw [tl_map]
    exact kk v M' hq p l e s m args below meth c ad D ty H1 locs1 lsA hc hP1 (wl_D hD (fun c hc => Or.inl ⟨c, hc, rfl⟩)) hS1 hL
theorem ev_callS (mo : MOkS q' n) (sc : SiteS q q' pc) (h : Sem S q' As M Qc) (hst : st0 = As.reverse ++ rest) (hlen : As.length = n) (hw : rest.length ≤ 8) (hn : pc + 3 = np) (kk : ∀ v M', Qc v M' → Ev S q np ls (v.toList ++ rest) M' Q) : Ev S q pc ls st0 M Q := by
  subst hn; subst hst
  obtain ⟨m1, m3, m4, m5⟩ := mo
  obtain ⟨idx, w1, hd, r1, r2⟩ := sc
  intro p l e s m args below meth c ad D ty H locs lsA hc hP hD hS hL
  refine run_go (rest := rest.map (cvv ad)) (a := (As.map (cvv ad)).toArray) (Qc := Qc) (D := D) (ty := ty) (S := S) (ad := ad) ?_ hS (fun v M' H1 locs1 hq hP1 hS1 => ?_)
  · refine va_runS (own := q.1.cls) (index := idx) (As := As.map (cvv ad)) (Ts := TBL) (n := n) ⟨hc.1, hc.2.1, hc.2.2.2.1, hc.2.2.2.2.1, hc.2.2.2.2.2.1⟩ (h l ad D ty H.size) ⟨callB_of (ws' := TBL) n hc.2.2.2.2.2.1 (gdW m4) rfl rfl rfl (hc.2.2.2.2.2.1 _ m3) (hc.2.2.2.2.2.1 _ w1) m5 ⟨r1, r2⟩, hc.2.2.2.2.2.1 _ m1⟩ ⟨PcS_blind, fun U hU hW => ⟨rfl, by rw [hU], by rw [hU]; exact hP, va_K.moved hW.alike hc.2.2.2.2.2.2.2.1, hD.weaken (fun _ _ _ _ => trivial), NW.warm hW hc.2.2.2.2.2.2.2.2.1⟩⟩ rfl (by simpa using hlen) hL.1 ?_ (lv_room (by rw [cat_sum]; exact hw)) hd ⟨Nat.le_refl _, Nat.le_refl _⟩
    · simp
  · rw [tl_map]
    exact kk v M' hq p l e s m args below meth c ad D ty H1 locs1 lsA hc hP1 (wl_D hD (fun c hc => Or.inl ⟨c, hc, rfl⟩)) hS1 hL
theorem ev_callN (mo : MOkS q' n) (sc : SiteN q q' pc) (h : Sem S q' As M Qc) (hst : st0 = As.reverse ++ rest) (hlen : As.length = n) (hw : rest.length ≤ 8) (hn : pc + 3 = np) (kk : ∀ v M', Qc v M' → Ev S q np ls (v.toList ++ rest) M' Q) : Ev S q pc ls st0 M Q := by
  subst hn; subst hst
  obtain ⟨m1, m3, m4, m5⟩ := mo
  obtain ⟨idx, host, w1, hd, r1, r2⟩ := sc
  intro p l e s m args below meth c ad D ty H locs lsA hc hP hD hS hL
  refine run_go (rest := rest.map (cvv ad)) (a := (As.map (cvv ad)).toArray) (Qc := Qc) (D := D) (ty := ty) (S := S) (ad := ad) ?_ hS (fun v M' H1 locs1 hq hP1 hS1 => ?_)
  · refine va_runSN (own := q.1.cls) (index := idx) (host := host) (As := As.map (cvv ad)) (Ts := TBL) (n := n) ⟨hc.1, hc.2.1, hc.2.2.2.1, hc.2.2.2.2.1, hc.2.2.2.2.2.1⟩ (h l ad D ty H.size) ⟨va_cnB (ws' := TBL) n hc.2.2.2.2.2.1 (gdW m4) rfl rfl rfl (hc.2.2.2.2.2.2.2.2.1 _ w1) (hc.2.2.2.2.2.1 _ m3) m5 ⟨r1, r2⟩, hc.2.2.2.2.2.1 _ m1, trivial⟩ ⟨PcS_blind, fun U hU hW => ⟨rfl, by rw [hU], by rw [hU]; exact hP, va_K.moved hW.alike hc.2.2.2.2.2.2.2.1, hD.weaken (fun _ _ _ _ => trivial), NW.warm hW hc.2.2.2.2.2.2.2.2.1⟩⟩ rfl (by simpa using hlen) hL.1 ?_ (lv_room (by rw [cat_sum]; exact hw)) hd ⟨Nat.le_refl _, Nat.le_refl _⟩
    · simp
  · rw [tl_map]
    exact kk v M' hq p l e s m args below meth c ad D ty H1 locs1 lsA hc hP1 (wl_D hD (fun c hc => Or.inl ⟨c, hc, rfl⟩)) hS1 hL
end RC
