/-! MAKING: a constructor's contract, over worlds as lists -/
abbrev miRmK (q : MI) (C Sl : Nat) : Room := { frames := q.2.2.2.2.1, cells := C, slots := Sl, locals := q.2.2.2.2.2 }
def KB (D : va_G) (A : Nat → Prop) (w : va_W) (t : State) : Prop := va_P D vwCl w t.heap ∧ va_D A w
def Con (q : MI) (C Sl : Nat) (avs : List Value) (w0 : va_W) (Q : (Bool → ClassId) → va_W → Prop) : Prop := ∀ (l : Launch) (D : va_G) (ty : Bool → ClassId) (sz : Nat), Met l q.1 (miW q) (miRmK q C Sl) (va_Pc avs (fun U => U.heap.size = sz ∧ va_P D vwCl w0 U.heap ∧ va_K D vwCl [(ty false, .int), (ty true, .int)] U ∧ va_D (fun _ => True) w0 ∧ NW U)) (va_Qv (Q ty) (KB D (va_A w0 sz)) (va_A w0 sz)) C Sl (va_A w0 sz)
def KX (q : MI) (p : Program) (s : State) (m : MethodId) (args : Array Value) (meth : Method) (c : Code) (D : va_G) (ty : Bool → ClassId) : Prop :=
  p.tables.exec = Jvm.exec ∧ c.code = q.2.1 ∧ meth.sig.returnType = q.2.2.2.1 ∧ c.maxLocals = q.2.2.1 ∧ s.vm.findClass q.1.cls = some m.cls ∧ (∀ w ∈ TBL, w.before args s = true) ∧ meth.locks = false ∧ meth.name = "<init>" ∧ va_K D vwCl [(ty false, .int), (ty true, .int)] s ∧ NW s
def Kv (q : MI) (C Sl : Nat) (w0 : va_W) (ll : List (Nat × Value)) (D : va_G) (ty : Bool → ClassId) (Q : va_W → Prop) (pc : Nat) (st : List Value) (k n : Nat) (ws : va_W) : Prop :=
  ∀ (p : Program) (l : Launch) (e : Env) (s : State) (m : MethodId) (args : Array Value) (below : List Frame) (meth : Method) (c : Code) (H : Heap) (locs : List Loc) (lsA : Array Slot),
    KX q p s m args meth c D ty → va_P D vwCl ws H → va_D (va_A w0 s.heap.size) ws → va_S (va_A w0 s.heap.size) s.heap H locs → lv_has lsA q.2.2.1 ll →
    W p l e (miRmK q C Sl) s m args below meth c H locs k n (MQ below (va_Qv Q (KB D (va_A w0 s.heap.size)) (va_A w0 s.heap.size)) args s C Sl (va_A w0 s.heap.size)) (F0 m pc lsA st)
theorem Con.of {q : MI} {C Sl : Nat} {avs : List Value} {w0 : va_W} {Q : (Bool → ClassId) → va_W → Prop} (hp : plainName q.1.cls = true) (hi : q.1.name = "<init>") (hn : (lg_sl avs).length ≤ q.2.2.1) (k : ∀ D ty, Kv q C Sl w0 (lv_args 0 avs) D ty (Q ty) 0 [] 0 0 w0) : Con q C Sl avs w0 Q := by
  intro l D ty sz
  refine Met.ofW (cc := q.2.1) (maxL := q.2.2.1) (ret := q.2.2.2.1) hp rfl ?_
  intro p e s m args below meth c s₁ B hml hv
  obtain ⟨hargs, hsz, hP, hK, hD, hN⟩ := hv
  subst hsz
  have hts := atoms_spec (ws := miW q) B.pre
  have h0 := lv_entry avs (n := q.2.2.1) hn
  have hin : meth.name = "<init>" := (name_of_methodNamed B.named B.method).1.trans hi
  rw [hargs, lg_entry_eq, ← hargs]
  exact k D ty p l e s m args below meth c s.heap [] _ ⟨B.exec, B.bytes, B.returns, hml, findClass_of_methodNamed B.named, fun w h => hts w (List.mem_cons_of_mem _ h), B.notSynchronized, hin, hK, hN⟩ hP hD.self va_S.rf h0
section KV
variable {q : MI} {C Sl : Nat} {w0 : va_W} {ll : List (Nat × Value)} {D : va_G} {ty : Bool → ClassId} {Q : va_W → Prop} {pc np : Nat} {st : List Value} {k n : Nat} {ws : va_W}
theorem kv_aload0 {h : Nat} (hd : decode q.2.1 pc = .ok (.aload_n 0, 1)) (h0 : ll[0]? = some (0, .ref h)) (hn : pc + 1 = np) (kk : Kv q C Sl w0 ll D ty Q np (.ref h :: st) k n ws) : Kv q C Sl w0 ll D ty Q pc st k n ws := by
  subst hn
  intro p l e s m args below meth c H locs lsA hc hP hD hS hL
  exact lv_aload_n hc.1 hc.2.1 hd rfl (lv_at hL 0 h0) (kk p l e s m args below meth c H locs lsA hc hP hD hS hL)
theorem kv_iload1 {v : Int32} (hd : decode q.2.1 pc = .ok (.iload_n 1, 1)) (h0 : ll[1]? = some (1, .int v)) (hn : pc + 1 = np) (kk : Kv q C Sl w0 ll D ty Q np (.int v :: st) k n ws) : Kv q C Sl w0 ll D ty Q pc st k n ws := by
  subst hn
  intro p l e s m args below meth c H locs lsA hc hP hD hS hL
  exact lv_iload_n hc.1 hc.2.1 hd rfl (lv_at hL 1 h0) (kk p l e s m args below meth c H locs lsA hc hP hD hS hL)
theorem kv_iconst {x : Int} {v : Int32} (hd : decode q.2.1 pc = .ok (.iconst x, 1)) (hv : Int32.ofInt x = v) (hn : pc + 1 = np) (kk : Kv q C Sl w0 ll D ty Q np (.int v :: st) k n ws) : Kv q C Sl w0 ll D ty Q pc st k n ws := by
  subst hn
  intro p l e s m args below meth c H locs lsA hc hP hD hS hL
  exact lv_iconst hc.1 hc.2.1 hd hv (kk p l e s m args below meth c H locs lsA hc hP hD hS hL)
theorem kv_bipush {x : Int} {v : Int32} (hd : decode q.2.1 pc = .ok (.bipush x, 2)) (hv : (Int8.ofInt x).toInt32 = v) (hn : pc + 2 = np) (kk : Kv q C Sl w0 ll D ty Q np (.int v :: st) k n ws) : Kv q C Sl w0 ll D ty Q pc st k n ws := by
  subst hn
  intro p l e s m args below meth c H locs lsA hc hP hD hS hL
  exact lv_bipush hc.1 hc.2.1 hd hv (kk p l e s m args below meth c H locs lsA hc hP hD hS hL)
theorem kv_sipush {x : Int} {v : Int32} (hd : decode q.2.1 pc = .ok (.sipush x, 3)) (hv : (Int16.ofInt x).toInt32 = v) (hn : pc + 3 = np) (kk : Kv q C Sl w0 ll D ty Q np (.int v :: st) k n ws) : Kv q C Sl w0 ll D ty Q pc st k n ws := by
  subst hn
  intro p l e s m args below meth c H locs lsA hc hP hD hS hL
  exact lv_sipush hc.1 hc.2.1 hd hv (kk p l e s m args below meth c H locs lsA hc hP hD hS hL)
theorem kv_dup {a : Nat} (hd : decode q.2.1 pc = .ok (.dup, 1)) (hn : pc + 1 = np) (kk : Kv q C Sl w0 ll D ty Q np (.ref a :: .ref a :: st) k n ws) : Kv q C Sl w0 ll D ty Q pc (.ref a :: st) k n ws := by
  subst hn
  intro p l e s m args below meth c H locs lsA hc hP hD hS hL
  exact lv_dup hc.1 hc.2.1 hd rfl (kk p l e s m args below meth c H locs lsA hc hP hD hS hL)
theorem kv_obj {a idx : Nat} (hd : decode q.2.1 pc = .ok (.invokespecial idx, 3)) (w1 : Cond.methodLink q.1.cls idx Lib.objectInit ∈ TBL) (w2 : Cond.instanceMethod Lib.objectInit ∈ TBL) (w3 : Cond.code Lib.objectInit ⟨#[0xb1]⟩ 1 none ∈ TBL) (r1 : 1 ≤ q.2.2.2.2.1) (r2 : 12 ≤ q.2.2.2.2.2) (hn : pc + 3 = np) (kk : Kv q C Sl w0 ll D ty Q np [] k n ws) : Kv q C Sl w0 ll D ty Q pc [.ref a] k n ws := by
  subst hn
  intro p l e s m args below meth c H locs lsA hc hP hD hS hL
  have hts := hc.2.2.2.2.2.1
  refine W.objInit hc.1 hc.2.1 hc.2.2.2.2.1 (hts _ w1) (hts _ w2) (hts _ w3) rfl (by rw [hc.2.2.2.1]; exact hL.1) rfl hd r1 ?_ ?_
  · simpa using r2
  · exact W.eq (g2 := F0 m (pc + 3) lsA []) rfl (kk p l e s m args below meth c H locs lsA hc hP hD hS hL)
theorem kv_new {ci N idx : Nat} {K : String} {T : u_T} {ty0 : Nat → FieldType} {fs : List Value} (hd : decode q.2.1 pc = .ok (.new idx, 3)) (hci : vwCl[ci]? = some (K, T, N)) (hu : ∀ w ∈ u_ws K T N, w ∈ TBL) (hty : ∀ k, k < N → parseFieldDescriptor (T k).2.2.1 = some (ty0 k)) (w1 : Cond.classLink q.1.cls idx K ∈ TBL) (w2 : Cond.instantiable K N ∈ TBL) (w3 : Cond.initialized K ∈ TBL) (hfs : ∀ j, j < N → defaultValue (ty0 j) = vp_V fs j) (hk : k + 1 ≤ C) (hs : n + N ≤ Sl) (hn : pc + 3 = np) (kk : ∀ a : Nat, Kv q C Sl w0 ll D ty Q np (.ref a :: st) (k + 1) (n + N) (ws ++ [(a, .inr (ci, fs))])) : Kv q C Sl w0 ll D ty Q pc st k n ws := by
  subst hn
  intro p l e s m args below meth c H locs lsA hc hP hD hS hL
  have hts := hc.2.2.2.2.2.1
  exact va_new (ci := ci) (fs := fs) (C := K) (T := T) (N := N) (Ts := TBL) hc.1 hc.2.1 hts hu ty0 hty hc.2.2.2.2.1 (hts _ w1) (hts _ w2) (hts _ w3) hc.2.2.2.2.2.2.2.2.1 hP hD hS (fun x h => Or.inr h) hci hfs hk hs hd (fun a H1 hP1 hD1 hS1 => kk a p l e s m args below meth c H1 locs lsA hc hP1 hD1 hS1 hL)
theorem kv_newI {v : Int32} {N : Nat} (hd : decode q.2.1 pc = .ok (.newarray .int, 2)) (w1 : Cond.arrayClass .int ∈ TBL) (hv : ¬ v < 0) (hN : v.toNatClampNeg = N) (hb : N * 4 ≤ 536870912) (hk : k + 1 ≤ C) (hs : n + N ≤ Sl) (hn : pc + 2 = np) (kk : ∀ a : Nat, Kv q C Sl w0 ll D ty Q np (.ref a :: st) (k + 1) (n + N) (ws ++ [(a, .inl (ty false, N, .inl (fun _ => 0)))])) : Kv q C Sl w0 ll D ty Q pc (.int v :: st) k n ws := by
  subst hn
  intro p l e s m args below meth c H locs lsA hc hP hD hS hL
  have hts := hc.2.2.2.2.2.1
  have hK := hc.2.2.2.2.2.2.2.2.1
  refine va_newa (atype := .int) hc.1 hc.2.1 (hts _ w1) (ty := .int) rfl hK hP hD hS (fun x h => Or.inr h) (N' := N) (a0 := (N, .inl (fun _ => 0))) (fun cA => rfl) hv hN hb hk hs hd (fun a cA H1 hK1 hP1 hD1 hS1 => ?_)
  have e1 := (hK.2 0 _ rfl).2
  have e2 := (hK1.2 2 _ rfl).2
  have e : cA = ty false := by
    have e1 : s.vm.findClass ("[" ++ FieldType.int.toString) = some (ty false) := e1
    have e2 : s.vm.findClass ("[" ++ FieldType.int.toString) = some cA := e2
    rw [e1] at e2
    exact (Option.some.inj e2).symm
  subst e
  exact kk a p l e s m args below meth c H1 locs lsA hc hP1 hD1 hS1 hL
theorem kv_putF {ci i N idx q0 a : Nat} {K : String} {T : u_T} {ty0 : Nat → FieldType} {t0 : FieldType} {fs : List Value} {v : Value} (hd : decode q.2.1 pc = .ok (.putfield idx, 3)) (hci : vwCl[ci]? = some (K, T, N)) (hu : ∀ w ∈ u_ws K T N, w ∈ TBL) (hty : ∀ k, k < N → parseFieldDescriptor (T k).2.2.1 = some (ty0 k)) (hnm : ∀ a, a < N → ∀ b, b < N → a ≠ b → (T a).2.1 ≠ (T b).2.1) (w1 : Cond.fieldLink q.1.cls idx q.1.cls (T i).2.1 (T i).2.2.1 ∈ TBL) (hi : i < N) (hf : (T i).2.2.2 = true) (hdc : (T i).1 = q.1.cls) (ht : parseFieldDescriptor (T i).2.2.1 = some t0) (h1 : narrow t0 v = v) (h2 : fits t0 v = true) (he : ws[q0]? = some (a, .inr (ci, fs))) (hl : i < fs.length) (hn : pc + 3 = np) (kk : Kv q C Sl w0 ll D ty Q np st k n (ws.set q0 (a, .inr (ci, fs.set i v)))) : Kv q C Sl w0 ll D ty Q pc (v :: .ref a :: st) k n ws := by
  subst hn
  intro p l e s m args below meth c H locs lsA hc hP hD hS hL
  have hts := hc.2.2.2.2.2.1
  exact va_putF (D := D) (ci := ci) (v := v) (ty := t0) (C := K) (T := T) (N := N) (Ts := TBL) hc.1 hc.2.1 hts hu ty0 hty hnm hc.2.2.2.2.1 hc.2.2.2.2.2.2.2.2.1 hP hD hS q0 he hci i hi (ref := q.1.cls) (hts _ w1) (fun x h9 => by rw [hdc] at h9; exact h9) hf hc.2.2.2.2.2.2.2.1 hdc ht h1 h2 hl hd (fun H1 locs1 hP1 hD1 hS1 => kk p l e s m args below meth c H1 locs1 lsA hc hP1 hD1 hS1 hL)
theorem kv_ret (hd : decode q.2.1 pc = .ok (.return_, 1)) (hr : q.2.2.2.1 = none) (hq : Q ws) : Kv q C Sl w0 ll D ty Q pc [] C Sl ws := by
  intro p l e s m args below meth c H locs lsA hc hP hD hS hL
  exact W.vret hc.1 hc.2.1 (hc.2.2.1.trans hr) (fun t ht hW => ⟨⟨ws, rfl, hq, by rw [ht]; exact hP, hD⟩, hS.F ht⟩) hS.2.2 hd hc.2.2.2.2.2.2.1
end KV
