/-! THE FRAME: a pure picture of a world whose shape stands fast: cells by name, whole numbers in them; 'Ev': from here on the method ends so; 'Sem': a method's contract in these words. -/
abbrev Cc : Type := Nat ⊕ ((Fin 4 × Nat) ⊕ (Fin 3 × Nat))
abbrev Val : Type := Int ⊕ Cc
abbrev Sh : Type := (Bool × Nat) ⊕ (Nat × List (Option Cc))
abbrev Sy : Type := (Cc → Option Sh) × List Cc
abbrev Mem : Type := Cc → Nat → Int
abbrev Rng (x : Int) : Prop := -2147483648 ≤ x ∧ x < 2147483648
def TBL : List Cond := lw_tbl.filter goodWord
theorem gdT : GoodIn TBL TBL := fun w h => ⟨h, good_of_word (List.mem_filter.mp h).2⟩
theorem inTb {w : Cond} (h : w ∈ tables_1) (g : goodWord w = true) : w ∈ TBL := List.mem_filter.mpr ⟨List.mem_append_right _ h, g⟩
theorem inT1 {w : Cond} (i : Nat) (h : tables_1_1[i]? = some w) (g : goodWord w = true) : w ∈ TBL := inTb (List.mem_append_left _ (List.mem_of_getElem? h)) g
theorem inT2 {w : Cond} (i : Nat) (h : tables_1_2[i]? = some w) (g : goodWord w = true) : w ∈ TBL := inTb (List.mem_append_right _ (List.mem_append_left _ (List.mem_of_getElem? h))) g
theorem inT3 {w : Cond} (i : Nat) (h : tables_1_3[i]? = some w) (g : goodWord w = true) : w ∈ TBL := inTb (List.mem_append_right _ (List.mem_append_right _ (List.mem_of_getElem? h))) g
theorem inTp {y : MethodName} {n : Nat} (i : Nat) (h : lw_privs[i]? = some (y, n)) (g : goodWord (Cond.selects y.cls y y) = true) : Cond.selects y.cls y y ∈ TBL := List.mem_filter.mpr ⟨List.mem_append_left _ (List.mem_map.mpr ⟨(y, n), List.mem_of_getElem? h, rfl⟩), g⟩
/-- the links of nest mates' private members: own class, place, method, host -/
def nestL : List (String × Nat × MethodName × String) := tables_1.filterMap (fun w => match w with | .methodLinkNest a i x h => some (a, i, x, h) | _ => none)
def NW (U : State) : Prop := ∀ q ∈ nestL, va_Nw (.methodLinkNest q.1 q.2.1 q.2.2.1 q.2.2.2) U
theorem NW.warm {s U : State} (hW : s.WarmedH U.vm) (h : NW s) : NW U := fun q hq => (h q hq).warmM hW
theorem NW.same {s U : State} (e : s.vm = U.vm) (h : NW s) : NW U := fun q hq => (h q hq).same rfl e
theorem NW.of {s : State} {args : Array Value} (h : ∀ w ∈ tables_1, w.before args s = true) : NW s := by
  intro q hq
  obtain ⟨w, hw, he⟩ := List.mem_filterMap.mp hq
  have h1 := h w hw
  split at he
  · cases he
    exact va_Nw.of rfl h1
  · cases he
/-- a method: its name, code, locals, answer; frames and locals below it -/
abbrev MI : Type := MethodName × ByteArray × Nat × Option FieldType × Nat × Nat
def miW (q : MI) : List Cond := .code q.1 q.2.1 q.2.2.1 q.2.2.2.1 :: TBL
abbrev miRm (q : MI) : Room := { frames := q.2.2.2.2.1, cells := 0, slots := 0, locals := q.2.2.2.2.2 }
def cvv (ad : Cc → Nat) : Val → Value
  | .inl x => .int (Int32.ofInt x)
  | .inr c => .ref (ad c)
def enF (ad : Cc → Nat) (M : Mem) (c : Cc) (k : Nat) : Option Cc → Value
  | none => .int (Int32.ofInt (M c k))
  | some d => .ref (ad d)
def enS (ad : Cc → Nat) (ty : Bool → ClassId) (M : Mem) (c : Cc) : Option Sh → va_E
  | some (.inl (b, n)) => .inl (ty b, n, .inl (fun j => Int32.ofInt (M c j)))
  | some (.inr (ci, fl)) => .inr (ci, fl.mapIdx (enF ad M c))
  | none => .inr (0, [])
def wl (S : Sy) (ad : Cc → Nat) (ty : Bool → ClassId) (M : Mem) : va_W := S.2.map (fun c => (ad c, enS ad ty M c (S.1 c)))
def AA (S : Sy) (ad : Cc → Nat) (sz : Nat) : Nat → Prop := fun q => (∃ c, c ∈ S.2 ∧ ad c = q) ∨ sz ≤ q
def SyOk (S : Sy) : Prop := S.2.Nodup ∧ ∀ c, S.1 c ≠ none → c ∈ S.2
def updM (M : Mem) (c : Cc) (k : Nat) (v : Int) : Mem := fun d j => if d = c ∧ j = k then v else M d j
theorem wl_at {S : Sy} {ad : Cc → Nat} {ty : Bool → ClassId} {M : Mem} {c : Cc} {k : Nat} (h : S.2[k]? = some c) : (wl S ad ty M)[k]? = some (ad c, enS ad ty M c (S.1 c)) := by
  simp [wl, h]
theorem wl_ix {S : Sy} (ok : SyOk S) {c : Cc} {x : Sh} (h : S.1 c = some x) : ∃ k : Nat, S.2[k]? = some c := List.getElem?_of_mem (ok.2 c (by rw [h]; exact fun z => by cases z))
theorem wl_set {S : Sy} (ok : SyOk S) {ad : Cc → Nat} {ty : Bool → ClassId} {M M' : Mem} {c : Cc} {k : Nat} (h : S.2[k]? = some c) (hm : ∀ d, d ≠ c → enS ad ty M' d (S.1 d) = enS ad ty M d (S.1 d)) {e : va_E} (he : e = enS ad ty M' c (S.1 c)) : (wl S ad ty M).set k (ad c, e) = wl S ad ty M' := by
  subst he
  apply List.ext_getElem?
  intro i
  rw [List.getElem?_set]
  by_cases hi : k = i
  · subst hi
    have hl : k < (wl S ad ty M).length := by
      have := (List.getElem?_eq_some_iff.mp h).1
      simpa [wl] using this
    rw [if_pos rfl, if_pos hl, wl_at h]
  · rw [if_neg hi]
    cases hc : S.2[i]? with
    | none => simp [wl, hc]
    | some d =>
      rw [wl_at hc, wl_at hc, hm d]
      intro hd
      subst hd
      obtain ⟨a1, b1⟩ := List.getElem?_eq_some_iff.mp h
      obtain ⟨a2, b2⟩ := List.getElem?_eq_some_iff.mp hc
      exact hi ((List.getElem_inj ok.1).mp (b1.trans b2.symm))
theorem wl_map (S : Sy) (ad : Cc → Nat) (ty : Bool → ClassId) (M : Mem) (k : Nat) (q : Nat × va_E) (h : (wl S ad ty M)[k]? = some q) : ∃ c : Cc, S.2[k]? = some c ∧ q.1 = ad c := by
  simp only [wl, List.getElem?_map] at h
  cases hc : S.2[k]? with
  | none => rw [hc] at h; cases h
  | some c =>
    rw [hc] at h
    cases h
    exact ⟨c, rfl, rfl⟩
theorem wl_D {S : Sy} {ad : Cc → Nat} {ty : Bool → ClassId} {M M' : Mem} {A A' : Nat → Prop} (h : va_D A (wl S ad ty M)) (hA : ∀ c, c ∈ S.2 → A' (ad c)) : va_D A' (wl S ad ty M') := by
  refine ⟨fun i j p q hp hq hpq => ?_, fun k q hk => ?_⟩
  · obtain ⟨c, h1, e1⟩ := wl_map _ _ _ _ _ _ hp
    obtain ⟨d, h2, e2⟩ := wl_map _ _ _ _ _ _ hq
    exact h.1 i j _ _ (wl_at (M := M) h1) (wl_at (M := M) h2) (by rw [← e1, ← e2]; exact hpq)
  · obtain ⟨c, h1, e1⟩ := wl_map _ _ _ _ _ _ hk
    rw [e1]
    exact hA c (List.mem_of_getElem? h1)
theorem enS_upd {S : Sy} {ad : Cc → Nat} {ty : Bool → ClassId} {M : Mem} {c : Cc} {k : Nat} {v : Int} (d : Cc) (hd : d ≠ c) : enS ad ty (updM M c k v) d (S.1 d) = enS ad ty M d (S.1 d) := by
  have e : ∀ j, updM M c k v d j = M d j := fun j => by simp [updM, hd]
  cases S.1 d with
  | none => rfl
  | some x =>
    rcases x with ⟨b, n⟩ | ⟨ci, fl⟩
    · simp [enS, e]
    · have : enF ad (updM M c k v) d = enF ad M d := by
        funext k o
        cases o with
        | none => simp [enF, e]
        | some q => rfl
      simp [enS, this]
def QcS (S : Sy) (ad : Cc → Nat) (D : va_G) (ty : Bool → ClassId) (sz : Nat) (Q : Option Val → Mem → Prop) : Array Value → State → Outcome → State → Prop := fun _ st o t =>
  (∃ v M', o = .returned (v.map (cvv ad)) ∧ Q v M' ∧ va_P D vwCl (wl S ad ty M') t.heap) ∧ va_F (AA S ad sz) st t
def PcS (S : Sy) (ad : Cc → Nat) (D : va_G) (ty : Bool → ClassId) (sz : Nat) (As : List Val) (M : Mem) : Array Value → State → Prop :=
  va_Pc (As.map (cvv ad)) (fun U => U.heap.size = sz ∧ va_P D vwCl (wl S ad ty M) U.heap ∧ va_K D vwCl [(ty false, .int), (ty true, .int)] U ∧ va_D (fun _ => True) (wl S ad ty M) ∧ NW U)
def Sem (S : Sy) (q : MI) (As : List Val) (M : Mem) (Q : Option Val → Mem → Prop) : Prop :=
  ∀ (l : Launch) (ad : Cc → Nat) (D : va_G) (ty : Bool → ClassId) (sz : Nat), Met l q.1 (miW q) (miRm q) (PcS S ad D ty sz As M) (QcS S ad D ty sz Q) 0 0 (AA S ad sz)
def lk : List (Option Val) → Nat → Option Val
  | [], _ => none
  | a :: _, 0 => a
  | _ :: t, n + 1 => lk t n
def stL : List (Option Val) → Nat → Val → List (Option Val)
  | [], _, _ => []
  | _ :: t, 0, v => some v :: t
  | a :: t, n + 1, v => a :: stL t n v
theorem lk_st : ∀ (l : List (Option Val)) (i : Nat) (v : Val) (j : Nat) (w : Val), lk (stL l i v) j = some w → (j = i ∧ w = v) ∨ (j ≠ i ∧ lk l j = some w)
  | [], _, _, _, _, h => by simp [stL, lk] at h
  | _ :: t, 0, v, 0, w, h => by simp [stL, lk] at h; exact Or.inl ⟨rfl, h.symm⟩
  | _ :: t, 0, v, j + 1, w, h => Or.inr ⟨by omega, h⟩
  | a :: t, n + 1, v, 0, w, h => Or.inr ⟨by omega, h⟩
  | a :: t, n + 1, v, j + 1, w, h => by
    rcases lk_st t n v j w h with ⟨e, f⟩ | ⟨e, f⟩
    · exact Or.inl ⟨by omega, f⟩
    · exact Or.inr ⟨by omega, f⟩
theorem lk_lt : ∀ (l : List (Option Val)) (j : Nat) (w : Val), lk l j = some w → j < l.length
  | [], _, _, h => by simp [lk] at h
  | _ :: t, 0, _, _ => by simp
  | _ :: t, j + 1, w, h => by have := lk_lt t j w h; simp; omega
def LH (ad : Cc → Nat) (lsA : Array Slot) (n : Nat) (ls : List (Option Val)) : Prop := lsA.size = n ∧ lv_wf lsA ∧ ∀ i v, lk ls i = some v → lsA[i]? = some (.val (cvv ad v))
def lvl (ad : Cc → Nat) (ls : List (Option Val)) : List (Nat × Value) := (List.range ls.length).filterMap (fun j => (lk ls j).map (fun v => (j, cvv ad v)))
theorem LH.has {ad : Cc → Nat} {lsA : Array Slot} {n : Nat} {ls : List (Option Val)} (h : LH ad lsA n ls) : lv_has lsA n (lvl ad ls) := by
  refine ⟨h.1, h.2.1, fun q hq => ?_⟩
  obtain ⟨j, -, hj⟩ := List.mem_filterMap.mp hq
  cases hk : lk ls j with
  | none => rw [hk] at hj; cases hj
  | some v =>
    rw [hk] at hj
    cases hj
    exact h.2.2 j v hk
theorem cvv_cat (ad : Cc → Nat) (v : Val) : (cvv ad v).category = 1 := by cases v <;> rfl
theorem LH.set {ad : Cc → Nat} {ls' : Array Slot} {n : Nat} {ls : List (Option Val)} {i : Nat} {v : Val} (hv : lv_has ls' n ((i, cvv ad v) :: (lvl ad ls).filter (fun q => !(q.1 == i) && !(q.1 + 1 == i && q.2.category == 2)))) : LH ad ls' n (stL ls i v) := by
  refine ⟨hv.1, hv.2.1, fun j w hj => ?_⟩
  rcases lk_st ls i v j w hj with ⟨e, f⟩ | ⟨e, f⟩
  · subst e; subst f
    exact hv.2.2 (j, cvv ad w) List.mem_cons_self
  · refine hv.2.2 (j, cvv ad w) (List.mem_cons_of_mem _ (List.mem_filter.mpr ⟨List.mem_filterMap.mpr ⟨j, List.mem_range.mpr (lk_lt _ _ _ f), by rw [f]; rfl⟩, ?_⟩))
    simp [e, cvv_cat]
/-- what stands fast while a method runs -/
def CX (S : Sy) (q : MI) (p : Program) (s : State) (m : MethodId) (args : Array Value) (meth : Method) (c : Code) (D : va_G) (ty : Bool → ClassId) : Prop :=
  p.tables.exec = Jvm.exec ∧ c.code = q.2.1 ∧ meth.sig.returnType = q.2.2.2.1 ∧ c.maxLocals = q.2.2.1 ∧ s.vm.findClass q.1.cls = some m.cls ∧ (∀ w ∈ TBL, w.before args s = true) ∧ meth.locks = false ∧ va_K D vwCl [(ty false, .int), (ty true, .int)] s ∧ NW s ∧ SyOk S
def Ev (S : Sy) (q : MI) (pc : Nat) (ls : List (Option Val)) (st : List Val) (M : Mem) (Q : Option Val → Mem → Prop) : Prop :=
  ∀ (p : Program) (l : Launch) (e : Env) (s : State) (m : MethodId) (args : Array Value) (below : List Frame) (meth : Method) (c : Code) (ad : Cc → Nat) (D : va_G) (ty : Bool → ClassId) (H : Heap) (locs : List Loc) (lsA : Array Slot),
    CX S q p s m args meth c D ty → va_P D vwCl (wl S ad ty M) H → va_D (AA S ad s.heap.size) (wl S ad ty M) → va_S (AA S ad s.heap.size) s.heap H locs → LH ad lsA q.2.2.1 ls →
    W p l e (miRm q) s m args below meth c H locs 0 0 (MQ below (QcS S ad D ty s.heap.size Q) args s 0 0 (AA S ad s.heap.size)) (F0 m pc lsA (st.map (cvv ad)))
