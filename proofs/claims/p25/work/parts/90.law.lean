/-! THE LAW: its end (the starting text), its world, its rows -/
def R_law : String := "TickCircuitsLaw"
def lw_P (b : Addr) (xs : List Int32) (args : Array Value) (s : State) : Prop := args = #[.ref b] ∧ s.IntsAt b xs ∧ xs.length ≤ 260 ∧ (Jvm.Cond.and given_1 narrow_1).before args s = true
def lw_Q (_ : Array Value) (s : State) (o : Outcome) (t : State) : Prop := o = .returned (some (.int 1)) ∧ Framed s o t [] 600000 7302250
def lw_Z (below : List Frame) (a : Array Value) (s : State) : State → Prop := fun t => ∃ o, t.status = .running ∧ Ended t below o ∧ lw_Q a s o t
/-- the law's own end, with 1 on the stack, nothing written that was there before, its room as the claim has it -/
theorem lw_ret {p : Program} {l : Launch} {e : Env} {s : State} {m : MethodId} {below : List Frame} {meth : Method} {c : Code} {b : Nat} (hx : p.tables.exec = Jvm.exec) (hb : c.code = code) (hr : meth.sig.returnType = ret) (hlocks : meth.locks = false) {pc : Nat} {H : Heap} {ls : Array Slot} (hdg : decode code pc = .ok (.ireturn, 1)) : W p l e room_1 s m #[Value.ref b] below meth c H [] 600000 7302250 (lw_Z below #[Value.ref b] s) (F0 m pc ls [.int 1]) := by
  intro T hT X
  obtain ⟨fs, hret, hrun, hended, hW, hframe⟩ := X.leave (v := some (.int 1)) (hlocks := hlocks) (fun h => by rw [hr] at h; cases h)
  have hmeth' : T.vm.method? m = some meth := X.method'
  refine ⟨T.setFrames fs, ?_, .returned (some (.int 1)), hrun, hended, rfl, ⟨_, rfl⟩, hW, hframe⟩
  jvm_step X.here [X.here.top, hx, hb, hdg, hmeth', hr, ret, narrow_b1]
  (try refine ⟨rfl, ?_⟩); (try refine ⟨rfl, ?_⟩)
  first | (intro acts; rw [hret _ acts rfl rfl rfl]) | rw [hret _ _ rfl rfl rfl]
  exact Steps.refl _
/-- what holds at the law's entry: the machine, the code, the tables' words (any of lw_tbl by 'hts w (by decide +kernel)'), the script of L ints xs at the cell b, what the Statement gives of the start (any of its parts by flat_of_before) -/
def lw_At (p : Program) (s : State) (m : MethodId) (meth : Method) (c : Code) (b L : Nat) (xs : Nat → Int32) : Prop :=
  p.tables.exec = Jvm.exec ∧ c.code = code ∧ meth.sig.returnType = ret ∧ c.maxLocals = 5 ∧ s.vm.findClass R_law = some m.cls ∧ (∀ w ∈ lw_tbl, w.before #[Value.ref b] s = true) ∧ va_X b L xs s s.heap ∧ b < s.heap.size ∧ meth.locks = false ∧ (Jvm.Cond.and given_1 narrow_1).before #[Value.ref b] s = true
abbrev miL : MI := (x, code, 5, ret, 11, 454)
abbrev miC : MI := (yL_cell, cL_cell, 2, some .int, 0, 0)
theorem lw_tb {s : State} {b : Nat} (h : ∀ w ∈ lw_tbl, w.before #[Value.ref b] s = true) : ∀ w ∈ TBL, w.before #[Value.ref b] s = true := fun w hw => h w (List.mem_filter.mp hw).1
theorem lc_in {L k : Nat} (hL : L ≤ 260) (h : k < L) : vp_in (Int32.ofInt (k : Int)) L ∧ (Int32.ofInt (k : Int)).toNatClampNeg = k := by
  rw [iNn k]
  exact ⟨nI_in h (by omega), nI_clamp (by omega)⟩
/-- cell(s, k): no number below 0, nothing changed -/
theorem c_cell (l : Launch) (b L sz : Nat) (xs : Nat → Int32) (hL : L ≤ 260) (k : Nat) (hk : k < 64) : Met l yL_cell (miW miC) (miRm miC) (va_Pc [.ref b, .int (Int32.ofInt (k : Int))] (fun U => U.heap.size = sz ∧ va_X b L xs U U.heap ∧ b < U.heap.size)) (va_Qi (fun r (y : Nat) => r = Int32.ofInt (y : Int) ∧ y < 2147483648) (fun _ _ => True) (fun q => sz ≤ q)) 0 0 (fun q => sz ≤ q) := by
  refine Met.ofW (cc := cL_cell) (maxL := 2) (ret := (some .int)) (by decide) rfl ?_
  intro p e s m args below meth c s₁ B hml hv
  obtain ⟨rfl, hsz, hX, hbl⟩ := hv
  have hx := B.exec
  have hb := B.bytes
  have hr := B.returns
  have hts := atoms_spec (ws := miW miC) B.pre
  have hown : s.vm.findClass RL = some m.cls := findClass_of_methodNamed B.named
  have hlocks := B.notSynchronized
  subst hsz
  have hS : va_S (fun q => s.heap.size ≤ q) s.heap s.heap [] := va_S.rf
  have hl := lv_entry ([.ref b, .int (Int32.ofInt (k : Int))]) (n := 2) (Nat.le_of_ble_eq_true rfl)
  rw [lg_entry_eq]
  generalize (lg_sl ([.ref b, .int (Int32.ofInt (k : Int))]) ++ List.replicate (2 - (lg_sl ([.ref b, .int (Int32.ofInt (k : Int))])).length) Slot.unset).toArray = ls at hl ⊢
  have hl : lv_has ls 2 [(0, .ref b), (1, .int (Int32.ofInt (k : Int)))] := hl
  have tl : ∀ v : Int32, W p l e (miRm miC) s m #[Value.ref b, Value.int (Int32.ofInt (k : Int))] below meth c s.heap [] 0 0 (MQ below (va_Qi (fun r (y : Nat) => r = Int32.ofInt (y : Int) ∧ y < 2147483648) (fun _ _ => True) (fun q => s.heap.size ≤ q)) #[Value.ref b, Value.int (Int32.ofInt (k : Int))] s 0 0 (fun q => s.heap.size ≤ q)) (F0 m 19 ls [.int v]) := by
    intro v
    refine lv_ldc hx hb hown (hts _ (List.mem_cons_of_mem _ (inT2 188 rfl rfl))) dL_cell_19 ?_
    refine lv_iand hx hb dL_cell_21 ?_
    refine W.iret (v := v &&& 2147483647) hx hb hr (fun t ht hW => ⟨⟨_, (v.toInt % 2147483648).toNat, rfl, ⟨?_, by omega⟩, trivial⟩, hS.F ht⟩) hS.2.2 dL_cell_22
    have h := fx_mask v.toInt 31 (by decide)
    rw [Int32.ofInt_toInt] at h
    have e : v &&& 2147483647 = Int32.ofInt (v.toInt % ((2 ^ 31 : Nat) : Int)) := h
    rw [e]
    refine congrArg Int32.ofInt ?_
    show v.toInt % 2147483648 = _
    omega
  refine lv_iload_n hx hb dL_cell_0 rfl (lv_at hl 1 rfl) ?_
  refine lv_aload_n hx hb dL_cell_1 rfl (lv_at hl 0 rfl) ?_
  refine va_slen (A := fun q => s.heap.size ≤ q) hx hb hX hbl (Nat.not_le.mpr hbl) hS dL_cell_2 ?_
  refine lv_icmp_ge (tgt := 12) hx hb dL_cell_3 (by decide) (fun h => ?_) (fun h => ?_)
  · refine lv_ldc hx hb hown (hts _ (List.mem_cons_of_mem _ (inT2 187 rfl rfl))) dL_cell_12 ?_
    refine lv_iload_n hx hb dL_cell_14 rfl (lv_at hl 1 rfl) ?_
    refine lv_bipush (v := 113) hx hb dL_cell_15 (by decide) ?_
    refine lv_iadd hx hb dL_cell_17 ?_
    refine lv_imul hx hb dL_cell_18 ?_
    exact tl _
  · have hlt : k < L := by
      apply Classical.byContradiction
      intro q
      have h2 : Int32.ofInt (L : Int) ≤ Int32.ofInt (k : Int) := (i32_le ⟨by omega, by omega⟩ ⟨by omega, by omega⟩).mpr (by omega)
      rw [iNn L] at h2
      exact h h2
    refine lv_aload_n hx hb dL_cell_6 rfl (lv_at hl 0 rfl) ?_
    refine lv_iload_n hx hb dL_cell_7 rfl (lv_at hl 1 rfl) ?_
    refine va_sld (A := fun q => s.heap.size ≤ q) hx hb hX hbl (Nat.not_le.mpr hbl) hS (lc_in hL hlt).1 dL_cell_8 ?_
    refine lv_goto (tgt := 19) hx hb dL_cell_9 (by decide) ?_
    exact tl _
/-- what stands fast in the law: the class's world is new; the script is named cX 99 -/
def LwF (p : Program) (s : State) (m : MethodId) (meth : Method) (c : Code) (b L : Nat) (xs : Nat → Int32) (ad : Cc → Nat) (ty : Bool → ClassId) (D : va_G) : Prop :=
  lw_At p s m meth c b L xs ∧ L ≤ 260 ∧ va_K D vwCl [(ty false, .int), (ty true, .int)] s ∧ NW s ∧ va_D (fun q => s.heap.size ≤ q) (wl ST ad ty (fun _ _ => 0)) ∧ ad (cX 99) = b
/-- from here on the law ends with true -/
def Lw (L : Nat) (xs : Nat → Int32) (pc : Nat) (ls : List (Option Val)) (st : List Val) (M : Mem) : Prop :=
  ∀ (p : Program) (l : Launch) (e : Env) (s : State) (m : MethodId) (below : List Frame) (meth : Method) (c : Code) (b : Nat) (ad : Cc → Nat) (ty : Bool → ClassId) (D : va_G) (H : Heap) (locs : List Loc) (lsA : Array Slot),
    LwF p s m meth c b L xs ad ty D → va_P D vwCl (wl ST ad ty M) H → va_S (fun q => s.heap.size ≤ q) s.heap H locs → LH ad lsA 5 ls →
    W p l e room_1 s m #[Value.ref b] below meth c H locs 600000 7302250 (lw_Z below #[Value.ref b] s) (F0 m pc lsA (st.map (cvv ad)))
section LR
variable {L : Nat} {xs : Nat → Int32} {pc np : Nat} {ls : List (Option Val)} {st : List Val} {M : Mem}
theorem lx_goto {off : Int} (hd : decode code pc = .ok (.goto off, 3)) (ht : (pc : Int) + off = (np : Int)) (k : Lw L xs np ls st M) : Lw L xs pc ls st M := by
  intro p l e s m below meth c b ad ty D H locs lsA hF hP hS hL
  obtain ⟨⟨gx, gb, -, -, gown, gts0, -⟩, -⟩ := id hF
  have gts := lw_tb gts0
  exact lv_goto gx gb hd ht (k p l e s m below meth c b ad ty D H locs lsA hF hP hS hL)
theorem lx_iconst {n : Int} (hd : decode code pc = .ok (.iconst n, 1)) (hn : pc + 1 = np) (k : Lw L xs np ls (.inl n :: st) M) : Lw L xs pc ls st M := by
  subst hn
  intro p l e s m below meth c b ad ty D H locs lsA hF hP hS hL
  obtain ⟨⟨gx, gb, -, -, gown, gts0, -⟩, -⟩ := id hF
  have gts := lw_tb gts0
  exact lv_iconst gx gb hd rfl (k p l e s m below meth c b ad ty D H locs lsA hF hP hS hL)
theorem lx_bipush {n : Int} (hd : decode code pc = .ok (.bipush n, 2)) (hv : (Int8.ofInt n).toInt32 = Int32.ofInt n) (hn : pc + 2 = np) (k : Lw L xs np ls (.inl n :: st) M) : Lw L xs pc ls st M := by
  subst hn
  intro p l e s m below meth c b ad ty D H locs lsA hF hP hS hL
  obtain ⟨⟨gx, gb, -, -, gown, gts0, -⟩, -⟩ := id hF
  have gts := lw_tb gts0
  exact lv_bipush gx gb hd hv (k p l e s m below meth c b ad ty D H locs lsA hF hP hS hL)
theorem lx_sipush {n : Int} (hd : decode code pc = .ok (.sipush n, 3)) (hv : (Int16.ofInt n).toInt32 = Int32.ofInt n) (hn : pc + 3 = np) (k : Lw L xs np ls (.inl n :: st) M) : Lw L xs pc ls st M := by
  subst hn
  intro p l e s m below meth c b ad ty D H locs lsA hF hP hS hL
  obtain ⟨⟨gx, gb, -, -, gown, gts0, -⟩, -⟩ := id hF
  have gts := lw_tb gts0
  exact lv_sipush gx gb hd hv (k p l e s m below meth c b ad ty D H locs lsA hF hP hS hL)
theorem lx_ldc {n : Int} (hk : SiteK miL pc n) (hn : pc + 2 = np) (k : Lw L xs np ls (.inl n :: st) M) : Lw L xs pc ls st M := by
  subst hn
  obtain ⟨idx, hw, hd⟩ := hk
  intro p l e s m below meth c b ad ty D H locs lsA hF hP hS hL
  obtain ⟨⟨gx, gb, -, -, gown, gts0, -⟩, -⟩ := id hF
  have gts := lw_tb gts0
  exact lv_ldc gx gb gown (gts _ hw) hd (k p l e s m below meth c b ad ty D H locs lsA hF hP hS hL)
theorem lx_iload_n {i : Fin 4} {x : Int} (hd : decode code pc = .ok (.iload_n i, 1)) (hl : lk ls i = some (.inl x)) (hn : pc + 1 = np) (k : Lw L xs np ls (.inl x :: st) M) : Lw L xs pc ls st M := by
  subst hn
  intro p l e s m below meth c b ad ty D H locs lsA hF hP hS hL
  obtain ⟨⟨gx, gb, -, -, gown, gts0, -⟩, -⟩ := id hF
  have gts := lw_tb gts0
  exact lv_iload_n gx gb hd rfl (hL.2.2 i _ hl) (k p l e s m below meth c b ad ty D H locs lsA hF hP hS hL)
theorem lx_iload {i : Nat} {x : Int} (hd : decode code pc = .ok (.iload i, 2)) (hl : lk ls i = some (.inl x)) (hn : pc + 2 = np) (k : Lw L xs np ls (.inl x :: st) M) : Lw L xs pc ls st M := by
  subst hn
  intro p l e s m below meth c b ad ty D H locs lsA hF hP hS hL
  obtain ⟨⟨gx, gb, -, -, gown, gts0, -⟩, -⟩ := id hF
  have gts := lw_tb gts0
  exact lv_iload gx gb hd (hL.2.2 i _ hl) (k p l e s m below meth c b ad ty D H locs lsA hF hP hS hL)
theorem lx_aload_n {i : Fin 4} {x : Cc} (hd : decode code pc = .ok (.aload_n i, 1)) (hl : lk ls i = some (.inr x)) (hn : pc + 1 = np) (k : Lw L xs np ls (.inr x :: st) M) : Lw L xs pc ls st M := by
  subst hn
  intro p l e s m below meth c b ad ty D H locs lsA hF hP hS hL
  obtain ⟨⟨gx, gb, -, -, gown, gts0, -⟩, -⟩ := id hF
  have gts := lw_tb gts0
  exact lv_aload_n gx gb hd rfl (hL.2.2 i _ hl) (k p l e s m below meth c b ad ty D H locs lsA hF hP hS hL)
theorem lx_istore_n {i : Fin 4} {x : Int} (hd : decode code pc = .ok (.istore_n i, 1)) (hi : (i : Nat) < 5) (hn : pc + 1 = np) (k : Lw L xs np (stL ls i (.inl x)) st M) : Lw L xs pc ls (.inl x :: st) M := by
  subst hn
  intro p l e s m below meth c b ad ty D H locs lsA hF hP hS hL
  obtain ⟨⟨gx, gb, -, -, gown, gts0, -⟩, -⟩ := id hF
  have gts := lw_tb gts0
  exact lv_istore_n gx gb hd rfl hL.has hi rfl (fun ls' hv => k p l e s m below meth c b ad ty D H locs ls' hF hP hS (LH.set (v := .inl x) hv))
theorem lx_istore {i : Nat} {x : Int} (hd : decode code pc = .ok (.istore i, 2)) (hi : i < 5) (hn : pc + 2 = np) (k : Lw L xs np (stL ls i (.inl x)) st M) : Lw L xs pc ls (.inl x :: st) M := by
  subst hn
  intro p l e s m below meth c b ad ty D H locs lsA hF hP hS hL
  obtain ⟨⟨gx, gb, -, -, gown, gts0, -⟩, -⟩ := id hF
  have gts := lw_tb gts0
  exact lv_istore gx gb hd hL.has hi rfl (fun ls' hv => k p l e s m below meth c b ad ty D H locs ls' hF hP hS (LH.set (v := .inl x) hv))
theorem lx_iinc {i : Nat} {n x : Int} (hd : decode code pc = .ok (.iinc i n, 3)) (hl : lk ls i = some (.inl x)) (hi : i < 5) (hn : pc + 3 = np) (k : Lw L xs np (stL ls i (.inl (x + n))) st M) : Lw L xs pc ls st M := by
  subst hn
  intro p l e s m below meth c b ad ty D H locs lsA hF hP hS hL
  obtain ⟨⟨gx, gb, -, -, gown, gts0, -⟩, -⟩ := id hF
  have gts := lw_tb gts0
  obtain ⟨j, hj⟩ := lvl_at (ad := ad) hl
  exact lv_iinc gx gb hd hL.has hj (by rw [Int32.ofInt_add]) hi rfl (fun ls' hv => k p l e s m below meth c b ad ty D H locs ls' hF hP hS (LH.set (v := .inl (x + n)) hv))
theorem lx_iadd {x y : Int} (hd : decode code pc = .ok (.iadd, 1)) (hn : pc + 1 = np) (k : Lw L xs np ls (.inl (x + y) :: st) M) : Lw L xs pc ls (.inl y :: .inl x :: st) M := by
  subst hn
  intro p l e s m below meth c b ad ty D H locs lsA hF hP hS hL
  obtain ⟨⟨gx, gb, -, -, gown, gts0, -⟩, -⟩ := id hF
  have gts := lw_tb gts0
  have h := k p l e s m below meth c b ad ty D H locs lsA hF hP hS hL
  simp only [List.map_cons, cvv, Int32.ofInt_add] at h
  exact lv_iadd gx gb hd h
theorem lx_isub {x y : Int} (hd : decode code pc = .ok (.isub, 1)) (hn : pc + 1 = np) (k : Lw L xs np ls (.inl (x - y) :: st) M) : Lw L xs pc ls (.inl y :: .inl x :: st) M := by
  subst hn
  intro p l e s m below meth c b ad ty D H locs lsA hF hP hS hL
  obtain ⟨⟨gx, gb, -, -, gown, gts0, -⟩, -⟩ := id hF
  have gts := lw_tb gts0
  have h := k p l e s m below meth c b ad ty D H locs lsA hF hP hS hL
  simp only [List.map_cons, cvv, Int32.ofInt_sub] at h
  exact lv_isub gx gb hd h
theorem lx_imul {x y : Int} (hd : decode code pc = .ok (.imul, 1)) (hn : pc + 1 = np) (k : Lw L xs np ls (.inl (x * y) :: st) M) : Lw L xs pc ls (.inl y :: .inl x :: st) M := by
  subst hn
  intro p l e s m below meth c b ad ty D H locs lsA hF hP hS hL
  obtain ⟨⟨gx, gb, -, -, gown, gts0, -⟩, -⟩ := id hF
  have gts := lw_tb gts0
  have h := k p l e s m below meth c b ad ty D H locs lsA hF hP hS hL
  simp only [List.map_cons, cvv, Int32.ofInt_mul] at h
  exact lv_imul gx gb hd h
theorem lx_idiv {x y : Int} (hd : decode code pc = .ok (.idiv, 1)) (hx : 0 ≤ x ∧ x < 2147483648) (hy : 0 < y ∧ y < 2147483648) (hn : pc + 1 = np) (k : Lw L xs np ls (.inl (x / y) :: st) M) : Lw L xs pc ls (.inl y :: .inl x :: st) M := by
  subst hn
  intro p l e s m below meth c b ad ty D H locs lsA hF hP hS hL
  obtain ⟨⟨gx, gb, -, -, gown, gts0, -⟩, -⟩ := id hF
  have gts := lw_tb gts0
  have h := k p l e s m below meth c b ad ty D H locs lsA hF hP hS hL
  obtain ⟨a, rfl⟩ := Int.eq_ofNat_of_zero_le hx.1
  obtain ⟨b, rfl⟩ := Int.eq_ofNat_of_zero_le (Int.le_of_lt hy.1)
  simp only [List.map_cons, cvv] at h ⊢
  rw [← Int.natCast_ediv, iNn, ← pk_div (by omega) (by omega) (by omega)] at h
  rw [iNn, iNn]
  exact lv_idiv gx gb hd (nI_ne0 (by omega) (by omega)) h
theorem lx_irem {x y : Int} (hd : decode code pc = .ok (.irem, 1)) (hx : 0 ≤ x ∧ x < 2147483648) (hy : 0 < y ∧ y < 2147483648) (hn : pc + 1 = np) (k : Lw L xs np ls (.inl (x % y) :: st) M) : Lw L xs pc ls (.inl y :: .inl x :: st) M := by
  subst hn
  intro p l e s m below meth c b ad ty D H locs lsA hF hP hS hL
  obtain ⟨⟨gx, gb, -, -, gown, gts0, -⟩, -⟩ := id hF
  have gts := lw_tb gts0
  have h := k p l e s m below meth c b ad ty D H locs lsA hF hP hS hL
  obtain ⟨a, rfl⟩ := Int.eq_ofNat_of_zero_le hx.1
  obtain ⟨b, rfl⟩ := Int.eq_ofNat_of_zero_le (Int.le_of_lt hy.1)
  simp only [List.map_cons, cvv] at h ⊢
  rw [← Int.natCast_emod, iNn, ← pk_rem (by omega) (by omega) (by omega)] at h
  rw [iNn, iNn]
  exact lv_irem gx gb hd (nI_ne0 (by omega) (by omega)) h
theorem lx_icmp_eq {x y : Int} {off : Int} {tgt : Nat} (hd : decode code pc = .ok (.if_icmp .eq off, 3)) (ht : (pc : Int) + off = (tgt : Int)) (hn : pc + 3 = np) (hx : Rng x) (hy : Rng y) (kt : x = y → Lw L xs tgt ls st M) (kf : ¬ x = y → Lw L xs np ls st M) : Lw L xs pc ls (.inl y :: .inl x :: st) M := by
  subst hn
  intro p l e s m below meth c b ad ty D H locs lsA hF hP hS hL
  obtain ⟨⟨gx, gb, -, -, gown, gts0, -⟩, -⟩ := id hF
  have gts := lw_tb gts0
  exact lv_icmp_eq gx gb hd ht (fun h => kt ((i32_eq hx hy).mp h) p l e s m below meth c b ad ty D H locs lsA hF hP hS hL) (fun h => kf (fun h2 => h ((i32_eq hx hy).mpr h2)) p l e s m below meth c b ad ty D H locs lsA hF hP hS hL)
theorem lx_if_eq {x : Int} {off : Int} {tgt : Nat} (hd : decode code pc = .ok (.ifCond .eq off, 3)) (ht : (pc : Int) + off = (tgt : Int)) (hn : pc + 3 = np) (hx : Rng x) (kt : x = 0 → Lw L xs tgt ls st M) (kf : ¬ x = 0 → Lw L xs np ls st M) : Lw L xs pc ls (.inl x :: st) M := by
  subst hn
  intro p l e s m below meth c b ad ty D H locs lsA hF hP hS hL
  obtain ⟨⟨gx, gb, -, -, gown, gts0, -⟩, -⟩ := id hF
  have gts := lw_tb gts0
  exact lv_if_eq gx gb hd ht (fun h => kt ((i32_eq hx rng0).mp h) p l e s m below meth c b ad ty D H locs lsA hF hP hS hL) (fun h => kf (fun h2 => h ((i32_eq hx rng0).mpr h2)) p l e s m below meth c b ad ty D H locs lsA hF hP hS hL)
theorem lx_icmp_ne {x y : Int} {off : Int} {tgt : Nat} (hd : decode code pc = .ok (.if_icmp .ne off, 3)) (ht : (pc : Int) + off = (tgt : Int)) (hn : pc + 3 = np) (hx : Rng x) (hy : Rng y) (kt : ¬ x = y → Lw L xs tgt ls st M) (kf : x = y → Lw L xs np ls st M) : Lw L xs pc ls (.inl y :: .inl x :: st) M := by
  subst hn
  intro p l e s m below meth c b ad ty D H locs lsA hF hP hS hL
  obtain ⟨⟨gx, gb, -, -, gown, gts0, -⟩, -⟩ := id hF
  have gts := lw_tb gts0
  exact lv_icmp_ne gx gb hd ht (fun h => kt ((not_congr (i32_eq hx hy)).mp h) p l e s m below meth c b ad ty D H locs lsA hF hP hS hL) (fun h => kf ((i32_eq hx hy).mp h) p l e s m below meth c b ad ty D H locs lsA hF hP hS hL)
theorem lx_if_ne {x : Int} {off : Int} {tgt : Nat} (hd : decode code pc = .ok (.ifCond .ne off, 3)) (ht : (pc : Int) + off = (tgt : Int)) (hn : pc + 3 = np) (hx : Rng x) (kt : ¬ x = 0 → Lw L xs tgt ls st M) (kf : x = 0 → Lw L xs np ls st M) : Lw L xs pc ls (.inl x :: st) M := by
  subst hn
  intro p l e s m below meth c b ad ty D H locs lsA hF hP hS hL
  obtain ⟨⟨gx, gb, -, -, gown, gts0, -⟩, -⟩ := id hF
  have gts := lw_tb gts0
  exact lv_if_ne gx gb hd ht (fun h => kt ((not_congr (i32_eq hx rng0)).mp h) p l e s m below meth c b ad ty D H locs lsA hF hP hS hL) (fun h => kf ((i32_eq hx rng0).mp h) p l e s m below meth c b ad ty D H locs lsA hF hP hS hL)
theorem lx_icmp_lt {x y : Int} {off : Int} {tgt : Nat} (hd : decode code pc = .ok (.if_icmp .lt off, 3)) (ht : (pc : Int) + off = (tgt : Int)) (hn : pc + 3 = np) (hx : Rng x) (hy : Rng y) (kt : x < y → Lw L xs tgt ls st M) (kf : ¬ x < y → Lw L xs np ls st M) : Lw L xs pc ls (.inl y :: .inl x :: st) M := by
  subst hn
  intro p l e s m below meth c b ad ty D H locs lsA hF hP hS hL
  obtain ⟨⟨gx, gb, -, -, gown, gts0, -⟩, -⟩ := id hF
  have gts := lw_tb gts0
  exact lv_icmp_lt gx gb hd ht (fun h => kt ((i32_lt hx hy).mp h) p l e s m below meth c b ad ty D H locs lsA hF hP hS hL) (fun h => kf (fun h2 => h ((i32_lt hx hy).mpr h2)) p l e s m below meth c b ad ty D H locs lsA hF hP hS hL)
theorem lx_if_lt {x : Int} {off : Int} {tgt : Nat} (hd : decode code pc = .ok (.ifCond .lt off, 3)) (ht : (pc : Int) + off = (tgt : Int)) (hn : pc + 3 = np) (hx : Rng x) (kt : x < 0 → Lw L xs tgt ls st M) (kf : ¬ x < 0 → Lw L xs np ls st M) : Lw L xs pc ls (.inl x :: st) M := by
  subst hn
  intro p l e s m below meth c b ad ty D H locs lsA hF hP hS hL
  obtain ⟨⟨gx, gb, -, -, gown, gts0, -⟩, -⟩ := id hF
  have gts := lw_tb gts0
  exact lv_if_lt gx gb hd ht (fun h => kt ((i32_lt hx rng0).mp h) p l e s m below meth c b ad ty D H locs lsA hF hP hS hL) (fun h => kf (fun h2 => h ((i32_lt hx rng0).mpr h2)) p l e s m below meth c b ad ty D H locs lsA hF hP hS hL)
theorem lx_icmp_ge {x y : Int} {off : Int} {tgt : Nat} (hd : decode code pc = .ok (.if_icmp .ge off, 3)) (ht : (pc : Int) + off = (tgt : Int)) (hn : pc + 3 = np) (hx : Rng x) (hy : Rng y) (kt : x ≥ y → Lw L xs tgt ls st M) (kf : ¬ x ≥ y → Lw L xs np ls st M) : Lw L xs pc ls (.inl y :: .inl x :: st) M := by
  subst hn
  intro p l e s m below meth c b ad ty D H locs lsA hF hP hS hL
  obtain ⟨⟨gx, gb, -, -, gown, gts0, -⟩, -⟩ := id hF
  have gts := lw_tb gts0
  exact lv_icmp_ge gx gb hd ht (fun h => kt ((i32_le hy hx).mp h) p l e s m below meth c b ad ty D H locs lsA hF hP hS hL) (fun h => kf (fun h2 => h ((i32_le hy hx).mpr h2)) p l e s m below meth c b ad ty D H locs lsA hF hP hS hL)
theorem lx_if_ge {x : Int} {off : Int} {tgt : Nat} (hd : decode code pc = .ok (.ifCond .ge off, 3)) (ht : (pc : Int) + off = (tgt : Int)) (hn : pc + 3 = np) (hx : Rng x) (kt : x ≥ 0 → Lw L xs tgt ls st M) (kf : ¬ x ≥ 0 → Lw L xs np ls st M) : Lw L xs pc ls (.inl x :: st) M := by
  subst hn
  intro p l e s m below meth c b ad ty D H locs lsA hF hP hS hL
  obtain ⟨⟨gx, gb, -, -, gown, gts0, -⟩, -⟩ := id hF
  have gts := lw_tb gts0
  exact lv_if_ge gx gb hd ht (fun h => kt ((i32_le rng0 hx).mp h) p l e s m below meth c b ad ty D H locs lsA hF hP hS hL) (fun h => kf (fun h2 => h ((i32_le rng0 hx).mpr h2)) p l e s m below meth c b ad ty D H locs lsA hF hP hS hL)
theorem lx_end (hd : decode code pc = .ok (.ireturn, 1)) : Lw L xs pc ls [.inl 1] M := by
  intro p l e s m below meth c b ad ty D H locs lsA hF hP hS hL
  obtain ⟨⟨hx, hb, hr, -, -, -, -, -, hlocks, -⟩, -⟩ := id hF
  exact va_forget (fun q hq => hS.2.2 q hq) (lw_ret hx hb hr hlocks hd)
end LR
section LC
variable {L : Nat} {xs : Nat → Int32} {pc np n : Nat} {ls : List (Option Val)} {st0 rest As : List Val} {M : Mem} {q' : MI} {Qc : Option Val → Mem → Prop}
theorem lx_callV {ci : Nat} {fl : List (Option Cc)} {T : u_T} {N : Nat} (mo : MOkV q' n) (sc : SiteV miL q' pc) (h : Sem ST q' (.inr (cX 0) :: As) M Qc) (hs : shT (cX 0) = some (.inr (ci, fl))) (hci : vwCl[ci]? = some (q'.1.cls, T, N)) (hst : st0 = As.reverse ++ .inr (cX 0) :: rest) (hlen : As.length = n) (hw : rest.length ≤ 8) (hn : pc + 3 = np) (kk : ∀ v M', Qc v M' → Lw L xs np ls (v.toList ++ rest) M') : Lw L xs pc ls st0 M := by
  subst hn; subst hst
  obtain ⟨m1, m2, m3, m4, m5⟩ := mo
  obtain ⟨idx, w1, hd, r1, r2⟩ := sc
  intro p l e s m below meth c b ad ty D H locs lsA hF hP hS hL
  obtain ⟨⟨hx, hb, -, hml, hown, hts0, hX, hbl, -, -⟩, hLL, hK, hNW, hDT, hab⟩ := id hF
  have hts := lw_tb hts0
  obtain ⟨j, hj⟩ := wl_ix (S := ST) ST_ok (c := cX 0) hs
  have hAA : ∀ x, AA ST ad H.size x → s.heap.size ≤ x := by
    rintro x (⟨c1, h1, rfl⟩ | h1)
    · obtain ⟨k, hk⟩ := List.getElem?_of_mem h1
      exact hDT.2 k _ (wl_at hk)
    · exact Nat.le_trans hS.1 h1
  refine run_go2 (rest := rest.map (cvv ad)) (a := (Value.ref (ad (cX 0)) :: As.map (cvv ad)).toArray) (D := D) (ty := ty) (S := ST) (ad := ad) (A := fun q => s.heap.size ≤ q) (Qc := Qc) ?_ hS hAA (fun v M' H1 locs1 hq hP1 hS1 hz hk1 => ?_)
  · refine va_runV (own := miL.1.cls) (index := idx) (As := As.map (cvv ad)) (b := ad (cX 0)) (C := q'.1.cls) (Ts := TBL) (n := n) ⟨hx, hb, hml, hown, hts⟩ (h l ad D ty H.size) (cwV (ws' := TBL) n hts ?_ rfl rfl rfl ⟨rfl, m5⟩ ⟨r1, r2⟩) ⟨PcS_blind, va_recv hK hP hci (obj_at (S := ST) (c0 := cX 0) hs hj), fun U hU hW => ⟨rfl, by rw [hU], by rw [hU]; exact hP, va_K.moved hW.alike hK, wl_D hDT (fun _ _ => trivial), NW.warm hW hNW⟩⟩ rfl (by simpa using hlen) hL.1 ?_ (lv_room (by rw [cat_sum]; exact hw)) hd ⟨Nat.le_refl _, Nat.le_refl _⟩
    · intro w hw
      simp only [wsV, List.mem_append, List.mem_cons, List.not_mem_nil, or_false] at hw
      rcases hw with (e | e | e | e) | e
      · rw [e]; exact gdT _ w1
      · rw [e]; exact gdT _ m1
      · rw [e]; exact gdT _ m2
      · rw [e]; exact gdT _ m3
      · exact gdW m4 _ e
    · simp [cvv]
  · rw [tl_map]
    exact kk v M' hq p l e s m below meth c b ad ty D H1 locs1 lsA hF hP1 hS1 hL
theorem lx_callS (mo : MOkS q' n) (sc : SiteS miL q' pc) (h : Sem ST q' As M Qc) (hst : st0 = As.reverse ++ rest) (hlen : As.length = n) (hw : rest.length ≤ 8) (hn : pc + 3 = np) (kk : ∀ v M', Qc v M' → Lw L xs np ls (v.toList ++ rest) M') : Lw L xs pc ls st0 M := by
  subst hn; subst hst
  obtain ⟨m1, m3, m4, m5⟩ := mo
  obtain ⟨idx, w1, hd, r1, r2⟩ := sc
  intro p l e s m below meth c b ad ty D H locs lsA hF hP hS hL
  obtain ⟨⟨hx, hb, -, hml, hown, hts0, hX, hbl, -, -⟩, hLL, hK, hNW, hDT, hab⟩ := id hF
  have hts := lw_tb hts0
  have hAA : ∀ x, AA ST ad H.size x → s.heap.size ≤ x := by
    rintro x (⟨c1, h1, rfl⟩ | h1)
    · obtain ⟨k, hk⟩ := List.getElem?_of_mem h1
      exact hDT.2 k _ (wl_at hk)
    · exact Nat.le_trans hS.1 h1
  refine run_go2 (rest := rest.map (cvv ad)) (a := (As.map (cvv ad)).toArray) (D := D) (ty := ty) (S := ST) (ad := ad) (A := fun q => s.heap.size ≤ q) (Qc := Qc) ?_ hS hAA (fun v M' H1 locs1 hq hP1 hS1 hz hk1 => ?_)
  · refine va_runS (own := miL.1.cls) (index := idx) (As := As.map (cvv ad)) (Ts := TBL) (n := n) ⟨hx, hb, hml, hown, hts⟩ (h l ad D ty H.size) ⟨callB_of (ws' := TBL) n hts (gdW m4) rfl rfl rfl (hts _ m3) (hts _ w1) m5 ⟨r1, r2⟩, hts _ m1⟩ ⟨PcS_blind, fun U hU hW => ⟨rfl, by rw [hU], by rw [hU]; exact hP, va_K.moved hW.alike hK, wl_D hDT (fun _ _ => trivial), NW.warm hW hNW⟩⟩ rfl (by simpa using hlen) hL.1 ?_ (lv_room (by rw [cat_sum]; exact hw)) hd ⟨Nat.le_refl _, Nat.le_refl _⟩
    · simp
  · rw [tl_map]
    exact kk v M' hq p l e s m below meth c b ad ty D H1 locs1 lsA hF hP1 hS1 hL
theorem lx_V0 {ci : Nat} {fl : List (Option Cc)} {T : u_T} {N : Nat} (mo : MOkV q' 0) (sc : SiteV miL q' pc) (h : Sem ST q' (.inr (cX 0) :: []) M Qc) (hs : shT (cX 0) = some (.inr (ci, fl))) (hci : vwCl[ci]? = some (q'.1.cls, T, N)) (hw : rest.length ≤ 8) (hn : pc + 3 = np) (kk : ∀ v M', Qc v M' → Lw L xs np ls (v.toList ++ rest) M') : Lw L xs pc ls (.inr (cX 0) :: rest) M := lx_callV (As := []) mo sc h hs hci rfl rfl hw hn kk
theorem lx_V1 {ci : Nat} {fl : List (Option Cc)} {T : u_T} {N : Nat} {a1 : Val} (mo : MOkV q' 1) (sc : SiteV miL q' pc) (h : Sem ST q' (.inr (cX 0) :: [a1]) M Qc) (hs : shT (cX 0) = some (.inr (ci, fl))) (hci : vwCl[ci]? = some (q'.1.cls, T, N)) (hw : rest.length ≤ 8) (hn : pc + 3 = np) (kk : ∀ v M', Qc v M' → Lw L xs np ls (v.toList ++ rest) M') : Lw L xs pc ls (a1 :: .inr (cX 0) :: rest) M := lx_callV (As := [a1]) mo sc h hs hci rfl rfl hw hn kk
theorem lx_S1 {a1 : Val} (mo : MOkS q' 1) (sc : SiteS miL q' pc) (h : Sem ST q' [a1] M Qc) (hw : rest.length ≤ 8) (hn : pc + 3 = np) (kk : ∀ v M', Qc v M' → Lw L xs np ls (v.toList ++ rest) M') : Lw L xs pc ls (a1 :: rest) M := lx_callS (As := [a1]) mo sc h rfl rfl hw hn kk
theorem lx_S2 {a1 a2 : Val} (mo : MOkS q' 2) (sc : SiteS miL q' pc) (h : Sem ST q' [a1, a2] M Qc) (hw : rest.length ≤ 8) (hn : pc + 3 = np) (kk : ∀ v M', Qc v M' → Lw L xs np ls (v.toList ++ rest) M') : Lw L xs pc ls (a2 :: a1 :: rest) M := lx_callS (As := [a1, a2]) mo sc h rfl rfl hw hn kk
/-- the law asks for a number of the script -/
theorem lx_cell {k idx : Nat} (hk : k < 64) (w1 : Cond.methodLink miL.1.cls idx yL_cell ∈ TBL) (hd : decode code pc = .ok (.invokestatic idx, 3)) (hw : rest.length ≤ 8) (hn : pc + 3 = np) (kk : ∀ y : Nat, y < 2147483648 → Lw L xs np ls (.inl (y : Int) :: rest) M) : Lw L xs pc ls (.inl (k : Int) :: .inr (cX 99) :: rest) M := by
  subst hn
  intro p l e s m below meth c b ad ty D H locs lsA hF hP hS hL
  obtain ⟨⟨hx, hb, -, hml, hown, hts0, hX, hbl, -, -⟩, hLL, hK, hNW, hDT, hab⟩ := id hF
  have hts := lw_tb hts0
  have hXH : ∀ U : State, U.heap = H → s.WarmedH U.vm → va_X b L xs U U.heap := fun U hU hW => by
    rw [hU]
    exact (va_X.moved hW.alike hX).kept (hS.2.1 b hbl (Nat.not_le.mpr hbl))
  refine va_calli (S := Nat) (A0 := fun q => s.heap.size ≤ q) (A1 := fun q => H.size ≤ q) (post := fun r (y : Nat) => r = Int32.ofInt (y : Int) ∧ y < 2147483648) (B := fun _ _ => True) (mc := 0) (ms := 0) (rest := rest.map (cvv ad)) (a := ([.ref b, .int (Int32.ofInt (k : Int))] : List Value).toArray) (free := fun q => H.size ≤ q) ?_ hS (fun q h1 h2 => absurd h1 (Nat.not_lt.mpr h2)) (fun q h => Nat.le_trans hS.1 h) (fun r y t H1 locs1 ht hvm hp _ hz hk1 hS1 => ?_)
  · refine va_runS (own := miL.1.cls) (index := idx) (As := [.ref b, .int (Int32.ofInt (k : Int))]) (Ts := TBL) (n := 2) ⟨hx, hb, hml, hown, hts⟩ (c_cell l b L H.size xs hLL k hk) ⟨callB_of (ws' := TBL) 2 hts (gdW (q := miC) (inT2 186 rfl rfl)) rfl rfl rfl (hts _ (inT1 0 rfl rfl)) (hts _ w1) ⟨by decide, by decide, by decide +kernel⟩ ⟨by decide, by decide⟩, hts _ (inT2 185 rfl rfl)⟩ ⟨?_, fun U hU hW => ⟨rfl, by rw [hU], hXH U hU hW, by rw [hU]; exact Nat.lt_of_lt_of_le hbl hS.1⟩⟩ rfl rfl hL.1 ?_ (lv_room (by rw [cat_sum]; exact hw)) hd ⟨Nat.le_refl _, Nat.le_refl _⟩
    · intro a U g mk h
      obtain ⟨h0, h1, h2, h3⟩ := h
      exact ⟨h0, h1, va_X.moved (u := U) (U := U.calling g mk a) (Vm.Alike.refl U.vm) h2, h3⟩
    · subst hab
      rfl
  · obtain ⟨rfl, hy⟩ := hp
    exact kk y hy p l e s m below meth c b ad ty D H1 locs1 lsA hF (hP.kept (fun k q hk => hk1 _ ((hP k q hk).lt) (Nat.not_le.mpr ((hP k q hk).lt)))) hS1 hL
end LC
theorem sL_law_10 : SiteS miL miL_holds 10 := ⟨77, inT2 189 rfl rfl, dL_law_10, ⟨by decide, by decide⟩⟩
theorem sL_law_17 : SiteS miL miL_apart 17 := ⟨74, inT3 30 rfl rfl, dL_law_17, ⟨by decide, by decide⟩⟩
theorem sL_law_96 : SiteS miL miL_acts 96 := ⟨85, inT3 64 rfl rfl, dL_law_96, ⟨by decide, by decide⟩⟩
theorem sL_law_127 : SiteS miL miL_acts 127 := ⟨85, inT3 64 rfl rfl, dL_law_127, ⟨by decide, by decide⟩⟩
theorem sL_law_139 : SiteV miL miX9_count 139 := ⟨29, inT2 158 rfl rfl, dL_law_139, ⟨by decide, by decide⟩⟩
theorem sL_law_144 : SiteV miL miX9_pairs 144 := ⟨40, inT2 31 rfl rfl, dL_law_144, ⟨by decide, by decide⟩⟩
theorem sL_law_155 : SiteV miL miX9_copy 155 := ⟨62, inT1 225 rfl rfl, dL_law_155, ⟨by decide, by decide⟩⟩
theorem sL_law_163 : SiteV miL miX9_apart 163 := ⟨25, inT2 126 rfl rfl, dL_law_163, ⟨by decide, by decide⟩⟩
theorem sL_law_166 : SiteK miL 166 (-1000004) := ⟨28, inT3 33 rfl rfl, dL_law_166⟩
theorem sL_law_172 : SiteV miL miX9_undo 172 := ⟨68, inT2 174 rfl rfl, dL_law_172, ⟨by decide, by decide⟩⟩
theorem sL_law_180 : SiteV miL miX9_count 180 := ⟨29, inT2 158 rfl rfl, dL_law_180, ⟨by decide, by decide⟩⟩
theorem sL_law_188 : SiteV miL miX9_pairs 188 := ⟨40, inT2 31 rfl rfl, dL_law_188, ⟨by decide, by decide⟩⟩
theorem sL_law_197 : SiteS miL miL_apart 197 := ⟨74, inT3 30 rfl rfl, dL_law_197, ⟨by decide, by decide⟩⟩
theorem sL_law_205 : SiteS miL miL_holds 205 := ⟨77, inT2 189 rfl rfl, dL_law_205, ⟨by decide, by decide⟩⟩
