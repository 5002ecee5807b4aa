/-! THE LAW: its end (the starting text), its worlds, its calls -/
def R_law : String := "TickCircuitsLaw"
def lw_P (b : Addr) (xs : List Int32) (args : Array Value) (s : State) : Prop := args = #[.ref b] ∧ s.IntsAt b xs ∧ xs.length ≤ 3072 ∧ (Jvm.Cond.and given_1 narrow_1).before args s = true
def lw_Q (_ : Array Value) (s : State) (o : Outcome) (t : State) : Prop := o = .returned (some (.int 1)) ∧ Framed s o t [] 600000 7302250
def lw_Z (below : List Frame) (a : Array Value) (s : State) : State → Prop := fun t => ∃ o, t.status = .running ∧ Ended t below o ∧ lw_Q a s o t
/-- the law's own end, with 1 on the stack, nothing written that was there before, its room as the claim has it -/
theorem lw_ret {p : Program} {l : Launch} {e : Env} {s : State} {m : MethodId} {below : List Frame} {meth : Method} {c : Code} {b : Nat} (hx : p.tables.exec = Jvm.exec) (hb : c.code = code) (hr : meth.sig.returnType = ret) (hlocks : meth.locks = false) {pc : Nat} {H : Heap} {ls : Array Slot} (hdg : decode code pc = .ok (.ireturn, 1)) : W p l e room_1 s m #[Value.ref b] below meth c H [] 600000 7302250 (lw_Z below #[Value.ref b] s) (F0 m pc ls [.int 1]) := by
  intro T hT X
  obtain ⟨fs, hret, hrun, hended, hW, hframe⟩ := X.leave (v := some (.int 1)) (hlocks := hlocks) (fun h => by rw [hr] at h; cases h)
  have hmeth' : T.vm.method? m = some meth := X.method'
  refine ⟨T.setFrames fs, ?_, .returned (some (.int 1)), hrun, hended, rfl, ⟨_, rfl⟩, hW, hframe⟩
  jvm_step X.here [X.here.top, hx, hb, hdg, hmeth', hr, ret, narrow_b1]
  (try refine ⟨rfl, ?_⟩); (try refine ⟨rfl, ?_⟩)
  first | (intro acts; rw [hret _ acts rfl rfl rfl]) | rw [hret _ _ rfl rfl rfl]
  exact Steps.refl _
/-- what holds at the law's entry: the machine, the code, the tables' words (any of lw_tbl by 'hts w (by decide +kernel)'), the script of L ints xs at the cell b, what the Statement gives of the start (any of its parts by flat_of_before) -/
def lw_At (p : Program) (s : State) (m : MethodId) (meth : Method) (c : Code) (b L : Nat) (xs : Nat → Int32) : Prop :=
  p.tables.exec = Jvm.exec ∧ c.code = code ∧ meth.sig.returnType = ret ∧ c.maxLocals = 4 ∧ s.vm.findClass R_law = some m.cls ∧ (∀ w ∈ lw_tbl, w.before #[Value.ref b] s = true) ∧ va_X b L xs s s.heap ∧ b < s.heap.size ∧ meth.locks = false ∧ (Jvm.Cond.and given_1 narrow_1).before #[Value.ref b] s = true
abbrev miL : MI := (x, code, 4, ret, 9, 344)
/-- the law's operands: a number, or the script, the class, the reference -/
abbrev Sv : Type := Int32 ⊕ Fin 3
def svv (b : Nat) (aT aM : Cc → Nat) : Sv → Value
  | .inl v => .int v
  | .inr 0 => .ref b
  | .inr 1 => .ref (aT (cX 0))
  | .inr 2 => .ref (aM (cX 0))
theorem sv_cat (b : Nat) (aT aM : Cc → Nat) (v : Sv) : (svv b aT aM v).category = 1 := by
  rcases v with v | ⟨k, hk⟩
  · rfl
  · match k, hk with
    | 0, _ => rfl
    | 1, _ => rfl
    | 2, _ => rfl
theorem sv_sum (b : Nat) (aT aM : Cc → Nat) : ∀ r : List Sv, ((r.map (svv b aT aM)).map fun v => v.category).sum = r.length
  | [] => rfl
  | a :: t => by simp only [List.map_cons, List.sum_cons, sv_cat, sv_sum b aT aM t, List.length_cons]; omega
/-- what stands fast in the law's loop: the two worlds lie apart, and all is new -/
def LwF (p : Program) (s : State) (m : MethodId) (meth : Method) (c : Code) (b L : Nat) (xs : Nat → Int32) (aT aM : Cc → Nat) (ty : Bool → ClassId) (D : va_G) : Prop :=
  lw_At p s m meth c b L xs ∧ L ≤ 3072 ∧ va_K D vwCl [(ty false, .int), (ty true, .char)] s ∧ NW s ∧ va_D (fun q => s.heap.size ≤ q) (wl ST aT ty (fun _ _ => 0)) ∧ va_D (fun q => s.heap.size ≤ q) (wl SM aM ty (fun _ _ => 0)) ∧ ∀ c ∈ csT, ∀ d ∈ csM, aT c ≠ aM d
/-- from here on the law ends with true -/
def Lw (L : Nat) (xs : Nat → Int32) (pc i : Nat) (st : List Sv) (M N : Mem) : Prop :=
  ∀ (p : Program) (l : Launch) (e : Env) (s : State) (m : MethodId) (below : List Frame) (meth : Method) (c : Code) (b : Nat) (aT aM : Cc → Nat) (ty : Bool → ClassId) (D : va_G) (H : Heap) (locs : List Loc) (ls : Array Slot),
    LwF p s m meth c b L xs aT aM ty D → va_P D vwCl (wl ST aT ty M) H → va_P D vwCl (wl SM aM ty N) H → va_S (fun q => s.heap.size ≤ q) s.heap H locs → lv_has ls 4 [(3, .int (nI i)), (2, .ref (aM (cX 0))), (1, .ref (aT (cX 0))), (0, .ref b)] →
    W p l e room_1 s m #[Value.ref b] below meth c H locs 600000 7302250 (lw_Z below #[Value.ref b] s) (F0 m pc ls (st.map (svv b aT aM)))
theorem lw_tb {s : State} {b : Nat} (h : ∀ w ∈ lw_tbl, w.before #[Value.ref b] s = true) : ∀ w ∈ TBL, w.before #[Value.ref b] s = true := fun w hw => h w (List.mem_filter.mp hw).1
section LR
variable {L : Nat} {xs : Nat → Int32} {pc np i : Nat} {st rest : List Sv} {M N : Mem}
theorem lw_T (hd : decode code pc = .ok (.aload_n 1, 1)) (hn : pc + 1 = np) (kk : Lw L xs np i (.inr 1 :: st) M N) : Lw L xs pc i st M N := by
  subst hn
  intro p l e s m below meth c b aT aM ty D H locs ls hF hP hR hS hl
  obtain ⟨⟨hx, hb, -⟩, -⟩ := id hF
  exact lv_aload_n hx hb hd rfl (lv_at hl 2 rfl) (kk p l e s m below meth c b aT aM ty D H locs ls hF hP hR hS hl)
theorem lw_M (hd : decode code pc = .ok (.aload_n 2, 1)) (hn : pc + 1 = np) (kk : Lw L xs np i (.inr 2 :: st) M N) : Lw L xs pc i st M N := by
  subst hn
  intro p l e s m below meth c b aT aM ty D H locs ls hF hP hR hS hl
  obtain ⟨⟨hx, hb, -⟩, -⟩ := id hF
  exact lv_aload_n hx hb hd rfl (lv_at hl 1 rfl) (kk p l e s m below meth c b aT aM ty D H locs ls hF hP hR hS hl)
/-- script[i + k] -/
theorem lw_arg {k : Nat} {kz : Int} (d0 : decode code pc = .ok (.aload_n 0, 1)) (d1 : decode code (pc + 1) = .ok (.iload_n 3, 1)) (d2 : decode code (pc + 1 + 1) = .ok (.iconst kz, 1)) (d3 : decode code (pc + 1 + 1 + 1) = .ok (.iadd, 1)) (d4 : decode code (pc + 1 + 1 + 1 + 1) = .ok (.iaload, 1)) (hk : kz = (k : Int)) (hi : i + k < L) (hn : pc + 5 = np) (kk : Lw L xs np i (.inl (xs (i + k)) :: st) M N) : Lw L xs pc i st M N := by
  subst hn; subst hk
  intro p l e s m below meth c b aT aM ty D H locs ls hF hP hR hS hl
  obtain ⟨⟨hx, hb, -, -, -, -, hX, hbl, -, -⟩, hL, -⟩ := id hF
  refine lv_aload_n hx hb d0 rfl (lv_at hl 3 rfl) ?_
  refine lv_iload_n hx hb d1 rfl (lv_at hl 0 rfl) ?_
  refine lv_iconst (v := nI k) hx hb d2 (iNn k) ?_
  refine lv_iadd hx hb d3 ?_
  rw [nI_add]
  refine va_sld hx hb hX hbl (A := fun q => s.heap.size ≤ q) (Nat.not_le.mpr hbl) hS (nI_in hi (by omega)) d4 ?_
  rw [nI_clamp (by omega)]
  exact kk p l e s m below meth c b aT aM ty D H locs ls hF hP hR hS hl
theorem sv_args (b : Nat) (aT aM ad : Cc → Nat) (ks : List Int32) : (ks.map Sum.inl).map (svv b aT aM) = (ks.map (fun x : Int32 => (Sum.inl x.toInt : Val))).map (cvv ad) := by
  rw [List.map_map, List.map_map]
  apply List.map_congr_left
  intro x _
  show Value.int x = Value.int (Int32.ofInt x.toInt)
  rw [Int32.ofInt_toInt]
/-- a call of the class -/
theorem lw_callT {q' : MI} {ks : List Int32} {r : Int} {σ : Sg} {n : Nat} (h : Sem ST q' (.inr (cX 0) :: ks.map (fun x => .inl x.toInt)) M (fun v N => v = some (.inl r) ∧ InvT N σ)) (mo : MOkV q' n) (sc : SiteV miL q' pc) (hcl : vwCl[9]? = some (q'.1.cls, TX9, 12)) (hst : st = (ks.map Sum.inl).reverse ++ .inr 1 :: rest) (hlen : ks.length = n) (hw : rest.length ≤ 8) (hn : pc + 3 = np) (kk : ∀ M', InvT M' σ → Lw L xs np i (.inl (Int32.ofInt r) :: rest) M' N) : Lw L xs pc i st M N := by
  subst hn; subst hst
  obtain ⟨m1, m2, m3, m4, m5⟩ := mo
  obtain ⟨idx, w1, hd, r1, r2⟩ := sc
  intro p l e s m below meth c b aT aM ty D H locs ls hF hP hR hS hl
  obtain ⟨⟨hx, hb, -, hml, hown, hts0, hX, hbl, -, -⟩, hL, hK, hNW, hDT, hDM, hdis⟩ := id hF
  have hts := lw_tb hts0
  obtain ⟨j, hj⟩ := wl_ix ST_ok (c := cX 0) rfl
  have hAA : ∀ x, AA ST aT H.size x → s.heap.size ≤ x := by
    rintro x (⟨c1, h1, rfl⟩ | h1)
    · obtain ⟨k, hk⟩ := List.getElem?_of_mem h1
      exact hDT.2 k _ (wl_at hk)
    · exact Nat.le_trans hS.1 h1
  refine run_go2 (rest := rest.map (svv b aT aM)) (a := (Value.ref (aT (cX 0)) :: (ks.map (fun x : Int32 => (Sum.inl x.toInt : Val))).map (cvv aT)).toArray) (D := D) (ty := ty) (S := ST) (ad := aT) (A := fun q => s.heap.size ≤ q) (Qc := fun v O => v = some (.inl r) ∧ InvT O σ) ?_ hS hAA (fun v M' H1 locs1 hq hP1 hS1 hz hk1 => ?_)
  · refine va_runV (own := miL.1.cls) (index := idx) (As := (ks.map (fun x : Int32 => (Sum.inl x.toInt : Val))).map (cvv aT)) (b := aT (cX 0)) (C := q'.1.cls) (Ts := TBL) (n := n) ⟨hx, hb, hml, hown, hts⟩ (h l aT D ty H.size) (cwV (ws' := TBL) n hts ?_ rfl rfl rfl ⟨rfl, m5⟩ ⟨r1, r2⟩) ⟨PcS_blind, va_recv hK hP hcl (obj_at (S := ST) (c0 := cX 0) rfl hj), fun U hU hW => ⟨rfl, by rw [hU], by rw [hU]; exact hP, va_K.moved hW.alike hK, wl_D hDT (fun _ _ => trivial), NW.warm hW hNW⟩⟩ rfl (by simpa using hlen) hl.1 ?_ (lv_room (by rw [sv_sum]; exact hw)) hd ⟨Nat.le_refl _, Nat.le_refl _⟩
    · intro w hw
      simp only [wsV, List.mem_append, List.mem_cons, List.not_mem_nil, or_false] at hw
      rcases hw with (e | e | e | e) | e
      · rw [e]; exact gdT _ w1
      · rw [e]; exact gdT _ m1
      · rw [e]; exact gdT _ m2
      · rw [e]; exact gdT _ m3
      · exact gdW m4 _ e
    · rw [← sv_args b aT aM aT ks]
      simp [svv]
  · obtain ⟨rfl, hI⟩ := hq
    refine kk M' hI p l e s m below meth c b aT aM ty D H1 locs1 ls hF hP1 (hR.kept (fun k q hk => hk1 _ ((hR k q hk).lt) ?_)) hS1 hl
    obtain ⟨d, hd1, e1⟩ := wl_map _ _ _ _ _ _ hk
    rintro (⟨c1, h1, e2⟩ | h1)
    · exact hdis c1 h1 d (List.mem_of_getElem? hd1) (e2.trans e1)
    · exact absurd ((hR k q hk).lt) (Nat.not_lt.mpr h1)
/-- a call of the reference -/
theorem lw_callM {q' : MI} {ks : List Int32} {r : Int} {σ : Sg} {n : Nat} (h : Sem SM q' (.inr (cX 0) :: ks.map (fun x => .inl x.toInt)) N (fun v N => v = some (.inl r) ∧ InvM N σ)) (mo : MOkV q' n) (sc : SiteV miL q' pc) (hcl : vwCl[10]? = some (q'.1.cls, TX10, 23)) (hst : st = (ks.map Sum.inl).reverse ++ .inr 2 :: rest) (hlen : ks.length = n) (hw : rest.length ≤ 8) (hn : pc + 3 = np) (kk : ∀ N', InvM N' σ → Lw L xs np i (.inl (Int32.ofInt r) :: rest) M N') : Lw L xs pc i st M N := by
  subst hn; subst hst
  obtain ⟨m1, m2, m3, m4, m5⟩ := mo
  obtain ⟨idx, w1, hd, r1, r2⟩ := sc
  intro p l e s m below meth c b aT aM ty D H locs ls hF hR hP hS hl
  obtain ⟨⟨hx, hb, -, hml, hown, hts0, hX, hbl, -, -⟩, hL, hK, hNW, hDT, hDM, hdis⟩ := id hF
  have hts := lw_tb hts0
  obtain ⟨j, hj⟩ := wl_ix SM_ok (c := cX 0) rfl
  have hAA : ∀ x, AA SM aM H.size x → s.heap.size ≤ x := by
    rintro x (⟨c1, h1, rfl⟩ | h1)
    · obtain ⟨k, hk⟩ := List.getElem?_of_mem h1
      exact hDM.2 k _ (wl_at hk)
    · exact Nat.le_trans hS.1 h1
  refine run_go2 (rest := rest.map (svv b aT aM)) (a := (Value.ref (aM (cX 0)) :: (ks.map (fun x : Int32 => (Sum.inl x.toInt : Val))).map (cvv aM)).toArray) (D := D) (ty := ty) (S := SM) (ad := aM) (A := fun q => s.heap.size ≤ q) (Qc := fun v O => v = some (.inl r) ∧ InvM O σ) ?_ hS hAA (fun v M' H1 locs1 hq hP1 hS1 hz hk1 => ?_)
  · refine va_runV (own := miL.1.cls) (index := idx) (As := (ks.map (fun x : Int32 => (Sum.inl x.toInt : Val))).map (cvv aM)) (b := aM (cX 0)) (C := q'.1.cls) (Ts := TBL) (n := n) ⟨hx, hb, hml, hown, hts⟩ (h l aM D ty H.size) (cwV (ws' := TBL) n hts ?_ rfl rfl rfl ⟨rfl, m5⟩ ⟨r1, r2⟩) ⟨PcS_blind, va_recv hK hP hcl (obj_at (S := SM) (c0 := cX 0) rfl hj), fun U hU hW => ⟨rfl, by rw [hU], by rw [hU]; exact hP, va_K.moved hW.alike hK, wl_D hDM (fun _ _ => trivial), NW.warm hW hNW⟩⟩ rfl (by simpa using hlen) hl.1 ?_ (lv_room (by rw [sv_sum]; exact hw)) hd ⟨Nat.le_refl _, Nat.le_refl _⟩
    · intro w hw
      simp only [wsV, List.mem_append, List.mem_cons, List.not_mem_nil, or_false] at hw
      rcases hw with (e | e | e | e) | e
      · rw [e]; exact gdT _ w1
      · rw [e]; exact gdT _ m1
      · rw [e]; exact gdT _ m2
      · rw [e]; exact gdT _ m3
      · exact gdW m4 _ e
    · rw [← sv_args b aT aM aM ks]
      simp [svv]
  · obtain ⟨rfl, hI⟩ := hq
    refine kk M' hI p l e s m below meth c b aT aM ty D H1 locs1 ls hF (hR.kept (fun k q hk => hk1 _ ((hR k q hk).lt) ?_)) hP1 hS1 hl
    obtain ⟨d, hd1, e1⟩ := wl_map _ _ _ _ _ _ hk
    rintro (⟨c1, h1, e2⟩ | h1)
    · exact hdis d (List.mem_of_getElem? hd1) c1 h1 (e1.symm.trans e2.symm)
    · exact absurd ((hR k q hk).lt) (Nat.not_lt.mpr h1)
/-- the two answers are equal -/
theorem lw_eq {off : Int} {v : Int32} (hd : decode code pc = .ok (.if_icmp .eq off, 3)) (ht : (pc : Int) + off = ((792 : Nat) : Int)) (kk : Lw L xs 792 i rest M N) : Lw L xs pc i (.inl v :: .inl v :: rest) M N := by
  intro p l e s m below meth c b aT aM ty D H locs ls hF hP hR hS hl
  obtain ⟨⟨hx, hb, -⟩, -⟩ := id hF
  exact lv_icmp_eq hx hb hd ht (fun _ => kk p l e s m below meth c b aT aM ty D H locs ls hF hP hR hS hl) (fun h => absurd rfl h)
end LR
theorem sL_162 : SiteV miL miX9_gate 162 := ⟨13, inT1 229 rfl rfl, dL_law_162, ⟨by decide, by decide⟩⟩
theorem sL_191 : SiteV miL miX10_gate 191 := ⟨17, inT4 37 rfl rfl, dL_law_191, ⟨by decide, by decide⟩⟩
theorem sL_205 : SiteV miL miX9_dropGate 205 := ⟨18, inT2 34 rfl rfl, dL_law_205, ⟨by decide, by decide⟩⟩
theorem sL_214 : SiteV miL miX10_dropGate 214 := ⟨22, inT4 61 rfl rfl, dL_law_214, ⟨by decide, by decide⟩⟩
theorem sL_243 : SiteV miL miX9_register 243 := ⟨23, inT2 43 rfl rfl, dL_law_243, ⟨by decide, by decide⟩⟩
theorem sL_267 : SiteV miL miX10_register 267 := ⟨27, inT4 66 rfl rfl, dL_law_267, ⟨by decide, by decide⟩⟩
theorem sL_286 : SiteV miL miX9_output 286 := ⟨28, inT2 62 rfl rfl, dL_law_286, ⟨by decide, by decide⟩⟩
theorem sL_300 : SiteV miL miX10_output 300 := ⟨32, inT4 70 rfl rfl, dL_law_300, ⟨by decide, by decide⟩⟩
theorem sL_314 : SiteV miL miX9_copy 314 := ⟨33, inT2 74 rfl rfl, dL_law_314, ⟨by decide, by decide⟩⟩
theorem sL_323 : SiteV miL miX10_copy 323 := ⟨36, inT4 74 rfl rfl, dL_law_323, ⟨by decide, by decide⟩⟩
theorem sL_342 : SiteV miL miX9_circuitOf 342 := ⟨37, inT2 87 rfl rfl, dL_law_342, ⟨by decide, by decide⟩⟩
theorem sL_356 : SiteV miL miX10_circuitOf 356 := ⟨40, inT4 116 rfl rfl, dL_law_356, ⟨by decide, by decide⟩⟩
theorem sL_385 : SiteV miL miX9_bit 385 := ⟨41, inT2 203 rfl rfl, dL_law_385, ⟨by decide, by decide⟩⟩
theorem sL_409 : SiteV miL miX10_bit 409 := ⟨44, inT4 78 rfl rfl, dL_law_409, ⟨by decide, by decide⟩⟩
theorem sL_433 : SiteV miL miX9_behind 433 := ⟨45, inT2 215 rfl rfl, dL_law_433, ⟨by decide, by decide⟩⟩
theorem sL_452 : SiteV miL miX10_behind 452 := ⟨49, inT4 89 rfl rfl, dL_law_452, ⟨by decide, by decide⟩⟩
theorem sL_481 : SiteV miL miX9_run 481 := ⟨50, inT2 220 rfl rfl, dL_law_481, ⟨by decide, by decide⟩⟩
theorem sL_505 : SiteV miL miX10_run 505 := ⟨53, inT4 97 rfl rfl, dL_law_505, ⟨by decide, by decide⟩⟩
theorem sL_524 : SiteV miL miX9_share 524 := ⟨54, inT2 224 rfl rfl, dL_law_524, ⟨by decide, by decide⟩⟩
theorem sL_538 : SiteV miL miX10_share 538 := ⟨57, inT4 109 rfl rfl, dL_law_538, ⟨by decide, by decide⟩⟩
theorem sL_557 : SiteV miL miX9_pairOf 557 := ⟨58, inT2 231 rfl rfl, dL_law_557, ⟨by decide, by decide⟩⟩
theorem sL_571 : SiteV miL miX10_pairOf 571 := ⟨61, inT4 145 rfl rfl, dL_law_571, ⟨by decide, by decide⟩⟩
theorem sL_580 : SiteV miL miX9_pairs 580 := ⟨62, inT3 43 rfl rfl, dL_law_580, ⟨by decide, by decide⟩⟩
theorem sL_584 : SiteV miL miX10_pairs 584 := ⟨66, inT4 161 rfl rfl, dL_law_584, ⟨by decide, by decide⟩⟩
theorem sL_598 : SiteV miL miX9_apart 598 := ⟨67, inT3 47 rfl rfl, dL_law_598, ⟨by decide, by decide⟩⟩
theorem sL_607 : SiteV miL miX10_apart 607 := ⟨70, inT4 165 rfl rfl, dL_law_607, ⟨by decide, by decide⟩⟩
theorem sL_616 : SiteV miL miX9_late 616 := ⟨71, inT3 58 rfl rfl, dL_law_616, ⟨by decide, by decide⟩⟩
theorem sL_620 : SiteV miL miX10_late 620 := ⟨74, inT4 169 rfl rfl, dL_law_620, ⟨by decide, by decide⟩⟩
theorem sL_634 : SiteV miL miX9_same 634 := ⟨75, inT3 84 rfl rfl, dL_law_634, ⟨by decide, by decide⟩⟩
theorem sL_643 : SiteV miL miX10_same 643 := ⟨78, inT4 177 rfl rfl, dL_law_643, ⟨by decide, by decide⟩⟩
theorem sL_657 : SiteV miL miX9_kinds 657 := ⟨79, inT3 88 rfl rfl, dL_law_657, ⟨by decide, by decide⟩⟩
theorem sL_666 : SiteV miL miX10_kinds 666 := ⟨82, inT4 181 rfl rfl, dL_law_666, ⟨by decide, by decide⟩⟩
theorem sL_680 : SiteV miL miX9_count 680 := ⟨83, inT3 96 rfl rfl, dL_law_680, ⟨by decide, by decide⟩⟩
theorem sL_689 : SiteV miL miX10_count 689 := ⟨86, inT4 185 rfl rfl, dL_law_689, ⟨by decide, by decide⟩⟩
theorem sL_698 : SiteV miL miX9_undo 698 := ⟨87, inT3 108 rfl rfl, dL_law_698, ⟨by decide, by decide⟩⟩
theorem sL_702 : SiteV miL miX10_undo 702 := ⟨90, inT4 189 rfl rfl, dL_law_702, ⟨by decide, by decide⟩⟩
theorem sL_716 : SiteV miL miX9_type 716 := ⟨91, inT3 117 rfl rfl, dL_law_716, ⟨by decide, by decide⟩⟩
theorem sL_725 : SiteV miL miX10_type 725 := ⟨94, inT4 193 rfl rfl, dL_law_725, ⟨by decide, by decide⟩⟩
theorem sL_734 : SiteV miL miX9_clearText 734 := ⟨95, inT3 126 rfl rfl, dL_law_734, ⟨by decide, by decide⟩⟩
theorem sL_738 : SiteV miL miX10_clearText 738 := ⟨98, inT4 197 rfl rfl, dL_law_738, ⟨by decide, by decide⟩⟩
theorem sL_752 : SiteV miL miX9_fault 752 := ⟨99, inT3 134 rfl rfl, dL_law_752, ⟨by decide, by decide⟩⟩
theorem sL_761 : SiteV miL miX10_fault 761 := ⟨102, inT4 201 rfl rfl, dL_law_761, ⟨by decide, by decide⟩⟩
theorem sL_775 : SiteV miL miX9_read 775 := ⟨103, inT3 189 rfl rfl, dL_law_775, ⟨by decide, by decide⟩⟩
theorem sL_784 : SiteV miL miX10_read 784 := ⟨106, inT4 229 rfl rfl, dL_law_784, ⟨by decide, by decide⟩⟩
