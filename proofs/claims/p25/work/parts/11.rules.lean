theorem sl_len (ad : Cc → Nat) : ∀ As : List Val, (lg_sl (As.map (cvv ad))).length = As.length
  | [] => rfl
  | a :: t => by
    have h := sl_len ad t
    simp only [lg_sl, List.map_cons, List.flatMap_cons, List.length_append, List.length_cons] at h ⊢
    rw [if_neg (by rw [cvv_cat]; decide)]
    simp only [List.length_cons, List.length_nil]
    omega
theorem lv_args_at (ad : Cc → Nat) : ∀ (As : List Val) (b i : Nat) (v : Val), As[i]? = some v → (b + i, cvv ad v) ∈ lv_args b (As.map (cvv ad))
  | [], _, _, _, h => by simp at h
  | a :: t, b, 0, v, h => by
    simp at h
    subst h
    simp [lv_args]
  | a :: t, b, i + 1, v, h => by
    have h2 := lv_args_at ad t (b + 1) i v (by simpa using h)
    simp only [List.map_cons, lv_args, if_neg (show ¬ (cvv ad a).category = 2 by rw [cvv_cat]; decide)]
    exact List.mem_cons_of_mem _ (by rw [show b + (i + 1) = b + 1 + i by omega]; exact h2)
theorem lk_entry : ∀ (As : List Val) (n i : Nat) (v : Val), lk (As.map some ++ List.replicate n none) i = some v → As[i]? = some v
  | [], 0, i, v, h => by simp [lk] at h
  | [], n + 1, 0, v, h => by simp [List.replicate_succ, lk] at h
  | [], n + 1, i + 1, v, h => by
    have h2 := lk_entry [] n i v (by simpa [List.replicate_succ, lk] using h)
    simp at h2
  | a :: t, n, 0, v, h => by simpa [lk] using h
  | a :: t, n, i + 1, v, h => by
    have h2 := lk_entry t n i v (by simpa [lk] using h)
    simpa using h2
theorem Sem.of {S : Sy} {q : MI} {As : List Val} {M : Mem} {Q : Option Val → Mem → Prop} {ls0 : List (Option Val)} (hp : plainName q.1.cls = true) (ok : SyOk S) (hn : As.length ≤ q.2.2.1) (hl : As.map some ++ List.replicate (q.2.2.1 - As.length) none = ls0) (k : Ev S q 0 ls0 [] M Q) : Sem S q As M Q := by
  intro l ad D ty sz
  refine Met.ofW (cc := q.2.1) (maxL := q.2.2.1) (ret := q.2.2.2.1) hp rfl ?_
  intro p e s m args below meth c s₁ B hml hv
  obtain ⟨hargs, hsz, hP, hK, hD, hN⟩ := hv
  subst hsz
  have hts := atoms_spec (ws := miW q) B.pre
  subst hl
  have h0 := lv_entry (As.map (cvv ad)) (n := q.2.2.1) (by rw [sl_len]; exact hn)
  rw [hargs, lg_entry_eq, ← hargs]
  exact k p l e s m args below meth c ad D ty s.heap [] _ ⟨B.exec, B.bytes, B.returns, hml, findClass_of_methodNamed B.named, fun w h => hts w (List.mem_cons_of_mem _ h), B.notSynchronized, hK, hN, ok⟩ hP (wl_D hD (fun c hc => Or.inl ⟨c, hc, rfl⟩)) va_S.rf ⟨h0.1, h0.2.1, fun i v hi => h0.2.2 (i, cvv ad v) (by simpa using lv_args_at ad As 0 i v (lk_entry _ _ _ _ hi))⟩
section RU
variable {S : Sy} {q : MI} {pc np : Nat} {ls : List (Option Val)} {st : List Val} {M : Mem} {Q : Option Val → Mem → Prop}
theorem ev_goto {off : Int} (hd : decode q.2.1 pc = .ok (.goto off, 3)) (ht : (pc : Int) + off = (np : Int)) (k : Ev S q np ls st M Q) : Ev S q pc ls st M Q := by
  intro p l e s m args below meth c ad D ty H locs lsA hc hP hD hS hL
  exact lv_goto hc.1 hc.2.1 hd ht (k p l e s m args below meth c ad D ty H locs lsA hc hP hD hS hL)
theorem ev_iconst {n : Int} (hd : decode q.2.1 pc = .ok (.iconst n, 1)) (hn : pc + 1 = np) (k : Ev S q np ls (.inl n :: st) M Q) : Ev S q pc ls st M Q := by
  subst hn
  intro p l e s m args below meth c ad D ty H locs lsA hc hP hD hS hL
  exact lv_iconst hc.1 hc.2.1 hd rfl (k p l e s m args below meth c ad D ty H locs lsA hc hP hD hS hL)
theorem ev_bipush {n : Int} (hd : decode q.2.1 pc = .ok (.bipush n, 2)) (hv : (Int8.ofInt n).toInt32 = Int32.ofInt n) (hn : pc + 2 = np) (k : Ev S q np ls (.inl n :: st) M Q) : Ev S q pc ls st M Q := by
  subst hn
  intro p l e s m args below meth c ad D ty H locs lsA hc hP hD hS hL
  exact lv_bipush hc.1 hc.2.1 hd hv (k p l e s m args below meth c ad D ty H locs lsA hc hP hD hS hL)
theorem ev_sipush {n : Int} (hd : decode q.2.1 pc = .ok (.sipush n, 3)) (hv : (Int16.ofInt n).toInt32 = Int32.ofInt n) (hn : pc + 3 = np) (k : Ev S q np ls (.inl n :: st) M Q) : Ev S q pc ls st M Q := by
  subst hn
  intro p l e s m args below meth c ad D ty H locs lsA hc hP hD hS hL
  exact lv_sipush hc.1 hc.2.1 hd hv (k p l e s m args below meth c ad D ty H locs lsA hc hP hD hS hL)
def SiteK (q : MI) (pc : Nat) (n : Int) : Prop := ∃ idx : Nat, Cond.constant q.1.cls idx (Int32.ofInt n) ∈ TBL ∧ decode q.2.1 pc = .ok (.ldc idx, 2)
theorem ev_ldc {n : Int} (hk : SiteK q pc n) (hn : pc + 2 = np) (k : Ev S q np ls (.inl n :: st) M Q) : Ev S q pc ls st M Q := by
  subst hn
  obtain ⟨idx, hw, hd⟩ := hk
  intro p l e s m args below meth c ad D ty H locs lsA hc hP hD hS hL
  exact lv_ldc hc.1 hc.2.1 hc.2.2.2.2.1 (hc.2.2.2.2.2.1 _ hw) hd (k p l e s m args below meth c ad D ty H locs lsA hc hP hD hS hL)
theorem ev_iload_n {i : Fin 4} {x : Int} (hd : decode q.2.1 pc = .ok (.iload_n i, 1)) (hl : lk ls i = some (.inl x)) (hn : pc + 1 = np) (k : Ev S q np ls (.inl x :: st) M Q) : Ev S q pc ls st M Q := by
  subst hn
  intro p l e s m args below meth c ad D ty H locs lsA hc hP hD hS hL
  exact lv_iload_n hc.1 hc.2.1 hd rfl (hL.2.2 i _ hl) (k p l e s m args below meth c ad D ty H locs lsA hc hP hD hS hL)
theorem ev_iload {i : Nat} {x : Int} (hd : decode q.2.1 pc = .ok (.iload i, 2)) (hl : lk ls i = some (.inl x)) (hn : pc + 2 = np) (k : Ev S q np ls (.inl x :: st) M Q) : Ev S q pc ls st M Q := by
  subst hn
  intro p l e s m args below meth c ad D ty H locs lsA hc hP hD hS hL
  exact lv_iload hc.1 hc.2.1 hd (hL.2.2 i _ hl) (k p l e s m args below meth c ad D ty H locs lsA hc hP hD hS hL)
theorem ev_aload_n {i : Fin 4} {x : Cc} (hd : decode q.2.1 pc = .ok (.aload_n i, 1)) (hl : lk ls i = some (.inr x)) (hn : pc + 1 = np) (k : Ev S q np ls (.inr x :: st) M Q) : Ev S q pc ls st M Q := by
  subst hn
  intro p l e s m args below meth c ad D ty H locs lsA hc hP hD hS hL
  exact lv_aload_n hc.1 hc.2.1 hd rfl (hL.2.2 i _ hl) (k p l e s m args below meth c ad D ty H locs lsA hc hP hD hS hL)
theorem ev_aload {i : Nat} {x : Cc} (hd : decode q.2.1 pc = .ok (.aload i, 2)) (hl : lk ls i = some (.inr x)) (hn : pc + 2 = np) (k : Ev S q np ls (.inr x :: st) M Q) : Ev S q pc ls st M Q := by
  subst hn
  intro p l e s m args below meth c ad D ty H locs lsA hc hP hD hS hL
  exact lv_aload hc.1 hc.2.1 hd (hL.2.2 i _ hl) (k p l e s m args below meth c ad D ty H locs lsA hc hP hD hS hL)
theorem ev_istore_n {i : Fin 4} {x : Int} (hd : decode q.2.1 pc = .ok (.istore_n i, 1)) (hi : (i : Nat) < q.2.2.1) (hn : pc + 1 = np) (k : Ev S q np (stL ls i (.inl x)) st M Q) : Ev S q pc ls (.inl x :: st) M Q := by
  subst hn
  intro p l e s m args below meth c ad D ty H locs lsA hc hP hD hS hL
  exact lv_istore_n hc.1 hc.2.1 hd rfl hL.has hi rfl (fun ls' hv => k p l e s m args below meth c ad D ty H locs ls' hc hP hD hS (LH.set (v := .inl x) hv))
theorem ev_istore {i : Nat} {x : Int} (hd : decode q.2.1 pc = .ok (.istore i, 2)) (hi : i < q.2.2.1) (hn : pc + 2 = np) (k : Ev S q np (stL ls i (.inl x)) st M Q) : Ev S q pc ls (.inl x :: st) M Q := by
  subst hn
  intro p l e s m args below meth c ad D ty H locs lsA hc hP hD hS hL
  exact lv_istore hc.1 hc.2.1 hd hL.has hi rfl (fun ls' hv => k p l e s m args below meth c ad D ty H locs ls' hc hP hD hS (LH.set (v := .inl x) hv))
theorem ev_astore_n {i : Fin 4} {x : Cc} (hd : decode q.2.1 pc = .ok (.astore_n i, 1)) (hi : (i : Nat) < q.2.2.1) (hn : pc + 1 = np) (k : Ev S q np (stL ls i (.inr x)) st M Q) : Ev S q pc ls (.inr x :: st) M Q := by
  subst hn
  intro p l e s m args below meth c ad D ty H locs lsA hc hP hD hS hL
  exact lv_astore_n hc.1 hc.2.1 hd rfl hL.has hi rfl (fun ls' hv => k p l e s m args below meth c ad D ty H locs ls' hc hP hD hS (LH.set (v := .inr x) hv))
theorem ev_astore {i : Nat} {x : Cc} (hd : decode q.2.1 pc = .ok (.astore i, 2)) (hi : i < q.2.2.1) (hn : pc + 2 = np) (k : Ev S q np (stL ls i (.inr x)) st M Q) : Ev S q pc ls (.inr x :: st) M Q := by
  subst hn
  intro p l e s m args below meth c ad D ty H locs lsA hc hP hD hS hL
  exact lv_astore hc.1 hc.2.1 hd hL.has hi rfl (fun ls' hv => k p l e s m args below meth c ad D ty H locs ls' hc hP hD hS (LH.set (v := .inr x) hv))
theorem lvl_at {ad : Cc → Nat} {ls : List (Option Val)} {i : Nat} {v : Val} (h : lk ls i = some v) : ∃ k : Nat, (lvl ad ls)[k]? = some (i, cvv ad v) :=
  List.getElem?_of_mem (List.mem_filterMap.mpr ⟨i, List.mem_range.mpr (lk_lt _ _ _ h), by rw [h]; rfl⟩)
theorem ev_iinc {i : Nat} {n x : Int} (hd : decode q.2.1 pc = .ok (.iinc i n, 3)) (hl : lk ls i = some (.inl x)) (hi : i < q.2.2.1) (hn : pc + 3 = np) (k : Ev S q np (stL ls i (.inl (x + n))) st M Q) : Ev S q pc ls st M Q := by
  subst hn
  intro p l e s m args below meth c ad D ty H locs lsA hc hP hD hS hL
  obtain ⟨j, hj⟩ := lvl_at (ad := ad) hl
  exact lv_iinc hc.1 hc.2.1 hd hL.has hj (by rw [Int32.ofInt_add]) hi rfl (fun ls' hv => k p l e s m args below meth c ad D ty H locs ls' hc hP hD hS (LH.set (v := .inl (x + n)) hv))
theorem ev_iadd {x y : Int} (hd : decode q.2.1 pc = .ok (.iadd, 1)) (hn : pc + 1 = np) (k : Ev S q np ls (.inl (x + y) :: st) M Q) : Ev S q pc ls (.inl y :: .inl x :: st) M Q := by
  subst hn
  intro p l e s m args below meth c ad D ty H locs lsA hc hP hD hS hL
  have h := k p l e s m args below meth c ad D ty H locs lsA hc hP hD hS hL
  simp only [List.map_cons, cvv, Int32.ofInt_add] at h
  exact lv_iadd hc.1 hc.2.1 hd h
theorem ev_isub {x y : Int} (hd : decode q.2.1 pc = .ok (.isub, 1)) (hn : pc + 1 = np) (k : Ev S q np ls (.inl (x - y) :: st) M Q) : Ev S q pc ls (.inl y :: .inl x :: st) M Q := by
  subst hn
  intro p l e s m args below meth c ad D ty H locs lsA hc hP hD hS hL
  have h := k p l e s m args below meth c ad D ty H locs lsA hc hP hD hS hL
  simp only [List.map_cons, cvv, Int32.ofInt_sub] at h
  exact lv_isub hc.1 hc.2.1 hd h
theorem ev_imul {x y : Int} (hd : decode q.2.1 pc = .ok (.imul, 1)) (hn : pc + 1 = np) (k : Ev S q np ls (.inl (x * y) :: st) M Q) : Ev S q pc ls (.inl y :: .inl x :: st) M Q := by
  subst hn
  intro p l e s m args below meth c ad D ty H locs lsA hc hP hD hS hL
  have h := k p l e s m args below meth c ad D ty H locs lsA hc hP hD hS hL
  simp only [List.map_cons, cvv, Int32.ofInt_mul] at h
  exact lv_imul hc.1 hc.2.1 hd h
theorem ev_dup {x : Val} (hd : decode q.2.1 pc = .ok (.dup, 1)) (hn : pc + 1 = np) (k : Ev S q np ls (x :: x :: st) M Q) : Ev S q pc ls (x :: st) M Q := by
  subst hn
  intro p l e s m args below meth c ad D ty H locs lsA hc hP hD hS hL
  exact lv_dup hc.1 hc.2.1 hd (cvv_cat ad x) (k p l e s m args below meth c ad D ty H locs lsA hc hP hD hS hL)
theorem ev_dup2 {x y : Val} (hd : decode q.2.1 pc = .ok (.dup2, 1)) (hn : pc + 1 = np) (k : Ev S q np ls (x :: y :: x :: y :: st) M Q) : Ev S q pc ls (x :: y :: st) M Q := by
  subst hn
  intro p l e s m args below meth c ad D ty H locs lsA hc hP hD hS hL
  exact lv_dup2_11 hc.1 hc.2.1 hd (cvv_cat ad x) (cvv_cat ad y) (k p l e s m args below meth c ad D ty H locs lsA hc hP hD hS hL)
theorem i32_eq {x y : Int} (hx : Rng x) (hy : Rng y) : Int32.ofInt x = Int32.ofInt y ↔ x = y := by
  constructor
  · intro h
    have h2 := congrArg Int32.toInt h
    rwa [Int32.toInt_ofInt_of_le (by omega) (by omega), Int32.toInt_ofInt_of_le (by omega) (by omega)] at h2
  · rintro rfl; rfl
theorem i32_lt {x y : Int} (hx : Rng x) (hy : Rng y) : Int32.ofInt x < Int32.ofInt y ↔ x < y := by
  rw [Int32.lt_iff_toInt_lt, Int32.toInt_ofInt_of_le (by omega) (by omega), Int32.toInt_ofInt_of_le (by omega) (by omega)]
theorem i32_le {x y : Int} (hx : Rng x) (hy : Rng y) : Int32.ofInt x ≤ Int32.ofInt y ↔ x ≤ y := by
  rw [Int32.le_iff_toInt_le, Int32.toInt_ofInt_of_le (by omega) (by omega), Int32.toInt_ofInt_of_le (by omega) (by omega)]
theorem rng0 : Rng 0 := by unfold Rng; omega
theorem i32_toInt {x : Int} (hx : Rng x) : (Int32.ofInt x).toInt = x := Int32.toInt_ofInt_of_le (by omega) (by omega)

theorem ev_icmp_eq {x y : Int} {off : Int} {tgt : Nat} (hd : decode q.2.1 pc = .ok (.if_icmp .eq off, 3)) (ht : (pc : Int) + off = (tgt : Int)) (hn : pc + 3 = np) (hx : Rng x) (hy : Rng y) (kt : x = y → Ev S q tgt ls st M Q) (kf : ¬ x = y → Ev S q np ls st M Q) : Ev S q pc ls (.inl y :: .inl x :: st) M Q := by
  subst hn
  intro p l e s m args below meth c ad D ty H locs lsA hc hP hD hS hL
  exact lv_icmp_eq hc.1 hc.2.1 hd ht (fun h => kt ((i32_eq hx hy).mp h) p l e s m args below meth c ad D ty H locs lsA hc hP hD hS hL) (fun h => kf (fun h2 => h ((i32_eq hx hy).mpr h2)) p l e s m args below meth c ad D ty H locs lsA hc hP hD hS hL)
theorem ev_if_eq {x : Int} {off : Int} {tgt : Nat} (hd : decode q.2.1 pc = .ok (.ifCond .eq off, 3)) (ht : (pc : Int) + off = (tgt : Int)) (hn : pc + 3 = np) (hx : Rng x) (kt : x = 0 → Ev S q tgt ls st M Q) (kf : ¬ x = 0 → Ev S q np ls st M Q) : Ev S q pc ls (.inl x :: st) M Q := by
  subst hn
  intro p l e s m args below meth c ad D ty H locs lsA hc hP hD hS hL
  exact lv_if_eq hc.1 hc.2.1 hd ht (fun h => kt ((i32_eq hx rng0).mp h) p l e s m args below meth c ad D ty H locs lsA hc hP hD hS hL) (fun h => kf (fun h2 => h ((i32_eq hx rng0).mpr h2)) p l e s m args below meth c ad D ty H locs lsA hc hP hD hS hL)
theorem ev_icmp_ne {x y : Int} {off : Int} {tgt : Nat} (hd : decode q.2.1 pc = .ok (.if_icmp .ne off, 3)) (ht : (pc : Int) + off = (tgt : Int)) (hn : pc + 3 = np) (hx : Rng x) (hy : Rng y) (kt : ¬ x = y → Ev S q tgt ls st M Q) (kf : x = y → Ev S q np ls st M Q) : Ev S q pc ls (.inl y :: .inl x :: st) M Q := by
  subst hn
  intro p l e s m args below meth c ad D ty H locs lsA hc hP hD hS hL
  exact lv_icmp_ne hc.1 hc.2.1 hd ht (fun h => kt ((not_congr (i32_eq hx hy)).mp h) p l e s m args below meth c ad D ty H locs lsA hc hP hD hS hL) (fun h => kf ((i32_eq hx hy).mp h) p l e s m args below meth c ad D ty H locs lsA hc hP hD hS hL)
theorem ev_if_ne {x : Int} {off : Int} {tgt : Nat} (hd : decode q.2.1 pc = .ok (.ifCond .ne off, 3)) (ht : (pc : Int) + off = (tgt : Int)) (hn : pc + 3 = np) (hx : Rng x) (kt : ¬ x = 0 → Ev S q tgt ls st M Q) (kf : x = 0 → Ev S q np ls st M Q) : Ev S q pc ls (.inl x :: st) M Q := by
  subst hn
  intro p l e s m args below meth c ad D ty H locs lsA hc hP hD hS hL
  exact lv_if_ne hc.1 hc.2.1 hd ht (fun h => kt ((not_congr (i32_eq hx rng0)).mp h) p l e s m args below meth c ad D ty H locs lsA hc hP hD hS hL) (fun h => kf ((i32_eq hx rng0).mp h) p l e s m args below meth c ad D ty H locs lsA hc hP hD hS hL)
theorem ev_icmp_lt {x y : Int} {off : Int} {tgt : Nat} (hd : decode q.2.1 pc = .ok (.if_icmp .lt off, 3)) (ht : (pc : Int) + off = (tgt : Int)) (hn : pc + 3 = np) (hx : Rng x) (hy : Rng y) (kt : x < y → Ev S q tgt ls st M Q) (kf : ¬ x < y → Ev S q np ls st M Q) : Ev S q pc ls (.inl y :: .inl x :: st) M Q := by
  subst hn
  intro p l e s m args below meth c ad D ty H locs lsA hc hP hD hS hL
  exact lv_icmp_lt hc.1 hc.2.1 hd ht (fun h => kt ((i32_lt hx hy).mp h) p l e s m args below meth c ad D ty H locs lsA hc hP hD hS hL) (fun h => kf (fun h2 => h ((i32_lt hx hy).mpr h2)) p l e s m args below meth c ad D ty H locs lsA hc hP hD hS hL)
theorem ev_if_lt {x : Int} {off : Int} {tgt : Nat} (hd : decode q.2.1 pc = .ok (.ifCond .lt off, 3)) (ht : (pc : Int) + off = (tgt : Int)) (hn : pc + 3 = np) (hx : Rng x) (kt : x < 0 → Ev S q tgt ls st M Q) (kf : ¬ x < 0 → Ev S q np ls st M Q) : Ev S q pc ls (.inl x :: st) M Q := by
  subst hn
  intro p l e s m args below meth c ad D ty H locs lsA hc hP hD hS hL
  exact lv_if_lt hc.1 hc.2.1 hd ht (fun h => kt ((i32_lt hx rng0).mp h) p l e s m args below meth c ad D ty H locs lsA hc hP hD hS hL) (fun h => kf (fun h2 => h ((i32_lt hx rng0).mpr h2)) p l e s m args below meth c ad D ty H locs lsA hc hP hD hS hL)
theorem ev_icmp_ge {x y : Int} {off : Int} {tgt : Nat} (hd : decode q.2.1 pc = .ok (.if_icmp .ge off, 3)) (ht : (pc : Int) + off = (tgt : Int)) (hn : pc + 3 = np) (hx : Rng x) (hy : Rng y) (kt : x ≥ y → Ev S q tgt ls st M Q) (kf : ¬ x ≥ y → Ev S q np ls st M Q) : Ev S q pc ls (.inl y :: .inl x :: st) M Q := by
  subst hn
  intro p l e s m args below meth c ad D ty H locs lsA hc hP hD hS hL
  exact lv_icmp_ge hc.1 hc.2.1 hd ht (fun h => kt ((i32_le hy hx).mp h) p l e s m args below meth c ad D ty H locs lsA hc hP hD hS hL) (fun h => kf (fun h2 => h ((i32_le hy hx).mpr h2)) p l e s m args below meth c ad D ty H locs lsA hc hP hD hS hL)
theorem ev_if_ge {x : Int} {off : Int} {tgt : Nat} (hd : decode q.2.1 pc = .ok (.ifCond .ge off, 3)) (ht : (pc : Int) + off = (tgt : Int)) (hn : pc + 3 = np) (hx : Rng x) (kt : x ≥ 0 → Ev S q tgt ls st M Q) (kf : ¬ x ≥ 0 → Ev S q np ls st M Q) : Ev S q pc ls (.inl x :: st) M Q := by
  subst hn
  intro p l e s m args below meth c ad D ty H locs lsA hc hP hD hS hL
  exact lv_if_ge hc.1 hc.2.1 hd ht (fun h => kt ((i32_le rng0 hx).mp h) p l e s m args below meth c ad D ty H locs lsA hc hP hD hS hL) (fun h => kf (fun h2 => h ((i32_le rng0 hx).mpr h2)) p l e s m args below meth c ad D ty H locs lsA hc hP hD hS hL)
theorem ev_icmp_gt {x y : Int} {off : Int} {tgt : Nat} (hd : decode q.2.1 pc = .ok (.if_icmp .gt off, 3)) (ht : (pc : Int) + off = (tgt : Int)) (hn : pc + 3 = np) (hx : Rng x) (hy : Rng y) (kt : x > y → Ev S q tgt ls st M Q) (kf : ¬ x > y → Ev S q np ls st M Q) : Ev S q pc ls (.inl y :: .inl x :: st) M Q := by
  subst hn
  intro p l e s m args below meth c ad D ty H locs lsA hc hP hD hS hL
  exact lv_icmp_gt hc.1 hc.2.1 hd ht (fun h => kt ((i32_lt hy hx).mp h) p l e s m args below meth c ad D ty H locs lsA hc hP hD hS hL) (fun h => kf (fun h2 => h ((i32_lt hy hx).mpr h2)) p l e s m args below meth c ad D ty H locs lsA hc hP hD hS hL)
theorem ev_if_gt {x : Int} {off : Int} {tgt : Nat} (hd : decode q.2.1 pc = .ok (.ifCond .gt off, 3)) (ht : (pc : Int) + off = (tgt : Int)) (hn : pc + 3 = np) (hx : Rng x) (kt : x > 0 → Ev S q tgt ls st M Q) (kf : ¬ x > 0 → Ev S q np ls st M Q) : Ev S q pc ls (.inl x :: st) M Q := by
  subst hn
  intro p l e s m args below meth c ad D ty H locs lsA hc hP hD hS hL
  exact lv_if_gt hc.1 hc.2.1 hd ht (fun h => kt ((i32_lt rng0 hx).mp h) p l e s m args below meth c ad D ty H locs lsA hc hP hD hS hL) (fun h => kf (fun h2 => h ((i32_lt rng0 hx).mpr h2)) p l e s m args below meth c ad D ty H locs lsA hc hP hD hS hL)
theorem ev_icmp_le {x y : Int} {off : Int} {tgt : Nat} (hd : decode q.2.1 pc = .ok (.if_icmp .le off, 3)) (ht : (pc : Int) + off = (tgt : Int)) (hn : pc + 3 = np) (hx : Rng x) (hy : Rng y) (kt : x ≤ y → Ev S q tgt ls st M Q) (kf : ¬ x ≤ y → Ev S q np ls st M Q) : Ev S q pc ls (.inl y :: .inl x :: st) M Q := by
  subst hn
  intro p l e s m args below meth c ad D ty H locs lsA hc hP hD hS hL
  exact lv_icmp_le hc.1 hc.2.1 hd ht (fun h => kt ((i32_le hx hy).mp h) p l e s m args below meth c ad D ty H locs lsA hc hP hD hS hL) (fun h => kf (fun h2 => h ((i32_le hx hy).mpr h2)) p l e s m args below meth c ad D ty H locs lsA hc hP hD hS hL)
theorem ev_if_le {x : Int} {off : Int} {tgt : Nat} (hd : decode q.2.1 pc = .ok (.ifCond .le off, 3)) (ht : (pc : Int) + off = (tgt : Int)) (hn : pc + 3 = np) (hx : Rng x) (kt : x ≤ 0 → Ev S q tgt ls st M Q) (kf : ¬ x ≤ 0 → Ev S q np ls st M Q) : Ev S q pc ls (.inl x :: st) M Q := by
  subst hn
  intro p l e s m args below meth c ad D ty H locs lsA hc hP hD hS hL
  exact lv_if_le hc.1 hc.2.1 hd ht (fun h => kt ((i32_le hx rng0).mp h) p l e s m args below meth c ad D ty H locs lsA hc hP hD hS hL) (fun h => kf (fun h2 => h ((i32_le hx rng0).mpr h2)) p l e s m args below meth c ad D ty H locs lsA hc hP hD hS hL)
end RU
