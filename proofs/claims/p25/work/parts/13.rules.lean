section RV
variable {S : Sy} {q : MI} {pc np : Nat} {ls : List (Option Val)} {st : List Val} {M : Mem} {Q : Option Val → Mem → Prop}
theorem ev_idiv {x y : Int} (hd : decode q.2.1 pc = .ok (.idiv, 1)) (hx : 0 ≤ x ∧ x < 2147483648) (hy : 0 < y ∧ y < 2147483648) (hn : pc + 1 = np) (k : Ev S q np ls (.inl (x / y) :: st) M Q) : Ev S q pc ls (.inl y :: .inl x :: st) M Q := by
  subst hn
  intro p l e s m args below meth c ad D ty H locs lsA hc hP hD hS hL
  have h := k p l e s m args below meth c ad D ty H locs lsA hc hP hD hS hL
  obtain ⟨a, rfl⟩ := Int.eq_ofNat_of_zero_le hx.1
  obtain ⟨b, rfl⟩ := Int.eq_ofNat_of_zero_le (Int.le_of_lt hy.1)
  simp only [List.map_cons, cvv] at h ⊢
  rw [← Int.natCast_ediv, iNn, ← pk_div (by omega) (by omega) (by omega)] at h
  rw [iNn, iNn]
  exact lv_idiv hc.1 hc.2.1 hd (nI_ne0 (by omega) (by omega)) h
theorem ev_irem {x y : Int} (hd : decode q.2.1 pc = .ok (.irem, 1)) (hx : 0 ≤ x ∧ x < 2147483648) (hy : 0 < y ∧ y < 2147483648) (hn : pc + 1 = np) (k : Ev S q np ls (.inl (x % y) :: st) M Q) : Ev S q pc ls (.inl y :: .inl x :: st) M Q := by
  subst hn
  intro p l e s m args below meth c ad D ty H locs lsA hc hP hD hS hL
  have h := k p l e s m args below meth c ad D ty H locs lsA hc hP hD hS hL
  obtain ⟨a, rfl⟩ := Int.eq_ofNat_of_zero_le hx.1
  obtain ⟨b, rfl⟩ := Int.eq_ofNat_of_zero_le (Int.le_of_lt hy.1)
  simp only [List.map_cons, cvv] at h ⊢
  rw [← Int.natCast_emod, iNn, ← pk_rem (by omega) (by omega) (by omega)] at h
  rw [iNn, iNn]
  exact lv_irem hc.1 hc.2.1 hd (nI_ne0 (by omega) (by omega)) h
theorem ev_iand {x y : Int} (hd : decode q.2.1 pc = .ok (.iand, 1)) (hx : 0 ≤ x) (hy : 0 ≤ y) (hn : pc + 1 = np) (k : Ev S q np ls (.inl ((x.toNat &&& y.toNat : Nat) : Int) :: st) M Q) : Ev S q pc ls (.inl y :: .inl x :: st) M Q := by
  subst hn
  intro p l e s m args below meth c ad D ty H locs lsA hc hP hD hS hL
  have h := k p l e s m args below meth c ad D ty H locs lsA hc hP hD hS hL
  simp only [List.map_cons, cvv, iNn, ← fx_and] at h ⊢
  rw [iN hx, iN hy]
  exact lv_iand hc.1 hc.2.1 hd h
/-- x & (2^k - 1) -/
theorem ev_iandm (j : Nat) {x y : Int} (hd : decode q.2.1 pc = .ok (.iand, 1)) (hj : j ≤ 31) (hy : y = ((2 ^ j - 1 : Nat) : Int)) (hn : pc + 1 = np) (k : Ev S q np ls (.inl (x % (2 ^ j : Nat)) :: st) M Q) : Ev S q pc ls (.inl y :: .inl x :: st) M Q := by
  subst hn; subst hy
  intro p l e s m args below meth c ad D ty H locs lsA hc hP hD hS hL
  have h := k p l e s m args below meth c ad D ty H locs lsA hc hP hD hS hL
  simp only [List.map_cons, cvv, ← fx_mask x j hj] at h ⊢
  exact lv_iand hc.1 hc.2.1 hd h
/-- x & ~y -/
theorem ev_iandn {x y : Int} (hd : decode q.2.1 pc = .ok (.iand, 1)) (hx : 0 ≤ x ∧ x < 2147483648) (hy : 0 ≤ y ∧ y < 2147483648) (hn : pc + 1 = np) (k : Ev S q np ls (.inl ((x.toNat - (x.toNat &&& y.toNat) : Nat) : Int) :: st) M Q) : Ev S q pc ls (.inl (-y - 1) :: .inl x :: st) M Q := by
  subst hn
  intro p l e s m args below meth c ad D ty H locs lsA hc hP hD hS hL
  have h := k p l e s m args below meth c ad D ty H locs lsA hc hP hD hS hL
  simp only [List.map_cons, cvv] at h ⊢
  rw [← fx_andnot (by omega) (by omega), Int.toNat_of_nonneg hx.1, Int.toNat_of_nonneg hy.1] at h
  exact lv_iand hc.1 hc.2.1 hd h
theorem ev_ior {x y : Int} (hd : decode q.2.1 pc = .ok (.ior, 1)) (hx : 0 ≤ x) (hy : 0 ≤ y) (hn : pc + 1 = np) (k : Ev S q np ls (.inl ((x.toNat ||| y.toNat : Nat) : Int) :: st) M Q) : Ev S q pc ls (.inl y :: .inl x :: st) M Q := by
  subst hn
  intro p l e s m args below meth c ad D ty H locs lsA hc hP hD hS hL
  have h := k p l e s m args below meth c ad D ty H locs lsA hc hP hD hS hL
  simp only [List.map_cons, cvv, iNn, ← fx_or] at h ⊢
  rw [iN hx, iN hy]
  exact lv_ior hc.1 hc.2.1 hd h
theorem ev_ixor {x y : Int} (hd : decode q.2.1 pc = .ok (.ixor, 1)) (hx : 0 ≤ x) (hy : 0 ≤ y) (hn : pc + 1 = np) (k : Ev S q np ls (.inl ((x.toNat ^^^ y.toNat : Nat) : Int) :: st) M Q) : Ev S q pc ls (.inl y :: .inl x :: st) M Q := by
  subst hn
  intro p l e s m args below meth c ad D ty H locs lsA hc hP hD hS hL
  have h := k p l e s m args below meth c ad D ty H locs lsA hc hP hD hS hL
  simp only [List.map_cons, cvv, iNn, ← fx_xor] at h ⊢
  rw [iN hx, iN hy]
  exact lv_ixor hc.1 hc.2.1 hd h
theorem ev_inot {x : Int} (hd : decode q.2.1 pc = .ok (.ixor, 1)) (hn : pc + 1 = np) (k : Ev S q np ls (.inl (-x - 1) :: st) M Q) : Ev S q pc ls (.inl (-1) :: .inl x :: st) M Q := by
  subst hn
  intro p l e s m args below meth c ad D ty H locs lsA hc hP hD hS hL
  have h := k p l e s m args below meth c ad D ty H locs lsA hc hP hD hS hL
  simp only [List.map_cons, cvv, ← fx_neg1] at h ⊢
  exact lv_ixor hc.1 hc.2.1 hd h
theorem ev_ishl {x y : Int} (hd : decode q.2.1 pc = .ok (.ishl, 1)) (hy : 0 ≤ y ∧ y < 32) (hn : pc + 1 = np) (k : Ev S q np ls (.inl (x * (2 ^ y.toNat : Nat)) :: st) M Q) : Ev S q pc ls (.inl y :: .inl x :: st) M Q := by
  subst hn
  intro p l e s m args below meth c ad D ty H locs lsA hc hP hD hS hL
  have h := k p l e s m args below meth c ad D ty H locs lsA hc hP hD hS hL
  simp only [List.map_cons, cvv, ← fx_shl x hy] at h ⊢
  exact lv_ishl hc.1 hc.2.1 hd h
theorem ev_ishr {x y : Int} (hd : decode q.2.1 pc = .ok (.ishr, 1)) (hx : Rng x) (hy : 0 ≤ y ∧ y < 32) (hn : pc + 1 = np) (k : Ev S q np ls (.inl (x / (2 ^ y.toNat : Nat)) :: st) M Q) : Ev S q pc ls (.inl y :: .inl x :: st) M Q := by
  subst hn
  intro p l e s m args below meth c ad D ty H locs lsA hc hP hD hS hL
  have h := k p l e s m args below meth c ad D ty H locs lsA hc hP hD hS hL
  simp only [List.map_cons, cvv, ← fx_shr hx hy] at h ⊢
  exact lv_ishr hc.1 hc.2.1 hd h
theorem ev_iushrU {x y : Int} (hd : decode q.2.1 pc = .ok (.iushr, 1)) (hy : 0 ≤ y ∧ y < 32) (hn : pc + 1 = np) (k : Ev S q np ls (.inl ((x % 4294967296) / (2 ^ y.toNat : Nat)) :: st) M Q) : Ev S q pc ls (.inl y :: .inl x :: st) M Q := by
  subst hn
  intro p l e s m args below meth c ad D ty H locs lsA hc hP hD hS hL
  have h := k p l e s m args below meth c ad D ty H locs lsA hc hP hD hS hL
  simp only [List.map_cons, cvv] at h ⊢
  exact lv_iushr hc.1 hc.2.1 hd (fx_ushr hy) h
theorem ev_iushr {x y : Int} (hd : decode q.2.1 pc = .ok (.iushr, 1)) (hx : 0 ≤ x ∧ x < 2147483648) (hy : 0 ≤ y ∧ y < 32) (hn : pc + 1 = np) (k : Ev S q np ls (.inl (x / (2 ^ y.toNat : Nat)) :: st) M Q) : Ev S q pc ls (.inl y :: .inl x :: st) M Q :=
  ev_iushrU hd hy hn (by rw [Int.emod_eq_of_lt hx.1 (by omega)]; exact k)
theorem ev_i2c {x : Int} (hd : decode q.2.1 pc = .ok (.i2c, 1)) (hx : 0 ≤ x ∧ x < 65536) (hn : pc + 1 = np) (k : Ev S q np ls (.inl x :: st) M Q) : Ev S q pc ls (.inl x :: st) M Q := by
  subst hn
  intro p l e s m args below meth c ad D ty H locs lsA hc hP hD hS hL
  refine lv_i2c hc.1 hc.2.1 hd ?_ (k p l e s m args below meth c ad D ty H locs lsA hc hP hD hS hL)
  rw [pk_char, fx_tn, iN hx.1]
  congr 1
  omega
theorem ev_iret {v : Int} (hd : decode q.2.1 pc = .ok (.ireturn, 1)) (hr : q.2.2.2.1 = some .int) (hq : Q (some (.inl v)) M) : Ev S q pc ls [.inl v] M Q := by
  intro p l e s m args below meth c ad D ty H locs lsA hc hP hD hS hL
  exact W.iret (v := Int32.ofInt v) hc.1 hc.2.1 (hc.2.2.1.trans hr) (fun t ht hW => ⟨⟨some (.inl v), M, rfl, hq, by rw [ht]; exact hP⟩, hS.F ht⟩) hS.2.2 hd hc.2.2.2.2.2.2.1
theorem ev_zret {v : Int} (hd : decode q.2.1 pc = .ok (.ireturn, 1)) (hr : q.2.2.2.1 = some .boolean) (hv : v = 0 ∨ v = 1) (hq : Q (some (.inl v)) M) : Ev S q pc ls [.inl v] M Q := by
  intro p l e s m args below meth c ad D ty H locs lsA hc hP hD hS hL
  exact W.zret (v := Int32.ofInt v) hc.1 hc.2.1 (hc.2.2.1.trans hr) (by rcases hv with rfl | rfl <;> rfl) (fun t ht hW => ⟨⟨some (.inl v), M, rfl, hq, by rw [ht]; exact hP⟩, hS.F ht⟩) hS.2.2 hd hc.2.2.2.2.2.2.1
theorem ev_vret (hd : decode q.2.1 pc = .ok (.return_, 1)) (hr : q.2.2.2.1 = none) (hq : Q none M) : Ev S q pc ls [] M Q := by
  intro p l e s m args below meth c ad D ty H locs lsA hc hP hD hS hL
  exact W.vret hc.1 hc.2.1 (hc.2.2.1.trans hr) (fun t ht hW => ⟨⟨none, M, rfl, hq, by rw [ht]; exact hP⟩, hS.F ht⟩) hS.2.2 hd hc.2.2.2.2.2.2.1
theorem ev_aret {v : Cc} {n : String} (hd : decode q.2.1 pc = .ok (.areturn, 1)) (hr : q.2.2.2.1 = some (.object n)) (hq : Q (some (.inr v)) M) : Ev S q pc ls [.inr v] M Q := by
  intro p l e s m args below meth c ad D ty H locs lsA hc hP hD hS hL
  exact W.aret (v := .ref (ad v)) hc.1 hc.2.1 (hc.2.2.1.trans hr) (Or.inl ⟨n, rfl⟩) (Or.inr ⟨_, rfl⟩) (fun t ht hW => ⟨⟨some (.inr v), M, rfl, hq, by rw [ht]; exact hP⟩, hS.F ht⟩) hS.2.2 hd hc.2.2.2.2.2.2.1
-- switches
theorem ev_swIn {dflt lo hi : Int} {offs : Array Int} {len : Nat} {x : Int} {off : Int} (hd : decode q.2.1 pc = .ok (.tableswitch dflt lo hi offs, len)) (hx : Rng x) (h1 : lo ≤ x ∧ x ≤ hi) (ho : offs[(x - lo).toNat]? = some off) (ht : (pc : Int) + off = (np : Int)) (k : Ev S q np ls st M Q) : Ev S q pc ls (.inl x :: st) M Q := by
  intro p l e s m args below meth c ad D ty H locs lsA hc hP hD hS hL
  exact lv_tableIn hc.1 hc.2.1 hd (by rw [i32_toInt hx]; omega) (by rw [i32_toInt hx]; omega) (by rw [i32_toInt hx]; exact ho) ht (k p l e s m args below meth c ad D ty H locs lsA hc hP hD hS hL)
theorem ev_swOut {dflt lo hi : Int} {offs : Array Int} {len : Nat} {x : Int} (hd : decode q.2.1 pc = .ok (.tableswitch dflt lo hi offs, len)) (hx : Rng x) (h1 : x < lo ∨ hi < x) (ht : (pc : Int) + dflt = (np : Int)) (k : Ev S q np ls st M Q) : Ev S q pc ls (.inl x :: st) M Q := by
  intro p l e s m args below meth c ad D ty H locs lsA hc hP hD hS hL
  exact lv_tableOut hc.1 hc.2.1 hd (by rw [i32_toInt hx]; exact h1) ht (k p l e s m args below meth c ad D ty H locs lsA hc hP hD hS hL)
theorem ev_lsw {dflt : Int} {ps : Array (Int × Int)} {len : Nat} {x off : Int} (hd : decode q.2.1 pc = .ok (.lookupswitch dflt ps, len)) (hx : Rng x) (hp : (ps.toList.zip (ps.toList.drop 1)).all (fun (a, next) => a.1 < next.1) = true) (ho : Op.lookupswitch.offset ps.toList dflt x = off) (ht : (pc : Int) + off = (np : Int)) (k : Ev S q np ls st M Q) : Ev S q pc ls (.inl x :: st) M Q := by
  intro p l e s m args below meth c ad D ty H locs lsA hc hP hD hS hL
  exact lv_lookup hc.1 hc.2.1 hd hp (by rw [i32_toInt hx]; exact ho) ht (k p l e s m args below meth c ad D ty H locs lsA hc hP hD hS hL)
-- arrays
theorem arr_at {c0 : Cc} {b : Bool} {n : Nat} {ad : Cc → Nat} {ty : Bool → ClassId} {k : Nat} (hs : S.1 c0 = some (.inl (b, n))) (hk : S.2[k]? = some c0) : (wl S ad ty M)[k]? = some (ad c0, .inl (ty b, n, .inl (fun j => Int32.ofInt (M c0 j)))) := by
  rw [wl_at hk, hs]; rfl
theorem tys_at (ty : Bool → ClassId) (b : Bool) : ∃ t0 : Nat, ([(ty false, .int), (ty true, .int)] : List (ClassId × FieldType))[t0]? = some (ty b, .int) := by
  cases b
  · exact ⟨0, rfl⟩
  · exact ⟨1, rfl⟩
theorem vp_inI {i : Int} {n : Nat} (hi : 0 ≤ i ∧ i < (n : Int)) (h2 : i < 2147483648) : vp_in (Int32.ofInt i) n ∧ (Int32.ofInt i).toNatClampNeg = i.toNat := by
  rw [iN hi.1]
  refine ⟨?_, nI_clamp (by omega)⟩
  unfold vp_in
  rw [nI_clamp (by omega)]
  rintro (h | h)
  · exact nI_pos (by omega) h
  · omega
theorem ev_alen {c0 : Cc} {b : Bool} {n : Nat} (hd : decode q.2.1 pc = .ok (.arraylength, 1)) (hs : S.1 c0 = some (.inl (b, n))) (hn : pc + 1 = np) (k : Ev S q np ls (.inl (n : Int) :: st) M Q) : Ev S q pc ls (.inr c0 :: st) M Q := by
  subst hn
  intro p l e s m args below meth c ad D ty H locs lsA hc hP hD hS hL
  obtain ⟨j, hj⟩ := wl_ix hc.2.2.2.2.2.2.2.2.2 hs
  obtain ⟨t0, ht⟩ := tys_at ty b
  exact va_alen hc.1 hc.2.1 hc.2.2.2.2.2.2.2.1 hP j t0 (arr_at hs hj) ht (iNn n).symm hd (k p l e s m args below meth c ad D ty H locs lsA hc hP hD hS hL)
theorem ev_iaload {c0 : Cc} {n : Nat} {i : Int} (hd : decode q.2.1 pc = .ok (.iaload, 1)) (hs : S.1 c0 = some (.inl (false, n))) (hi : 0 ≤ i ∧ i < (n : Int)) (h2 : i < 2147483648) (hn : pc + 1 = np) (k : Ev S q np ls (.inl (M c0 i.toNat) :: st) M Q) : Ev S q pc ls (.inl i :: .inr c0 :: st) M Q := by
  subst hn
  intro p l e s m args below meth c ad D ty H locs lsA hc hP hD hS hL
  obtain ⟨j, hj⟩ := wl_ix hc.2.2.2.2.2.2.2.2.2 hs
  obtain ⟨g1, g2⟩ := vp_inI hi h2
  have h := k p l e s m args below meth c ad D ty H locs lsA hc hP hD hS hL
  simp only [List.map_cons, cvv, ← g2] at h ⊢
  exact va_iald hc.1 hc.2.1 hc.2.2.2.2.2.2.2.1 hP j 0 (arr_at hs hj) rfl g1 hd h
theorem updM_same (M : Mem) (c : Cc) (k : Nat) (v : Int) : updM M c k v c k = v := by simp [updM]
theorem upd_eq {c0 : Cc} {i v : Int} : upd (fun j => Int32.ofInt (M c0 j)) i.toNat (Int32.ofInt v) = fun j => Int32.ofInt (updM M c0 i.toNat v c0 j) := by
  funext j
  by_cases h : j = i.toNat <;> simp [upd, updM, h]
theorem ev_iastore {c0 : Cc} {n : Nat} {i v : Int} (hd : decode q.2.1 pc = .ok (.iastore, 1)) (hs : S.1 c0 = some (.inl (false, n))) (hi : 0 ≤ i ∧ i < (n : Int)) (h2 : i < 2147483648) (hn : pc + 1 = np) (k : Ev S q np ls st (updM M c0 i.toNat v) Q) : Ev S q pc ls (.inl v :: .inl i :: .inr c0 :: st) M Q := by
  subst hn
  intro p l e s m args below meth c ad D ty H locs lsA hc hP hD hS hL
  obtain ⟨j, hj⟩ := wl_ix hc.2.2.2.2.2.2.2.2.2 hs
  obtain ⟨g1, g2⟩ := vp_inI hi h2
  refine va_iast hc.1 hc.2.1 hc.2.2.2.2.2.2.2.1 hP hD hS j 0 (arr_at hs hj) rfl g1 hd (fun H1 locs1 hP1 hD1 hS1 => ?_)
  rw [wl_set hc.2.2.2.2.2.2.2.2.2 (M' := updM M c0 i.toNat v) hj (fun d hd => enS_upd d hd) (by rw [hs, g2, upd_eq]; rfl)] at hP1 hD1
  exact k p l e s m args below meth c ad D ty H1 locs1 lsA hc hP1 hD1 hS1 hL
-- fields
def SiteG (q : MI) (pc ci k : Nat) : Prop := ∃ (K : String) (T : u_T) (N idx : Nat), vwCl[ci]? = some (K, T, N) ∧ k < N ∧ (∀ w ∈ u_ws K T N, w ∈ TBL) ∧ Cond.fieldLink q.1.cls idx (T k).1 (T k).2.1 (T k).2.2.1 ∈ TBL ∧ decode q.2.1 pc = .ok (.getfield idx, 3)
def SiteP (q : MI) (pc ci k : Nat) : Prop := ∃ (K : String) (T : u_T) (N idx : Nat) (ty0 : Nat → FieldType), vwCl[ci]? = some (K, T, N) ∧ k < N ∧ (∀ w ∈ u_ws K T N, w ∈ TBL) ∧ Cond.fieldLink q.1.cls idx (T k).1 (T k).2.1 (T k).2.2.1 ∈ TBL ∧ decode q.2.1 pc = .ok (.putfield idx, 3) ∧ (∀ k, k < N → parseFieldDescriptor (T k).2.2.1 = some (ty0 k)) ∧ (∀ a, a < N → ∀ b, b < N → a ≠ b → (T a).2.1 ≠ (T b).2.1) ∧ (T k).2.2.2 = false ∧ ty0 k = .int
theorem obj_at {c0 : Cc} {ci : Nat} {fl : List (Option Cc)} {ad : Cc → Nat} {ty : Bool → ClassId} {k : Nat} (hs : S.1 c0 = some (.inr (ci, fl))) (hk : S.2[k]? = some c0) : (wl S ad ty M)[k]? = some (ad c0, .inr (ci, fl.mapIdx (enF ad M c0))) := by
  rw [wl_at hk, hs]; rfl
theorem ev_getV {ci k : Nat} {c0 : Cc} {fl : List (Option Cc)} {o : Option Cc} {v : Val} (sg : SiteG q pc ci k) (hs : S.1 c0 = some (.inr (ci, fl))) (hf : fl[k]? = some o) (hv : ∀ ad, enF ad M c0 k o = cvv ad v) (hn : pc + 3 = np) (kk : Ev S q np ls (v :: st) M Q) : Ev S q pc ls (.inr c0 :: st) M Q := by
  subst hn
  obtain ⟨K, T, N, idx, h1, h2, h3, h4, hd⟩ := sg
  intro p l e s m args below meth c ad D ty H locs lsA hc hP hD hS hL
  obtain ⟨j, hj⟩ := wl_ix hc.2.2.2.2.2.2.2.2.2 hs
  exact va_get hc.1 hc.2.1 hc.2.2.2.2.2.1 h3 hc.2.2.2.2.1 hc.2.2.2.2.2.2.2.1 hP j (obj_at hs hj) h1 k h2 (hc.2.2.2.2.2.1 _ h4) (fun _ h => h) (v := cvv ad v) (by rw [List.getElem?_mapIdx, hf]; exact congrArg some (hv ad)) hd (kk p l e s m args below meth c ad D ty H locs lsA hc hP hD hS hL)
theorem ev_getI {ci k : Nat} {c0 : Cc} {fl : List (Option Cc)} (sg : SiteG q pc ci k) (hs : S.1 c0 = some (.inr (ci, fl))) (hf : fl[k]? = some none) (hn : pc + 3 = np) (kk : Ev S q np ls (.inl (M c0 k) :: st) M Q) : Ev S q pc ls (.inr c0 :: st) M Q := ev_getV sg hs hf (fun _ => rfl) hn kk
theorem ev_getR {ci k : Nat} {c0 d : Cc} {fl : List (Option Cc)} (sg : SiteG q pc ci k) (hs : S.1 c0 = some (.inr (ci, fl))) (hf : fl[k]? = some (some d)) (hn : pc + 3 = np) (kk : Ev S q np ls (.inr d :: st) M Q) : Ev S q pc ls (.inr c0 :: st) M Q := ev_getV (v := .inr d) sg hs hf (fun _ => rfl) hn kk
theorem set_mapIdx {fl : List (Option Cc)} {ad : Cc → Nat} {c0 : Cc} {k : Nat} {v : Int} (hf : fl[k]? = some none) : (fl.mapIdx (enF ad M c0)).set k (.int (Int32.ofInt v)) = fl.mapIdx (enF ad (updM M c0 k v) c0) := by
  apply List.ext_getElem?
  intro i
  rw [List.getElem?_set]
  have hl : k < fl.length := (List.getElem?_eq_some_iff.mp hf).1
  by_cases hi : k = i
  · subst hi
    rw [if_pos rfl, if_pos (by simpa using hl), List.getElem?_mapIdx, hf]
    simp [enF, updM]
  · rw [if_neg hi, List.getElem?_mapIdx, List.getElem?_mapIdx]
    cases fl[i]? with
    | none => rfl
    | some o =>
      cases o with
      | none => simp [enF, updM, Ne.symm hi]
      | some d => rfl
theorem ev_put {ci k : Nat} {c0 : Cc} {fl : List (Option Cc)} {v : Int} (sp : SiteP q pc ci k) (hs : S.1 c0 = some (.inr (ci, fl))) (hf : fl[k]? = some none) (hn : pc + 3 = np) (kk : Ev S q np ls st (updM M c0 k v) Q) : Ev S q pc ls (.inl v :: .inr c0 :: st) M Q := by
  subst hn
  obtain ⟨K, T, N, idx, ty0, h1, h2, h3, h4, hd, h5, h6, h7, h8⟩ := sp
  intro p l e s m args below meth c ad D ty H locs lsA hc hP hD hS hL
  obtain ⟨j, hj⟩ := wl_ix hc.2.2.2.2.2.2.2.2.2 hs
  refine va_put hc.1 hc.2.1 hc.2.2.2.2.2.1 h3 ty0 h5 h6 hc.2.2.2.2.1 hc.2.2.2.2.2.2.2.1 hP hD hS j (obj_at hs hj) h1 k h2 (hc.2.2.2.2.2.1 _ h4) (fun _ h => h) h7 (ty := .int) (v := .int (Int32.ofInt v)) (by rw [h5 k h2, h8]) rfl rfl (by simpa using (List.getElem?_eq_some_iff.mp hf).1) hd (fun H1 locs1 hP1 hD1 hS1 => ?_)
  rw [set_mapIdx hf, wl_set hc.2.2.2.2.2.2.2.2.2 (M' := updM M c0 k v) hj (fun d hd => enS_upd d hd) (by rw [hs]; rfl)] at hP1 hD1
  exact kk p l e s m args below meth c ad D ty H1 locs1 lsA hc hP1 hD1 hS1 hL
end RV
