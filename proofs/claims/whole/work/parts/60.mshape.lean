/-! THE REFERENCE'S WORLD: the object 0, its arrays 1 to 15 -/
def shMo : List Sh := [
  .inr (10, [some (cX 1), some (cX 2), some (cX 3), none, some (cX 4), none, none, none, some (cX 5), none, some (cX 6), some (cX 7), some (cX 8), some (cX 9), some (cX 10), some (cX 11), none, none, none, some (cX 12), some (cX 13), some (cX 14), some (cX 15)]),
  .inl (false, 68), .inl (false, 272), .inl (false, 68), .inl (true, 80), .inl (false, 34), .inl (false, 16), .inl (false, 256), .inl (false, 256), .inl (false, 256), .inl (false, 256), .inl (false, 256), .inl (false, 20480), .inl (false, 20480), .inl (false, 16), .inl (false, 16)]
def shM : Cc → Option Sh
  | .inl n => shMo[n]?
  | _ => none
def csM : List Cc := (List.range 16).map cX
abbrev SM : Sy := (shM, csM)
theorem SM_ok : SyOk SM := by
  refine ⟨by decide +kernel, ?_⟩
  rintro (n | ⟨k, o⟩ | ⟨t, o⟩) h
  · have hn : n < 16 := by
      rcases Nat.lt_or_ge n 16 with h1 | h1
      · exact h1
      · exact absurd (List.getElem?_eq_none (by simpa [shMo] using h1)) h
    exact List.mem_map.mpr ⟨n, List.mem_range.mpr hn, rfl⟩
  · exact absurd rfl h
  · exact absurd rfl h
/-- only places that U names have changed -/
def Fy (U : Cc → Nat → Bool) (M N : Mem) : Prop := ∀ c j, U c j = false → N c j = M c j
theorem Fy.rf {U : Cc → Nat → Bool} {M : Mem} : Fy U M M := fun _ _ _ => rfl
theorem Fy.tr {U : Cc → Nat → Bool} {M N O : Mem} (a : Fy U M N) (b : Fy U N O) : Fy U M O := fun c j h => (b c j h).trans (a c j h)
theorem Fy.mono {U V : Cc → Nat → Bool} {M N : Mem} (a : Fy U M N) (h : ∀ c j, U c j = true → V c j = true) : Fy V M N := fun c j hc => a c j (by
  cases e : U c j with
  | false => rfl
  | true => rw [h c j e] at hc; cases hc)
theorem Fy.upd {U : Cc → Nat → Bool} {M : Mem} {c : Cc} {k : Nat} {v : Int} (h : U c k = true) : Fy U M (updM M c k v) := fun d j hd => by
  unfold updM
  rw [if_neg]
  rintro ⟨e1, e2⟩
  rw [e1, e2, h] at hd
  cases hd
/-- arrays and fields of the reference -/
def uM (as fs : List Nat) : Cc → Nat → Bool
  | .inl n, j => if n = 0 then fs.contains j else as.contains n
  | _, _ => false
theorem uM_le {as fs as' fs' : List Nat} (h : as.all (fun a => as'.contains a) = true ∧ fs.all (fun a => fs'.contains a) = true) : ∀ c j, uM as fs c j = true → uM as' fs' c j = true := by
  rintro (n | q) j e
  · simp only [uM] at e ⊢
    split
    · next g =>
      rw [if_pos g] at e
      exact List.all_eq_true.mp h.2 j (by simpa using e)
    · next g =>
      rw [if_neg g] at e
      exact List.all_eq_true.mp h.1 n (by simpa using e)
  · simp [uM] at e
theorem Fy.le {as fs as' fs' : List Nat} {M N : Mem} (a : Fy (uM as fs) M N) (h : as.all (fun a => as'.contains a) = true ∧ fs.all (fun a => fs'.contains a) = true) : Fy (uM as' fs') M N := a.mono (uM_le h)
theorem Fy.arr {as fs : List Nat} {M N : Mem} (a : Fy (uM as fs) M N) {n : Nat} (h : n ≠ 0 ∧ as.contains n = false) : N (cX n) = M (cX n) := by
  funext j
  refine a _ _ ?_
  simp only [uM, if_neg h.1]
  exact h.2
theorem Fy.fld {as fs : List Nat} {M N : Mem} (a : Fy (uM as fs) M N) {j : Nat} (h : fs.contains j = false) : N (cX 0) j = M (cX 0) j := by
  refine a _ _ ?_
  simp only [uM]
  exact h
def RefC (f : Nat → Int) (C : Circ) : Prop := f 0 = (cn C : Int) ∧ f 1 = (co C : Int) ∧ (∀ r, r < 4 → f (2 + r) = (cx C r : Int) ∧ f (6 + r) = (cb C r : Int)) ∧ ∀ g, g < cn C → f (10 + 3 * g) = (ck C g : Int) ∧ f (10 + 3 * g + 1) = (cf C g : Int) ∧ f (10 + 3 * g + 2) = (cs C g : Int)
theorem RefC.of {f f' : Nat → Int} {C : Circ} (hC : WF C) (h : RefC f C) (e : ∀ i, i < 34 → f' i = f i) : RefC f' C := by
  have hn := hC.1
  refine ⟨by rw [e 0 (by decide)]; exact h.1, by rw [e 1 (by decide)]; exact h.2.1, fun r hr => ?_, fun g hg => ?_⟩
  · rw [e _ (by omega), e _ (by omega)]; exact h.2.2.1 r hr
  · rw [e _ (by omega), e _ (by omega), e _ (by omega)]; exact h.2.2.2 g hg
/-- circuit b of the reference's row -/
abbrev RefS (M : Mem) (b : Nat) (C : Circ) : Prop := RefC (fun i => M (cX 1) (34 * b + i)) C
theorem RefS.eq {M N : Mem} {b : Nat} {C : Circ} (h : RefS M b C) (e : N (cX 1) = M (cX 1)) : RefS N b C := by
  show RefC (fun i => N (cX 1) (34 * b + i)) C
  rw [e]
  exact h
theorem sem_in_t (M : Mem) {x a b : Int} (hx : Rng x) (ha : Rng a) (hb : Rng b) (h : a ≤ x ∧ x ≤ b) : Sem SM miX10_in [.inl x, .inl a, .inl b] M (Ri 1 M) := by
  refine Sem.of (by decide) SM_ok (Nat.le_of_ble_eq_true rfl) (ls0 := [some (.inl x), some (.inl a), some (.inl b)]) rfl ?_
  refine ev_iload_n (np := 1) dX10_in_0 rfl rfl ?_
  refine ev_iload_n (np := 2) dX10_in_1 rfl rfl ?_
  refine ev_icmp_lt (tgt := 14) (np := 5) dX10_in_2 (by decide) rfl (by omega) (by omega) (fun h => absurd h (by omega)) (fun _ => ?_)
  refine ev_iload_n (np := 6) dX10_in_5 rfl rfl ?_
  refine ev_iload_n (np := 7) dX10_in_6 rfl rfl ?_
  refine ev_icmp_gt (tgt := 14) (np := 10) dX10_in_7 (by decide) rfl (by omega) (by omega) (fun h => absurd h (by omega)) (fun _ => ?_)
  refine ev_iconst (np := 11) dX10_in_10 rfl ?_
  refine ev_goto (np := 15) dX10_in_11 (by decide) ?_
  refine ev_zret dX10_in_15 rfl (by first | exact Or.inl rfl | exact Or.inr rfl | omega) ?_
  exact ⟨rfl, rfl⟩
theorem sem_in_f (M : Mem) {x a b : Int} (hx : Rng x) (ha : Rng a) (hb : Rng b) (h : ¬ (a ≤ x ∧ x ≤ b)) : Sem SM miX10_in [.inl x, .inl a, .inl b] M (Ri 0 M) := by
  refine Sem.of (by decide) SM_ok (Nat.le_of_ble_eq_true rfl) (ls0 := [some (.inl x), some (.inl a), some (.inl b)]) rfl ?_
  refine ev_iload_n (np := 1) dX10_in_0 rfl rfl ?_
  refine ev_iload_n (np := 2) dX10_in_1 rfl rfl ?_
  refine ev_icmp_lt (tgt := 14) (np := 5) dX10_in_2 (by decide) rfl (by omega) (by omega) (fun h1 => ?_) (fun h1 => ?_)
  · refine ev_iconst (np := 15) dX10_in_14 rfl ?_
    refine ev_zret dX10_in_15 rfl (by first | exact Or.inl rfl | exact Or.inr rfl | omega) ?_
    exact ⟨rfl, rfl⟩
  · refine ev_iload_n (np := 6) dX10_in_5 rfl rfl ?_
    refine ev_iload_n (np := 7) dX10_in_6 rfl rfl ?_
    refine ev_icmp_gt (tgt := 14) (np := 10) dX10_in_7 (by decide) rfl (by omega) (by omega) (fun _ => ?_) (fun h => absurd (by omega) h)
    refine ev_iconst (np := 15) dX10_in_14 rfl ?_
    refine ev_zret dX10_in_15 rfl (by first | exact Or.inl rfl | exact Or.inr rfl | omega) ?_
    exact ⟨rfl, rfl⟩
theorem sem_allow_t (M : Mem) {g w : Int} (hg : 0 ≤ g ∧ g ≤ 8) (hw : Rng w) (h : Feed g w) : Sem SM miX10_isAllowed [.inl g, .inl w] M (Ri 1 M) := by
  unfold Feed at h
  refine Sem.of (by decide) SM_ok (Nat.le_of_ble_eq_true rfl) (ls0 := [some (.inl g), some (.inl w)]) rfl ?_
  refine ev_iload_n (np := 1) dX10_isAllowed_0 rfl rfl ?_
  refine ev_iconst (np := 2) dX10_isAllowed_1 rfl ?_
  refine ev_iconst (np := 3) dX10_isAllowed_2 rfl ?_
  refine ev_iload_n (np := 4) dX10_isAllowed_3 rfl rfl ?_
  refine ev_iadd (np := 5) dX10_isAllowed_4 rfl ?_
  by_cases h1 : 0 ≤ w ∧ w ≤ 5 + g
  · refine ev_Si3 (np := 8) moX10_in sX10_isAllowed_5 (sem_in_t M hw (by omega) (by omega) h1) (Nat.le_of_ble_eq_true rfl) rfl ?_
    refine ev_if_ne (tgt := 22) (np := 11) dX10_isAllowed_8 (by decide) rfl (by omega) (fun _ => ?_) (fun h => absurd h (by omega))
    refine ev_iconst (np := 23) dX10_isAllowed_22 rfl ?_
    refine ev_goto (np := 27) dX10_isAllowed_23 (by decide) ?_
    refine ev_zret dX10_isAllowed_27 rfl (by first | exact Or.inl rfl | exact Or.inr rfl | omega) ?_
    exact ⟨rfl, rfl⟩
  · refine ev_Si3 (np := 8) moX10_in sX10_isAllowed_5 (sem_in_f M hw (by omega) (by omega) h1) (Nat.le_of_ble_eq_true rfl) rfl ?_
    refine ev_if_ne (tgt := 22) (np := 11) dX10_isAllowed_8 (by decide) rfl (by omega) (fun h => absurd (by omega) h) (fun _ => ?_)
    refine ev_iload_n (np := 12) dX10_isAllowed_11 rfl rfl ?_
    refine ev_bipush (np := 14) dX10_isAllowed_12 (by decide) rfl ?_
    refine ev_bipush (np := 16) dX10_isAllowed_14 (by decide) rfl ?_
    refine ev_Si3 (np := 19) moX10_in sX10_isAllowed_16 (sem_in_t M hw (by omega) (by omega) (by omega)) (Nat.le_of_ble_eq_true rfl) rfl ?_
    refine ev_if_eq (tgt := 26) (np := 22) dX10_isAllowed_19 (by decide) rfl (by omega) (fun h => absurd h (by omega)) (fun _ => ?_)
    refine ev_iconst (np := 23) dX10_isAllowed_22 rfl ?_
    refine ev_goto (np := 27) dX10_isAllowed_23 (by decide) ?_
    refine ev_zret dX10_isAllowed_27 rfl (by first | exact Or.inl rfl | exact Or.inr rfl | omega) ?_
    exact ⟨rfl, rfl⟩
theorem sem_allow_f (M : Mem) {g w : Int} (hg : 0 ≤ g ∧ g ≤ 8) (hw : Rng w) (h : ¬ Feed g w) : Sem SM miX10_isAllowed [.inl g, .inl w] M (Ri 0 M) := by
  unfold Feed at h
  refine Sem.of (by decide) SM_ok (Nat.le_of_ble_eq_true rfl) (ls0 := [some (.inl g), some (.inl w)]) rfl ?_
  refine ev_iload_n (np := 1) dX10_isAllowed_0 rfl rfl ?_
  refine ev_iconst (np := 2) dX10_isAllowed_1 rfl ?_
  refine ev_iconst (np := 3) dX10_isAllowed_2 rfl ?_
  refine ev_iload_n (np := 4) dX10_isAllowed_3 rfl rfl ?_
  refine ev_iadd (np := 5) dX10_isAllowed_4 rfl ?_
  refine ev_Si3 (np := 8) moX10_in sX10_isAllowed_5 (sem_in_f M hw (by omega) (by omega) (by omega)) (Nat.le_of_ble_eq_true rfl) rfl ?_
  refine ev_if_ne (tgt := 22) (np := 11) dX10_isAllowed_8 (by decide) rfl (by omega) (fun h => absurd (by omega) h) (fun _ => ?_)
  refine ev_iload_n (np := 12) dX10_isAllowed_11 rfl rfl ?_
  refine ev_bipush (np := 14) dX10_isAllowed_12 (by decide) rfl ?_
  refine ev_bipush (np := 16) dX10_isAllowed_14 (by decide) rfl ?_
  refine ev_Si3 (np := 19) moX10_in sX10_isAllowed_16 (sem_in_f M hw (by omega) (by omega) (by omega)) (Nat.le_of_ble_eq_true rfl) rfl ?_
  refine ev_if_eq (tgt := 26) (np := 22) dX10_isAllowed_19 (by decide) rfl (by omega) (fun _ => ?_) (fun h => absurd (by omega) h)
  refine ev_iconst (np := 27) dX10_isAllowed_26 rfl ?_
  refine ev_zret dX10_isAllowed_27 rfl (by first | exact Or.inl rfl | exact Or.inr rfl | omega) ?_
  exact ⟨rfl, rfl⟩
theorem sem_of {M : Mem} {b i : Int} (hb : 0 ≤ b ∧ b ≤ 1) (hi : 0 ≤ i ∧ i < 34) : Sem SM miX10_of [.inr (cX 0), .inl b, .inl i] M (Ri (M (cX 1) (34 * b.toNat + i.toNat)) M) := by
  refine Sem.of (by decide) SM_ok (Nat.le_of_ble_eq_true rfl) (ls0 := [some (.inr (cX 0)), some (.inl b), some (.inl i)]) rfl ?_
  refine ev_aload_n (np := 1) dX10_of_0 rfl rfl ?_
  refine ev_getR (np := 4) sX10_of_1 rfl rfl rfl ?_
  refine ev_bipush (np := 6) dX10_of_4 (by decide) rfl ?_
  refine ev_iload_n (np := 7) dX10_of_6 rfl rfl ?_
  refine ev_imul (np := 8) dX10_of_7 rfl ?_
  refine ev_iload_n (np := 9) dX10_of_8 rfl rfl ?_
  refine ev_iadd (np := 10) dX10_of_9 rfl ?_
  refine ev_iaload (np := 11) dX10_of_10 rfl (by omega) (by omega) rfl ?_
  rw [show ((34 : Int) * b + i).toNat = 34 * b.toNat + i.toNat by omega]
  refine ev_iret dX10_of_11 rfl ?_
  exact ⟨rfl, rfl⟩
theorem sem_works (M : Mem) {k a b : Nat} (hk : k < 6) (ha : a < 2) (hb : b < 2) : Sem SM miX10_works [.inl (k : Int), .inl (a : Int), .inl (b : Int)] M (Ri (gb k a b : Nat) M) := by
  refine Sem.of (by decide) SM_ok (Nat.le_of_ble_eq_true rfl) (ls0 := [some (.inl (k : Int)), some (.inl (a : Int)), some (.inl (b : Int))]) rfl ?_
  refine ev_iload_n (np := 1) dX10_works_0 rfl rfl ?_
  rcases (show k = 0 ∨ k = 1 ∨ k = 2 ∨ k = 3 ∨ k = 4 ∨ k = 5 by omega) with rfl | rfl | rfl | rfl | rfl | rfl
  · refine ev_swIn (np := 36) dX10_works_1 (by omega) (by omega) (by first | rfl | (simp; done)) (by decide) ?_
    refine ev_iload_n (np := 37) dX10_works_36 rfl rfl ?_
    refine ev_iload_n (np := 38) dX10_works_37 rfl rfl ?_
    refine ev_iand (np := 39) dX10_works_38 (by omega) (by omega) rfl ?_
    refine ev_iret dX10_works_39 rfl ?_
    exact ⟨rfl, rfl⟩
  · refine ev_swIn (np := 40) dX10_works_1 (by omega) (by omega) (by first | rfl | (simp; done)) (by decide) ?_
    refine ev_iload_n (np := 41) dX10_works_40 rfl rfl ?_
    refine ev_iload_n (np := 42) dX10_works_41 rfl rfl ?_
    refine ev_ior (np := 43) dX10_works_42 (by omega) (by omega) rfl ?_
    refine ev_iret dX10_works_43 rfl ?_
    exact ⟨rfl, rfl⟩
  · refine ev_swIn (np := 44) dX10_works_1 (by omega) (by omega) (by first | rfl | (simp; done)) (by decide) ?_
    refine ev_iload_n (np := 45) dX10_works_44 rfl rfl ?_
    refine ev_iload_n (np := 46) dX10_works_45 rfl rfl ?_
    refine ev_ixor (np := 47) dX10_works_46 (by omega) (by omega) rfl ?_
    refine ev_iret dX10_works_47 rfl ?_
    exact ⟨rfl, rfl⟩
  · refine ev_swIn (np := 48) dX10_works_1 (by omega) (by omega) (by first | rfl | (simp; done)) (by decide) ?_
    refine ev_iconst (np := 49) dX10_works_48 rfl ?_
    refine ev_iload_n (np := 50) dX10_works_49 rfl rfl ?_
    refine ev_iload_n (np := 51) dX10_works_50 rfl rfl ?_
    refine ev_iand (np := 52) dX10_works_51 (by omega) (by omega) rfl ?_
    refine ev_isub (np := 53) dX10_works_52 rfl ?_
    refine ev_iret dX10_works_53 rfl ?_
    rw [Int.toNat_natCast, Int.toNat_natCast]
    have : a &&& b ≤ a := Nat.and_le_left
    exact ⟨by rw [show gb 3 a b = 1 - (a &&& b) from rfl]; congr 2; omega, rfl⟩
  · refine ev_swIn (np := 54) dX10_works_1 (by omega) (by omega) (by first | rfl | (simp; done)) (by decide) ?_
    refine ev_iload_n (np := 55) dX10_works_54 rfl rfl ?_
    refine ev_iret dX10_works_55 rfl ?_
    exact ⟨rfl, rfl⟩
  · refine ev_swOut (np := 56) dX10_works_1 (by omega) (by omega) (by decide) ?_
    refine ev_iconst (np := 57) dX10_works_56 rfl ?_
    refine ev_iload_n (np := 58) dX10_works_57 rfl rfl ?_
    refine ev_isub (np := 59) dX10_works_58 rfl ?_
    refine ev_iret dX10_works_59 rfl ?_
    exact ⟨by rw [show gb 5 a b = 1 - a from rfl]; congr 2; omega, rfl⟩
-- the wires
theorem wb0_bits : ∀ s, s < 16 → ∀ i, i < 4 → ∀ w, w < 16 → bt ((32768 ||| s * 4) ||| i) w = (if w < 2 then bt i w else if w < 6 then bt s (w - 2) else if w = 15 then 1 else 0) := by decide +kernel
theorem bt_orp {a x p : Nat} (hx : x < 2) (w : Nat) : bt (a ||| x * 2 ^ p) w = (if w = p then (if bt a p = 1 ∨ x = 1 then 1 else 0) else bt a w) := by
  have hl := bt_lt (a ||| x * 2 ^ p) w
  rcases (show x = 0 ∨ x = 1 by omega) with rfl | rfl
  · rw [Nat.zero_mul, Nat.or_zero]
    by_cases e : w = p
    · rw [if_pos e, e]
      have := bt_lt a p
      split <;> omega
    · rw [if_neg e]
  · rw [Nat.one_mul] at hl ⊢
    by_cases e : w = p
    · rw [if_pos e, if_pos (Or.inr rfl), e]
      exact (bt_or a (2 ^ p) p).mpr (Or.inr ((bt_p2 p p).mpr rfl))
    · rw [if_neg e]
      have h1 := bt_or a (2 ^ p) w
      have h2 := bt_p2 p w
      have := bt_lt a w
      have h3 : ¬ bt (2 ^ p) w = 1 := fun h => e (h2.mp h).symm
      by_cases g : bt a w = 1
      · rw [g]; exact h1.mpr (Or.inl g)
      · have : ¬ bt (a ||| 2 ^ p) w = 1 := fun h => (h1.mp h).elim g h3
        omega
theorem wb_hi {C : Circ} {s i : Nat} (hC : WF C) (hs : s < 16) (hi : i < 4) : ∀ g, g ≤ cn C → ∀ j, g ≤ j → j < 9 → bt (wb C s i g) (6 + j) = 0
  | 0, _, j, _, h2 => by
    show bt ((32768 ||| s * 4) ||| i) (6 + j) = 0
    rw [wb0_bits s hs i hi (6 + j) (by omega), if_neg (by omega), if_neg (by omega), if_neg (by omega)]
  | g + 1, hg, j, h1, h2 => by
    obtain ⟨k1, k2, k3⟩ := hC.2.2.2 g hg
    have h3 := gb_lt (ck C g) k1 _ (bt_lt (wb C s i g) (cf C g)) _ (bt_lt (wb C s i g) (cs C g))
    show bt (wb C s i g ||| gb (ck C g) (bt (wb C s i g) (cf C g)) (bt (wb C s i g) (cs C g)) * 2 ^ (6 + g)) (6 + j) = 0
    rw [bt_orp h3, if_neg (by omega)]
    exact wb_hi hC hs hi g (by omega) j (by omega) h2
theorem lights2 {M : Mem} {b : Nat} {C : Circ} (hC : WF C) (hb : b ≤ 1) {s i : Nat} (hs : s < 16) (hi : i < 4) (h : RefS M b C) {x y : Option Val} : ∀ (m g : Nat) (N : Mem) (u : Option Val), g + m = cn C → Fy (uM [6] []) M N → (∀ w, w < 16 → N (cX 6) w = (bt (wb C s i g) w : Int)) → Ev SM miX10_lights 71 [some (.inr (cX 0)), some (.inl (b : Int)), x, y, some (.inl (g : Int)), u] [] N (fun v N => v = none ∧ (∀ w, w < 16 → N (cX 6) w = (bt (wbits C s i) w : Int)) ∧ Fy (uM [6] []) M N) := by
  have hn := hC.1
  intro m
  induction m with
  | zero =>
    intro g N u hg hf hw
    have hN := h.eq (hf.arr (n := 1) (by decide))
    refine ev_iload (np := 73) dX10_lights_71 rfl rfl ?_
    refine ev_aload_n (np := 74) dX10_lights_73 rfl rfl ?_
    refine ev_iload_n (np := 75) dX10_lights_74 rfl rfl ?_
    refine ev_iconst (np := 76) dX10_lights_75 rfl ?_
    refine ev_Vi2 (np := 79) moX10_of sX10_lights_76 (sem_of (b := (b : Int)) (i := 0) (by omega) (by omega)) rfl rfl (Nat.le_of_ble_eq_true rfl) rfl ?_
    rw [Int.toNat_natCast, show N (cX 1) (34 * b + (0 : Int).toNat) = (cn C : Int) from hN.1]
    refine ev_icmp_ge (tgt := 145) (np := 82) dX10_lights_79 (by decide) rfl (by omega) (by omega) (fun _ => ?_) (fun h => absurd (by omega) h)
    refine ev_vret dX10_lights_145 rfl ?_
    rw [show g = cn C by omega] at hw
    exact ⟨rfl, hw, hf⟩
  | succ m ih =>
    intro g N u hg hf hw
    have hg1 : g < cn C := by omega
    have hN := h.eq (hf.arr (n := 1) (by decide))
    obtain ⟨k1, k2, k3⟩ := hC.2.2.2 g hg1
    have l2 := k2.lt (by omega)
    have l3 := k3.lt (by omega)
    obtain ⟨e1, e2, e3⟩ := hN.2.2.2 g hg1
    have b1 := bt_lt (wb C s i g) (cf C g)
    have b2 := bt_lt (wb C s i g) (cs C g)
    have b3 := gb_lt (ck C g) k1 _ b1 _ b2
    refine ev_iload (np := 73) dX10_lights_71 rfl rfl ?_
    refine ev_aload_n (np := 74) dX10_lights_73 rfl rfl ?_
    refine ev_iload_n (np := 75) dX10_lights_74 rfl rfl ?_
    refine ev_iconst (np := 76) dX10_lights_75 rfl ?_
    refine ev_Vi2 (np := 79) moX10_of sX10_lights_76 (sem_of (b := (b : Int)) (i := 0) (by omega) (by omega)) rfl rfl (Nat.le_of_ble_eq_true rfl) rfl ?_
    rw [Int.toNat_natCast, show N (cX 1) (34 * b + (0 : Int).toNat) = (cn C : Int) from hN.1]
    refine ev_icmp_ge (tgt := 145) (np := 82) dX10_lights_79 (by decide) rfl (by omega) (by omega) (fun h => absurd h (by omega)) (fun _ => ?_)
    refine ev_bipush (np := 84) dX10_lights_82 (by decide) rfl ?_
    refine ev_iconst (np := 85) dX10_lights_84 rfl ?_
    refine ev_iload (np := 87) dX10_lights_85 rfl rfl ?_
    refine ev_imul (np := 88) dX10_lights_87 rfl ?_
    refine ev_iadd (np := 89) dX10_lights_88 rfl ?_
    refine ev_istore (np := 91) dX10_lights_89 (by decide) rfl ?_
    refine ev_aload_n (np := 92) dX10_lights_91 rfl rfl ?_
    refine ev_getR (np := 95) sX10_lights_92 rfl rfl rfl ?_
    refine ev_bipush (np := 97) dX10_lights_95 (by decide) rfl ?_
    refine ev_iload (np := 99) dX10_lights_97 rfl rfl ?_
    refine ev_iadd (np := 100) dX10_lights_99 rfl ?_
    refine ev_aload_n (np := 101) dX10_lights_100 rfl rfl ?_
    refine ev_iload_n (np := 102) dX10_lights_101 rfl rfl ?_
    refine ev_iload (np := 104) dX10_lights_102 rfl rfl ?_
    refine ev_Vi2 (np := 107) moX10_of sX10_lights_104 (sem_of (b := (b : Int)) (i := 10 + 3 * (g : Int)) (by omega) (by omega)) rfl rfl (Nat.le_of_ble_eq_true rfl) rfl ?_
    rw [Int.toNat_natCast, show ((10 : Int) + 3 * (g : Int)).toNat = 10 + 3 * g by omega, show N (cX 1) (34 * b + (10 + 3 * g)) = (ck C g : Int) from e1]
    refine ev_aload_n (np := 108) dX10_lights_107 rfl rfl ?_
    refine ev_getR (np := 111) sX10_lights_108 rfl rfl rfl ?_
    refine ev_aload_n (np := 112) dX10_lights_111 rfl rfl ?_
    refine ev_iload_n (np := 113) dX10_lights_112 rfl rfl ?_
    refine ev_iload (np := 115) dX10_lights_113 rfl rfl ?_
    refine ev_iconst (np := 116) dX10_lights_115 rfl ?_
    refine ev_iadd (np := 117) dX10_lights_116 rfl ?_
    refine ev_Vi2 (np := 120) moX10_of sX10_lights_117 (sem_of (b := (b : Int)) (i := 10 + 3 * (g : Int) + 1) (by omega) (by omega)) rfl rfl (Nat.le_of_ble_eq_true rfl) rfl ?_
    rw [Int.toNat_natCast, show ((10 : Int) + 3 * (g : Int) + 1).toNat = 10 + 3 * g + 1 by omega, show N (cX 1) (34 * b + (10 + 3 * g + 1)) = (cf C g : Int) from e2]
    refine ev_iaload (np := 121) dX10_lights_120 rfl (by omega) (by omega) rfl ?_
    rw [Int.toNat_natCast, hw _ l2]
    refine ev_aload_n (np := 122) dX10_lights_121 rfl rfl ?_
    refine ev_getR (np := 125) sX10_lights_122 rfl rfl rfl ?_
    refine ev_aload_n (np := 126) dX10_lights_125 rfl rfl ?_
    refine ev_iload_n (np := 127) dX10_lights_126 rfl rfl ?_
    refine ev_iload (np := 129) dX10_lights_127 rfl rfl ?_
    refine ev_iconst (np := 130) dX10_lights_129 rfl ?_
    refine ev_iadd (np := 131) dX10_lights_130 rfl ?_
    refine ev_Vi2 (np := 134) moX10_of sX10_lights_131 (sem_of (b := (b : Int)) (i := 10 + 3 * (g : Int) + 2) (by omega) (by omega)) rfl rfl (Nat.le_of_ble_eq_true rfl) rfl ?_
    rw [Int.toNat_natCast, show ((10 : Int) + 3 * (g : Int) + 2).toNat = 10 + 3 * g + 2 by omega, show N (cX 1) (34 * b + (10 + 3 * g + 2)) = (cs C g : Int) from e3]
    refine ev_iaload (np := 135) dX10_lights_134 rfl (by omega) (by omega) rfl ?_
    rw [Int.toNat_natCast, hw _ l3]
    refine ev_Si3 (np := 138) moX10_works sX10_lights_135 (sem_works N k1 b1 b2) (Nat.le_of_ble_eq_true rfl) rfl ?_
    refine ev_iastore (np := 139) dX10_lights_138 rfl (by omega) (by omega) rfl ?_
    refine ev_iinc (np := 142) dX10_lights_139 rfl (by decide) rfl ?_
    refine ev_goto (np := 71) dX10_lights_142 (by decide) ?_
    refine ih (g + 1) _ _ (by omega) (hf.tr (Fy.upd rfl)) (fun w hw2 => ?_)
    rw [show ((6 : Int) + (g : Int)).toNat = 6 + g by omega]
    show _ = ((bt (wb C s i g ||| gb (ck C g) (bt (wb C s i g) (cf C g)) (bt (wb C s i g) (cs C g)) * 2 ^ (6 + g)) w : Nat) : Int)
    rw [bt_orp b3]
    by_cases e : w = 6 + g
    · rw [if_pos e, e, updM_same, wb_hi hC hs hi g (by omega) g (Nat.le_refl _) (by omega)]
      split <;> omega
    · rw [if_neg e, ← hw w hw2]
      simp [updM, e]
theorem lights1 {M : Mem} {b : Nat} {C : Circ} (hC : WF C) (hb : b ≤ 1) {s i : Nat} (hs : s < 16) (hi : i < 4) (h : RefS M b C) : ∀ (m k : Nat) (N : Mem), k + m = 16 → Fy (uM [6] []) M N → (∀ w, w < k → N (cX 6) w = (bt (wb C s i 0) w : Int)) → Ev SM miX10_lights 3 [some (.inr (cX 0)), some (.inl (b : Int)), some (.inl (s : Int)), some (.inl (i : Int)), some (.inl (k : Int)), none] [] N (fun v N => v = none ∧ (∀ w, w < 16 → N (cX 6) w = (bt (wbits C s i) w : Int)) ∧ Fy (uM [6] []) M N) := by
  intro m
  induction m with
  | zero =>
    intro k N hk hf hw
    refine ev_iload (np := 5) dX10_lights_3 rfl rfl ?_
    refine ev_bipush (np := 7) dX10_lights_5 (by decide) rfl ?_
    refine ev_icmp_ge (tgt := 68) (np := 10) dX10_lights_7 (by decide) rfl (by omega) (by omega) (fun _ => ?_) (fun h => absurd (by omega) h)
    refine ev_iconst (np := 69) dX10_lights_68 rfl ?_
    refine ev_istore (np := 71) dX10_lights_69 (by decide) rfl ?_
    exact lights2 hC hb hs hi h (cn C) 0 N none (Nat.zero_add _) hf (fun w hw2 => hw w (by omega))
  | succ m ih =>
    intro k N hk hf hw
    have go : ∀ v : Int, v = (bt (wb C s i 0) k : Int) → Ev SM miX10_lights 61 [some (.inr (cX 0)), some (.inl (b : Int)), some (.inl (s : Int)), some (.inl (i : Int)), some (.inl (k : Int)), none] [.inl v, .inl (k : Int), .inr (cX 6)] N (fun v N => v = none ∧ (∀ w, w < 16 → N (cX 6) w = (bt (wbits C s i) w : Int)) ∧ Fy (uM [6] []) M N) := by
      intro v hv
      refine ev_iastore (np := 62) dX10_lights_61 rfl (by omega) (by omega) rfl ?_
      rw [Int.toNat_natCast]
      refine ev_iinc (np := 65) dX10_lights_62 rfl (by decide) rfl ?_
      refine ev_goto (np := 3) dX10_lights_65 (by decide) ?_
      refine ih (k + 1) _ (by omega) (hf.tr (Fy.upd rfl)) (fun w hw2 => ?_)
      by_cases e : w = k
      · rw [e, updM_same, hv]
      · rw [← hw w (by omega)]; simp [updM, e]
    have e0 : bt (wb C s i 0) k = _ := wb0_bits s hs i hi k (by omega)
    refine ev_iload (np := 5) dX10_lights_3 rfl rfl ?_
    refine ev_bipush (np := 7) dX10_lights_5 (by decide) rfl ?_
    refine ev_icmp_ge (tgt := 68) (np := 10) dX10_lights_7 (by decide) rfl (by omega) (by omega) (fun h => absurd h (by omega)) (fun _ => ?_)
    refine ev_aload_n (np := 11) dX10_lights_10 rfl rfl ?_
    refine ev_getR (np := 14) sX10_lights_11 rfl rfl rfl ?_
    refine ev_iload (np := 16) dX10_lights_14 rfl rfl ?_
    refine ev_iload (np := 18) dX10_lights_16 rfl rfl ?_
    refine ev_iconst (np := 19) dX10_lights_18 rfl ?_
    refine ev_icmp_ge (tgt := 31) (np := 22) dX10_lights_19 (by decide) rfl (by omega) (by omega) (fun g1 => ?_) (fun g1 => ?_)
    · refine ev_iload (np := 33) dX10_lights_31 rfl rfl ?_
      refine ev_bipush (np := 35) dX10_lights_33 (by decide) rfl ?_
      refine ev_icmp_ge (tgt := 49) (np := 38) dX10_lights_35 (by decide) rfl (by omega) (by omega) (fun g2 => ?_) (fun g2 => ?_)
      · refine ev_iload (np := 51) dX10_lights_49 rfl rfl ?_
        refine ev_bipush (np := 53) dX10_lights_51 (by decide) rfl ?_
        refine ev_icmp_ne (tgt := 60) (np := 56) dX10_lights_53 (by decide) rfl (by omega) (by omega) (fun g3 => ?_) (fun g3 => ?_)
        · refine ev_iconst (np := 61) dX10_lights_60 rfl ?_
          exact go 0 (by rw [e0, if_neg (by omega), if_neg (by omega), if_neg (by omega)]; rfl)
        · refine ev_iconst (np := 57) dX10_lights_56 rfl ?_
          refine ev_goto (np := 61) dX10_lights_57 (by decide) ?_
          exact go 1 (by rw [e0, if_neg (by omega), if_neg (by omega), if_pos (by omega)]; rfl)
      · refine ev_iload_n (np := 39) dX10_lights_38 rfl rfl ?_
        refine ev_iload (np := 41) dX10_lights_39 rfl rfl ?_
        refine ev_iconst (np := 42) dX10_lights_41 rfl ?_
        refine ev_isub (np := 43) dX10_lights_42 rfl ?_
        refine ev_ishr (np := 44) dX10_lights_43 (by omega) (by omega) rfl ?_
        refine ev_iconst (np := 45) dX10_lights_44 rfl ?_
        refine ev_iandm 1 (np := 46) dX10_lights_45 (by omega) rfl rfl ?_
        refine ev_goto (np := 61) dX10_lights_46 (by decide) ?_
        refine go _ ?_
        rw [e0, if_neg (by omega), if_pos (by omega), show ((k : Int) - 2).toNat = k - 2 by omega]
        unfold bt
        norm_cast
    · refine ev_iload_n (np := 23) dX10_lights_22 rfl rfl ?_
      refine ev_iload (np := 25) dX10_lights_23 rfl rfl ?_
      refine ev_ishr (np := 26) dX10_lights_25 (by omega) (by omega) rfl ?_
      refine ev_iconst (np := 27) dX10_lights_26 rfl ?_
      refine ev_iandm 1 (np := 28) dX10_lights_27 (by omega) rfl rfl ?_
      refine ev_goto (np := 61) dX10_lights_28 (by decide) ?_
      refine go _ ?_
      rw [e0, if_pos (by omega), Int.toNat_natCast]
      unfold bt
      norm_cast
theorem sem_lights {M : Mem} {b : Nat} {C : Circ} (hC : WF C) (hb : b ≤ 1) {s i : Nat} (hs : s < 16) (hi : i < 4) (h : RefS M b C) : Sem SM miX10_lights [.inr (cX 0), .inl (b : Int), .inl (s : Int), .inl (i : Int)] M (fun v N => v = none ∧ (∀ w, w < 16 → N (cX 6) w = (bt (wbits C s i) w : Int)) ∧ Fy (uM [6] []) M N) := by
  refine Sem.of (by decide) SM_ok (Nat.le_of_ble_eq_true rfl) (ls0 := [some (.inr (cX 0)), some (.inl (b : Int)), some (.inl (s : Int)), some (.inl (i : Int)), none, none]) rfl ?_
  refine ev_iconst (np := 1) dX10_lights_0 rfl ?_
  refine ev_istore (np := 3) dX10_lights_1 (by decide) rfl ?_
  exact lights1 hC hb hs hi h 16 0 M rfl Fy.rf (fun w hw => absurd hw (Nat.not_lt_zero w))
theorem sem_mout {M : Mem} {b : Nat} {C : Circ} (hC : WF C) (hb : b ≤ 1) {s i : Nat} (hs : s < 16) (hi : i < 4) (h : RefS M b C) : Sem SM miX10_out [.inr (cX 0), .inl (b : Int), .inl (s : Int), .inl (i : Int)] M (fun v N => v = some (.inl (outS C s i : Nat)) ∧ Fy (uM [6] []) M N) := by
  refine Sem.of (by decide) SM_ok (Nat.le_of_ble_eq_true rfl) (ls0 := [some (.inr (cX 0)), some (.inl (b : Int)), some (.inl (s : Int)), some (.inl (i : Int))]) rfl ?_
  have ho := hC.2.1
  refine ev_aload_n (np := 1) dX10_out_0 rfl rfl ?_
  refine ev_iload_n (np := 2) dX10_out_1 rfl rfl ?_
  refine ev_iload_n (np := 3) dX10_out_2 rfl rfl ?_
  refine ev_iload_n (np := 4) dX10_out_3 rfl rfl ?_
  refine ev_V3 (np := 7) moX10_lights sX10_out_4 (sem_lights hC hb hs hi h ) rfl rfl (Nat.le_of_ble_eq_true rfl) rfl (fun v N hq => ?_)
  obtain ⟨rfl, hw, hf⟩ := hq
  have hN := h.eq (hf.arr (n := 1) (by decide))
  refine ev_aload_n (np := 8) dX10_out_7 rfl rfl ?_
  refine ev_getR (np := 11) sX10_out_8 rfl rfl rfl ?_
  refine ev_aload_n (np := 12) dX10_out_11 rfl rfl ?_
  refine ev_iload_n (np := 13) dX10_out_12 rfl rfl ?_
  refine ev_iconst (np := 14) dX10_out_13 rfl ?_
  refine ev_Vi2 (np := 17) moX10_of sX10_out_14 (sem_of (b := (b : Int)) (i := 1) (by omega) (by omega)) rfl rfl (Nat.le_of_ble_eq_true rfl) rfl ?_
  rw [Int.toNat_natCast, show N (cX 1) (34 * b + (1 : Int).toNat) = (co C : Int) from hN.2.1]
  refine ev_iaload (np := 18) dX10_out_17 rfl (by omega) (by omega) rfl ?_
  rw [Int.toNat_natCast, hw _ ho]
  refine ev_iret dX10_out_18 rfl ?_
  exact ⟨rfl, hf⟩
