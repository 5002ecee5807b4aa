/-! THE CLASS'S STATIC FUNCTIONS -/
def fillM (M : Mem) (a : Cc) (i n v : Int) : Mem := fun c j => if c = a ∧ i ≤ (j : Int) ∧ (j : Int) < n then v else M c j
theorem fill_loop {a : Cc} {n : Nat} (ha : shT a = some (.inl (false, n))) (hn : n < 65536) (v : Int) : ∀ (m : Nat) (i : Int) (M : Mem), 0 ≤ i → i + m = n → Ev ST miJ7_fill_53178 5 [some (.inr a), some (.inl v), some (.inl i), some (.inl (n : Int))] [] M (Rv (fillM M a i n v)) := by
  intro m
  induction m with
  | zero =>
    intro i M h0 h1
    refine ev_iload_n (np := 6) dJ7_fill_53178_5 rfl rfl ?_
    refine ev_iload_n (np := 7) dJ7_fill_53178_6 rfl rfl ?_
    refine ev_icmp_ge (tgt := 20) (np := 10) dJ7_fill_53178_7 (by decide) rfl (by omega) (by omega) (fun _ => ?_) (fun h => absurd (by omega) h)
    refine ev_vret dJ7_fill_53178_20 rfl ?_
    refine ⟨rfl, ?_⟩
    funext c j
    unfold fillM
    rw [if_neg (by omega)]
  | succ m ih =>
    intro i M h0 h1
    refine ev_iload_n (np := 6) dJ7_fill_53178_5 rfl rfl ?_
    refine ev_iload_n (np := 7) dJ7_fill_53178_6 rfl rfl ?_
    refine ev_icmp_ge (tgt := 20) (np := 10) dJ7_fill_53178_7 (by decide) rfl (by omega) (by omega) (fun h => absurd h (by omega)) (fun _ => ?_)
    refine ev_aload_n (np := 11) dJ7_fill_53178_10 rfl rfl ?_
    refine ev_iload_n (np := 12) dJ7_fill_53178_11 rfl rfl ?_
    refine ev_iload_n (np := 13) dJ7_fill_53178_12 rfl rfl ?_
    refine ev_iastore (np := 14) dJ7_fill_53178_13 ha (by omega) (by omega) rfl ?_
    refine ev_iinc (np := 17) dJ7_fill_53178_14 rfl (by decide) rfl ?_
    refine ev_goto (np := 5) dJ7_fill_53178_17 (by decide) ?_
    have h := ih (i + 1) (updM M a i.toNat v) (by omega) (by omega)
    have e : fillM (updM M a i.toNat v) a (i + 1) n v = fillM M a i n v := by
      funext c j
      unfold fillM updM
      by_cases hc : c = a
      · by_cases hj : i ≤ (j : Int) ∧ (j : Int) < n
        · by_cases h2 : i + 1 ≤ (j : Int)
          · rw [if_pos ⟨hc, h2, hj.2⟩, if_pos ⟨hc, hj⟩]
          · rw [if_neg (by omega), if_pos ⟨hc, by omega⟩, if_pos ⟨hc, hj⟩]
        · rw [if_neg (by omega), if_neg (by omega), if_neg (by omega)]
      · rw [if_neg (by simp [hc]), if_neg (by simp [hc]), if_neg (by simp [hc])]
    rw [e] at h
    exact h
theorem sem_fill {a : Cc} {n : Nat} (ha : shT a = some (.inl (false, n))) (hn : n < 65536) (v : Int) (M : Mem) : Sem ST miJ7_fill_53178 [.inr a, .inl v] M (Rv (fillM M a 0 n v)) := by
  refine Sem.of (by decide) ST_ok (Nat.le_of_ble_eq_true rfl) (ls0 := [some (.inr a), some (.inl v), none, none]) rfl ?_
  refine ev_iconst (np := 1) dJ7_fill_53178_0 rfl ?_
  refine ev_istore_n (np := 2) dJ7_fill_53178_1 (by decide) rfl ?_
  refine ev_aload_n (np := 3) dJ7_fill_53178_2 rfl rfl ?_
  refine ev_alen (np := 4) dJ7_fill_53178_3 ha rfl ?_
  refine ev_istore_n (np := 5) dJ7_fill_53178_4 (by decide) rfl ?_
  exact fill_loop ha hn v n 0 M (by omega) (by omega)
theorem sem_clear {r a : Cc} {n : Nat} (hr : IsRow r a n) (M : Mem) : Sem ST miX6_clear [.inr r] M (Rv (fillM M a 0 n 0)) := by
  obtain ⟨h1, h2, h3⟩ := hr
  refine Sem.of (by decide) ST_ok (Nat.le_of_ble_eq_true rfl) (ls0 := [some (.inr r)]) rfl ?_
  refine ev_aload_n (np := 1) dX6_clear_0 rfl rfl ?_
  refine ev_getR (np := 4) sX6_clear_1 h1 rfl rfl ?_
  refine ev_iconst (np := 5) dX6_clear_4 rfl ?_
  refine ev_Sv2 (np := 8) moJ7_fill_53178 sX6_clear_5 (sem_fill h2 h3 0 M) (Nat.le_of_ble_eq_true rfl) rfl ?_
  refine ev_vret dX6_clear_8 rfl ?_
  exact ⟨rfl, rfl⟩
theorem sem_within_t (M : Mem) {x a b : Int} (hx : Rng x) (ha : Rng a) (hb : Rng b) (h : a ≤ x ∧ x ≤ b) : Sem ST miX9_isWithin [.inl x, .inl a, .inl b] M (Ri 1 M) := by
  refine Sem.of (by decide) ST_ok (Nat.le_of_ble_eq_true rfl) (ls0 := [some (.inl x), some (.inl a), some (.inl b)]) rfl ?_
  refine ev_iload_n (np := 1) dX9_isWithin_0 rfl rfl ?_
  refine ev_iload_n (np := 2) dX9_isWithin_1 rfl rfl ?_
  refine ev_icmp_lt (tgt := 14) (np := 5) dX9_isWithin_2 (by decide) rfl (by omega) (by omega) (fun h => absurd h (by omega)) (fun _ => ?_)
  refine ev_iload_n (np := 6) dX9_isWithin_5 rfl rfl ?_
  refine ev_iload_n (np := 7) dX9_isWithin_6 rfl rfl ?_
  refine ev_icmp_gt (tgt := 14) (np := 10) dX9_isWithin_7 (by decide) rfl (by omega) (by omega) (fun h => absurd h (by omega)) (fun _ => ?_)
  refine ev_iconst (np := 11) dX9_isWithin_10 rfl ?_
  refine ev_goto (np := 15) dX9_isWithin_11 (by decide) ?_
  refine ev_zret dX9_isWithin_15 rfl (by first | exact Or.inl rfl | exact Or.inr rfl | omega) ?_
  exact ⟨rfl, rfl⟩
theorem sem_within_f (M : Mem) {x a b : Int} (hx : Rng x) (ha : Rng a) (hb : Rng b) (h : ¬ (a ≤ x ∧ x ≤ b)) : Sem ST miX9_isWithin [.inl x, .inl a, .inl b] M (Ri 0 M) := by
  refine Sem.of (by decide) ST_ok (Nat.le_of_ble_eq_true rfl) (ls0 := [some (.inl x), some (.inl a), some (.inl b)]) rfl ?_
  refine ev_iload_n (np := 1) dX9_isWithin_0 rfl rfl ?_
  refine ev_iload_n (np := 2) dX9_isWithin_1 rfl rfl ?_
  refine ev_icmp_lt (tgt := 14) (np := 5) dX9_isWithin_2 (by decide) rfl (by omega) (by omega) (fun h1 => ?_) (fun h1 => ?_)
  · refine ev_iconst (np := 15) dX9_isWithin_14 rfl ?_
    refine ev_zret dX9_isWithin_15 rfl (by first | exact Or.inl rfl | exact Or.inr rfl | omega) ?_
    exact ⟨rfl, rfl⟩
  · refine ev_iload_n (np := 6) dX9_isWithin_5 rfl rfl ?_
    refine ev_iload_n (np := 7) dX9_isWithin_6 rfl rfl ?_
    refine ev_icmp_gt (tgt := 14) (np := 10) dX9_isWithin_7 (by decide) rfl (by omega) (by omega) (fun _ => ?_) (fun h => absurd (by omega) h)
    refine ev_iconst (np := 15) dX9_isWithin_14 rfl ?_
    refine ev_zret dX9_isWithin_15 rfl (by first | exact Or.inl rfl | exact Or.inr rfl | omega) ?_
    exact ⟨rfl, rfl⟩
/-- the four small tests -/
theorem sem_isC_t (M : Mem) {x : Int} (hx : Rng x) (h : 0 ≤ x ∧ x ≤ 1) : Sem ST miX9_isCircuit [.inl x] M (Ri 1 M) := by
  refine Sem.of (by decide) ST_ok (Nat.le_of_ble_eq_true rfl) (ls0 := [some (.inl x)]) rfl ?_
  refine ev_iload_n (np := 1) dX9_isCircuit_0 rfl rfl ?_
  refine ev_iconst (np := 2) dX9_isCircuit_1 rfl ?_
  refine ev_iconst (np := 3) dX9_isCircuit_2 rfl ?_
  refine ev_Si3 (np := 6) moX9_isWithin sX9_isCircuit_3 (sem_within_t M hx (by omega) (by omega) h) (Nat.le_of_ble_eq_true rfl) rfl ?_
  refine ev_zret dX9_isCircuit_6 rfl (by first | exact Or.inl rfl | exact Or.inr rfl | omega) ?_
  exact ⟨rfl, rfl⟩
theorem sem_isC_f (M : Mem) {x : Int} (hx : Rng x) (h : ¬ (0 ≤ x ∧ x ≤ 1)) : Sem ST miX9_isCircuit [.inl x] M (Ri 0 M) := by
  refine Sem.of (by decide) ST_ok (Nat.le_of_ble_eq_true rfl) (ls0 := [some (.inl x)]) rfl ?_
  refine ev_iload_n (np := 1) dX9_isCircuit_0 rfl rfl ?_
  refine ev_iconst (np := 2) dX9_isCircuit_1 rfl ?_
  refine ev_iconst (np := 3) dX9_isCircuit_2 rfl ?_
  refine ev_Si3 (np := 6) moX9_isWithin sX9_isCircuit_3 (sem_within_f M hx (by omega) (by omega) h) (Nat.le_of_ble_eq_true rfl) rfl ?_
  refine ev_zret dX9_isCircuit_6 rfl (by first | exact Or.inl rfl | exact Or.inr rfl | omega) ?_
  exact ⟨rfl, rfl⟩
theorem sem_isReg_t (M : Mem) {x : Int} (hx : Rng x) (h : 0 ≤ x ∧ x ≤ 3) : Sem ST miX9_isRegister [.inl x] M (Ri 1 M) := by
  refine Sem.of (by decide) ST_ok (Nat.le_of_ble_eq_true rfl) (ls0 := [some (.inl x)]) rfl ?_
  refine ev_iload_n (np := 1) dX9_isRegister_0 rfl rfl ?_
  refine ev_iconst (np := 2) dX9_isRegister_1 rfl ?_
  refine ev_iconst (np := 3) dX9_isRegister_2 rfl ?_
  refine ev_Si3 (np := 6) moX9_isWithin sX9_isRegister_3 (sem_within_t M hx (by omega) (by omega) h) (Nat.le_of_ble_eq_true rfl) rfl ?_
  refine ev_zret dX9_isRegister_6 rfl (by first | exact Or.inl rfl | exact Or.inr rfl | omega) ?_
  exact ⟨rfl, rfl⟩
theorem sem_isReg_f (M : Mem) {x : Int} (hx : Rng x) (h : ¬ (0 ≤ x ∧ x ≤ 3)) : Sem ST miX9_isRegister [.inl x] M (Ri 0 M) := by
  refine Sem.of (by decide) ST_ok (Nat.le_of_ble_eq_true rfl) (ls0 := [some (.inl x)]) rfl ?_
  refine ev_iload_n (np := 1) dX9_isRegister_0 rfl rfl ?_
  refine ev_iconst (np := 2) dX9_isRegister_1 rfl ?_
  refine ev_iconst (np := 3) dX9_isRegister_2 rfl ?_
  refine ev_Si3 (np := 6) moX9_isWithin sX9_isRegister_3 (sem_within_f M hx (by omega) (by omega) h) (Nat.le_of_ble_eq_true rfl) rfl ?_
  refine ev_zret dX9_isRegister_6 rfl (by first | exact Or.inl rfl | exact Or.inr rfl | omega) ?_
  exact ⟨rfl, rfl⟩
theorem sem_isWire_t (M : Mem) {x : Int} (hx : Rng x) (h : 0 ≤ x ∧ x ≤ 15) : Sem ST miX9_isWire [.inl x] M (Ri 1 M) := by
  refine Sem.of (by decide) ST_ok (Nat.le_of_ble_eq_true rfl) (ls0 := [some (.inl x)]) rfl ?_
  refine ev_iload_n (np := 1) dX9_isWire_0 rfl rfl ?_
  refine ev_iconst (np := 2) dX9_isWire_1 rfl ?_
  refine ev_bipush (np := 4) dX9_isWire_2 (by decide) rfl ?_
  refine ev_Si3 (np := 7) moX9_isWithin sX9_isWire_4 (sem_within_t M hx (by omega) (by omega) h) (Nat.le_of_ble_eq_true rfl) rfl ?_
  refine ev_zret dX9_isWire_7 rfl (by first | exact Or.inl rfl | exact Or.inr rfl | omega) ?_
  exact ⟨rfl, rfl⟩
theorem sem_isWire_f (M : Mem) {x : Int} (hx : Rng x) (h : ¬ (0 ≤ x ∧ x ≤ 15)) : Sem ST miX9_isWire [.inl x] M (Ri 0 M) := by
  refine Sem.of (by decide) ST_ok (Nat.le_of_ble_eq_true rfl) (ls0 := [some (.inl x)]) rfl ?_
  refine ev_iload_n (np := 1) dX9_isWire_0 rfl rfl ?_
  refine ev_iconst (np := 2) dX9_isWire_1 rfl ?_
  refine ev_bipush (np := 4) dX9_isWire_2 (by decide) rfl ?_
  refine ev_Si3 (np := 7) moX9_isWithin sX9_isWire_4 (sem_within_f M hx (by omega) (by omega) h) (Nat.le_of_ble_eq_true rfl) rfl ?_
  refine ev_zret dX9_isWire_7 rfl (by first | exact Or.inl rfl | exact Or.inr rfl | omega) ?_
  exact ⟨rfl, rfl⟩
theorem sem_isState_t (M : Mem) {x : Int} (hx : Rng x) (h : 0 ≤ x ∧ x ≤ 15) : Sem ST miX9_isState [.inl x] M (Ri 1 M) := by
  refine Sem.of (by decide) ST_ok (Nat.le_of_ble_eq_true rfl) (ls0 := [some (.inl x)]) rfl ?_
  refine ev_iload_n (np := 1) dX9_isState_0 rfl rfl ?_
  refine ev_iconst (np := 2) dX9_isState_1 rfl ?_
  refine ev_bipush (np := 4) dX9_isState_2 (by decide) rfl ?_
  refine ev_Si3 (np := 7) moX9_isWithin sX9_isState_4 (sem_within_t M hx (by omega) (by omega) h) (Nat.le_of_ble_eq_true rfl) rfl ?_
  refine ev_zret dX9_isState_7 rfl (by first | exact Or.inl rfl | exact Or.inr rfl | omega) ?_
  exact ⟨rfl, rfl⟩
theorem sem_isState_f (M : Mem) {x : Int} (hx : Rng x) (h : ¬ (0 ≤ x ∧ x ≤ 15)) : Sem ST miX9_isState [.inl x] M (Ri 0 M) := by
  refine Sem.of (by decide) ST_ok (Nat.le_of_ble_eq_true rfl) (ls0 := [some (.inl x)]) rfl ?_
  refine ev_iload_n (np := 1) dX9_isState_0 rfl rfl ?_
  refine ev_iconst (np := 2) dX9_isState_1 rfl ?_
  refine ev_bipush (np := 4) dX9_isState_2 (by decide) rfl ?_
  refine ev_Si3 (np := 7) moX9_isWithin sX9_isState_4 (sem_within_f M hx (by omega) (by omega) h) (Nat.le_of_ble_eq_true rfl) rfl ?_
  refine ev_zret dX9_isState_7 rfl (by first | exact Or.inl rfl | exact Or.inr rfl | omega) ?_
  exact ⟨rfl, rfl⟩
theorem sem_areInp_t (M : Mem) {x : Int} (hx : Rng x) (h : 0 ≤ x ∧ x ≤ 3) : Sem ST miX9_areInputs [.inl x] M (Ri 1 M) := by
  refine Sem.of (by decide) ST_ok (Nat.le_of_ble_eq_true rfl) (ls0 := [some (.inl x)]) rfl ?_
  refine ev_iload_n (np := 1) dX9_areInputs_0 rfl rfl ?_
  refine ev_iconst (np := 2) dX9_areInputs_1 rfl ?_
  refine ev_iconst (np := 3) dX9_areInputs_2 rfl ?_
  refine ev_Si3 (np := 6) moX9_isWithin sX9_areInputs_3 (sem_within_t M hx (by omega) (by omega) h) (Nat.le_of_ble_eq_true rfl) rfl ?_
  refine ev_zret dX9_areInputs_6 rfl (by first | exact Or.inl rfl | exact Or.inr rfl | omega) ?_
  exact ⟨rfl, rfl⟩
theorem sem_areInp_f (M : Mem) {x : Int} (hx : Rng x) (h : ¬ (0 ≤ x ∧ x ≤ 3)) : Sem ST miX9_areInputs [.inl x] M (Ri 0 M) := by
  refine Sem.of (by decide) ST_ok (Nat.le_of_ble_eq_true rfl) (ls0 := [some (.inl x)]) rfl ?_
  refine ev_iload_n (np := 1) dX9_areInputs_0 rfl rfl ?_
  refine ev_iconst (np := 2) dX9_areInputs_1 rfl ?_
  refine ev_iconst (np := 3) dX9_areInputs_2 rfl ?_
  refine ev_Si3 (np := 6) moX9_isWithin sX9_areInputs_3 (sem_within_f M hx (by omega) (by omega) h) (Nat.le_of_ble_eq_true rfl) rfl ?_
  refine ev_zret dX9_areInputs_6 rfl (by first | exact Or.inl rfl | exact Or.inr rfl | omega) ?_
  exact ⟨rfl, rfl⟩
/-- a wire that a gate may have -/
def Feed (g w : Int) : Prop := (0 ≤ w ∧ w ≤ 6 + g - 1) ∨ w = 14 ∨ w = 15
theorem sem_feed_t (M : Mem) {g w : Int} (hg : 0 ≤ g ∧ g ≤ 8) (hw : Rng w) (h : Feed g w) : Sem ST miX9_mayFeed [.inl g, .inl w] M (Ri 1 M) := by
  refine Sem.of (by decide) ST_ok (Nat.le_of_ble_eq_true rfl) (ls0 := [some (.inl g), some (.inl w)]) rfl ?_
  refine ev_iload_n (np := 1) dX9_mayFeed_0 rfl rfl ?_
  refine ev_iconst (np := 2) dX9_mayFeed_1 rfl ?_
  refine ev_bipush (np := 4) dX9_mayFeed_2 (by decide) rfl ?_
  refine ev_iload_n (np := 5) dX9_mayFeed_4 rfl rfl ?_
  refine ev_iadd (np := 6) dX9_mayFeed_5 rfl ?_
  refine ev_iconst (np := 7) dX9_mayFeed_6 rfl ?_
  refine ev_isub (np := 8) dX9_mayFeed_7 rfl ?_
  by_cases h1 : 0 ≤ w ∧ w ≤ 6 + g - 1
  · refine ev_Si3 (np := 11) moX9_isWithin sX9_mayFeed_8 (sem_within_t M hw (by omega) (by omega) h1) (Nat.le_of_ble_eq_true rfl) rfl ?_
    refine ev_if_ne (tgt := 26) (np := 14) dX9_mayFeed_11 (by decide) rfl (by omega) (fun _ => ?_) (fun h => absurd h (by omega))
    refine ev_iconst (np := 27) dX9_mayFeed_26 rfl ?_
    refine ev_goto (np := 31) dX9_mayFeed_27 (by decide) ?_
    refine ev_zret dX9_mayFeed_31 rfl (by first | exact Or.inl rfl | exact Or.inr rfl | omega) ?_
    exact ⟨rfl, rfl⟩
  · have h2 : w = 14 ∨ w = 15 := h.resolve_left h1
    refine ev_Si3 (np := 11) moX9_isWithin sX9_mayFeed_8 (sem_within_f M hw (by omega) (by omega) h1) (Nat.le_of_ble_eq_true rfl) rfl ?_
    refine ev_if_ne (tgt := 26) (np := 14) dX9_mayFeed_11 (by decide) rfl (by omega) (fun h => absurd (by omega) h) (fun _ => ?_)
    refine ev_iload_n (np := 15) dX9_mayFeed_14 rfl rfl ?_
    refine ev_bipush (np := 17) dX9_mayFeed_15 (by decide) rfl ?_
    refine ev_icmp_eq (tgt := 26) (np := 20) dX9_mayFeed_17 (by decide) rfl (by omega) (by omega) (fun h3 => ?_) (fun h3 => ?_)
    · refine ev_iconst (np := 27) dX9_mayFeed_26 rfl ?_
      refine ev_goto (np := 31) dX9_mayFeed_27 (by decide) ?_
      refine ev_zret dX9_mayFeed_31 rfl (by first | exact Or.inl rfl | exact Or.inr rfl | omega) ?_
      exact ⟨rfl, rfl⟩
    · refine ev_iload_n (np := 21) dX9_mayFeed_20 rfl rfl ?_
      refine ev_bipush (np := 23) dX9_mayFeed_21 (by decide) rfl ?_
      refine ev_icmp_ne (tgt := 30) (np := 26) dX9_mayFeed_23 (by decide) rfl (by omega) (by omega) (fun h => absurd (by omega) h) (fun _ => ?_)
      refine ev_iconst (np := 27) dX9_mayFeed_26 rfl ?_
      refine ev_goto (np := 31) dX9_mayFeed_27 (by decide) ?_
      refine ev_zret dX9_mayFeed_31 rfl (by first | exact Or.inl rfl | exact Or.inr rfl | omega) ?_
      exact ⟨rfl, rfl⟩
theorem sem_feed_f (M : Mem) {g w : Int} (hg : 0 ≤ g ∧ g ≤ 8) (hw : Rng w) (h : ¬ Feed g w) : Sem ST miX9_mayFeed [.inl g, .inl w] M (Ri 0 M) := by
  unfold Feed at h
  refine Sem.of (by decide) ST_ok (Nat.le_of_ble_eq_true rfl) (ls0 := [some (.inl g), some (.inl w)]) rfl ?_
  refine ev_iload_n (np := 1) dX9_mayFeed_0 rfl rfl ?_
  refine ev_iconst (np := 2) dX9_mayFeed_1 rfl ?_
  refine ev_bipush (np := 4) dX9_mayFeed_2 (by decide) rfl ?_
  refine ev_iload_n (np := 5) dX9_mayFeed_4 rfl rfl ?_
  refine ev_iadd (np := 6) dX9_mayFeed_5 rfl ?_
  refine ev_iconst (np := 7) dX9_mayFeed_6 rfl ?_
  refine ev_isub (np := 8) dX9_mayFeed_7 rfl ?_
  refine ev_Si3 (np := 11) moX9_isWithin sX9_mayFeed_8 (sem_within_f M hw (by omega) (by omega) (by omega)) (Nat.le_of_ble_eq_true rfl) rfl ?_
  refine ev_if_ne (tgt := 26) (np := 14) dX9_mayFeed_11 (by decide) rfl (by omega) (fun h => absurd (by omega) h) (fun _ => ?_)
  refine ev_iload_n (np := 15) dX9_mayFeed_14 rfl rfl ?_
  refine ev_bipush (np := 17) dX9_mayFeed_15 (by decide) rfl ?_
  refine ev_icmp_eq (tgt := 26) (np := 20) dX9_mayFeed_17 (by decide) rfl (by omega) (by omega) (fun h => absurd h (by omega)) (fun _ => ?_)
  refine ev_iload_n (np := 21) dX9_mayFeed_20 rfl rfl ?_
  refine ev_bipush (np := 23) dX9_mayFeed_21 (by decide) rfl ?_
  refine ev_icmp_ne (tgt := 30) (np := 26) dX9_mayFeed_23 (by decide) rfl (by omega) (by omega) (fun _ => ?_) (fun h => absurd h (by omega))
  refine ev_iconst (np := 31) dX9_mayFeed_30 rfl ?_
  refine ev_zret dX9_mayFeed_31 rfl (by first | exact Or.inl rfl | exact Or.inr rfl | omega) ?_
  exact ⟨rfl, rfl⟩
theorem sem_bit (M : Mem) {b p : Nat} (hb : b < 2147483648) (hp : p < 32) : Sem ST miX9_bitOf [.inl (b : Int), .inl (p : Int)] M (Ri (bt b p : Nat) M) := by
  refine Sem.of (by decide) ST_ok (Nat.le_of_ble_eq_true rfl) (ls0 := [some (.inl (b : Int)), some (.inl (p : Int))]) rfl ?_
  refine ev_iload_n (np := 1) dX9_bitOf_0 rfl rfl ?_
  refine ev_iload_n (np := 2) dX9_bitOf_1 rfl rfl ?_
  refine ev_iushr (np := 3) dX9_bitOf_2 (by omega) (by omega) rfl ?_
  refine ev_iconst (np := 4) dX9_bitOf_3 rfl ?_
  refine ev_iandm 1 (np := 5) dX9_bitOf_4 (by omega) rfl rfl ?_
  have e : (b : Int) / ((2 ^ (p : Int).toNat : Nat) : Int) % ((2 ^ 1 : Nat) : Int) = ((bt b p : Nat) : Int) := by
    rw [Int.toNat_natCast]
    unfold bt
    norm_cast
  rw [e]
  refine ev_iret dX9_bitOf_5 rfl ?_
  exact ⟨rfl, rfl⟩
/-- the least bit of a set of four, 3 if none of the lesser ones is in it -/
def least4 (s : Nat) : Nat := if bt s 0 = 1 then 0 else if bt s 1 = 1 then 1 else if bt s 2 = 1 then 2 else 3
theorem sem_least (M : Mem) {s : Nat} (hs : s < 65536) : Sem ST miX9_leastOf [.inl (s : Int)] M (Ri (least4 s : Nat) M) := by
  refine Sem.of (by decide) ST_ok (Nat.le_of_ble_eq_true rfl) (ls0 := [some (.inl (s : Int)), none]) rfl ?_
  refine ev_iconst (np := 1) dX9_leastOf_0 rfl ?_
  refine ev_istore_n (np := 2) dX9_leastOf_1 (by decide) rfl ?_
  refine ev_iload_n (np := 3) dX9_leastOf_2 rfl rfl ?_
  refine ev_iconst (np := 4) dX9_leastOf_3 rfl ?_
  refine ev_icmp_ge (tgt := 21) (np := 7) dX9_leastOf_4 (by decide) rfl (by omega) (by omega) (fun h => absurd h (by omega)) (fun _ => ?_)
  refine ev_iload_n (np := 8) dX9_leastOf_7 rfl rfl ?_
  refine ev_iload_n (np := 9) dX9_leastOf_8 rfl rfl ?_
  refine ev_Si2 (np := 12) moX9_bitOf sX9_leastOf_9 (sem_bit M (p := 0) (by omega) (by omega)) (Nat.le_of_ble_eq_true rfl) rfl ?_
  have := bt_lt s 0
  have := bt_lt s 1
  have := bt_lt s 2
  refine ev_if_ne (tgt := 21) (np := 15) dX9_leastOf_12 (by decide) rfl (by omega) (fun h0 => ?_) (fun h0 => ?_)
  · refine ev_iload_n (np := 22) dX9_leastOf_21 rfl rfl ?_
    refine ev_iret dX9_leastOf_22 rfl ?_
    exact ⟨by rw [least4, if_pos (by omega)]; rfl, rfl⟩
  refine ev_iinc (np := 18) dX9_leastOf_15 rfl (by decide) rfl ?_
  refine ev_goto (np := 2) dX9_leastOf_18 (by decide) ?_
  refine ev_iload_n (np := 3) dX9_leastOf_2 rfl rfl ?_
  refine ev_iconst (np := 4) dX9_leastOf_3 rfl ?_
  refine ev_icmp_ge (tgt := 21) (np := 7) dX9_leastOf_4 (by decide) rfl (by omega) (by omega) (fun h => absurd h (by omega)) (fun _ => ?_)
  refine ev_iload_n (np := 8) dX9_leastOf_7 rfl rfl ?_
  refine ev_iload_n (np := 9) dX9_leastOf_8 rfl rfl ?_
  refine ev_Si2 (np := 12) moX9_bitOf sX9_leastOf_9 (sem_bit M (p := 1) (by omega) (by omega)) (Nat.le_of_ble_eq_true rfl) rfl ?_
  refine ev_if_ne (tgt := 21) (np := 15) dX9_leastOf_12 (by decide) rfl (by omega) (fun h1 => ?_) (fun h1 => ?_)
  · refine ev_iload_n (np := 22) dX9_leastOf_21 rfl rfl ?_
    refine ev_iret dX9_leastOf_22 rfl ?_
    exact ⟨by rw [least4, if_neg (by omega), if_pos (by omega)]; rfl, rfl⟩
  refine ev_iinc (np := 18) dX9_leastOf_15 rfl (by decide) rfl ?_
  refine ev_goto (np := 2) dX9_leastOf_18 (by decide) ?_
  refine ev_iload_n (np := 3) dX9_leastOf_2 rfl rfl ?_
  refine ev_iconst (np := 4) dX9_leastOf_3 rfl ?_
  refine ev_icmp_ge (tgt := 21) (np := 7) dX9_leastOf_4 (by decide) rfl (by omega) (by omega) (fun h => absurd h (by omega)) (fun _ => ?_)
  refine ev_iload_n (np := 8) dX9_leastOf_7 rfl rfl ?_
  refine ev_iload_n (np := 9) dX9_leastOf_8 rfl rfl ?_
  refine ev_Si2 (np := 12) moX9_bitOf sX9_leastOf_9 (sem_bit M (p := 2) (by omega) (by omega)) (Nat.le_of_ble_eq_true rfl) rfl ?_
  refine ev_if_ne (tgt := 21) (np := 15) dX9_leastOf_12 (by decide) rfl (by omega) (fun h2 => ?_) (fun h2 => ?_)
  · refine ev_iload_n (np := 22) dX9_leastOf_21 rfl rfl ?_
    refine ev_iret dX9_leastOf_22 rfl ?_
    exact ⟨by rw [least4, if_neg (by omega), if_neg (by omega), if_pos (by omega)]; rfl, rfl⟩
  refine ev_iinc (np := 18) dX9_leastOf_15 rfl (by decide) rfl ?_
  refine ev_goto (np := 2) dX9_leastOf_18 (by decide) ?_
  refine ev_iload_n (np := 3) dX9_leastOf_2 rfl rfl ?_
  refine ev_iconst (np := 4) dX9_leastOf_3 rfl ?_
  refine ev_icmp_ge (tgt := 21) (np := 7) dX9_leastOf_4 (by decide) rfl (by omega) (by omega) (fun _ => ?_) (fun h => absurd (by omega) h)
  refine ev_iload_n (np := 22) dX9_leastOf_21 rfl rfl ?_
  refine ev_iret dX9_leastOf_22 rfl ?_
  exact ⟨by rw [least4, if_neg (by omega), if_neg (by omega), if_neg (by omega)]; rfl, rfl⟩
/-- the bits of a float of n sixteenths -/
def flt (n : Nat) : Nat := if n = 0 then 0 else ((123 + Nat.log2 n) * 8388608) ||| ((n ^^^ 2 ^ Nat.log2 n) * 2 ^ (23 - Nat.log2 n))
theorem flt_ok : ∀ n, n < 17 → ∀ h, h < 5 → 1 ≤ n / 2 ^ h → (h = 4 ∨ n / 2 ^ (h + 1) = 0) → ((127 + h - 4) * 8388608) ||| ((n ^^^ 2 ^ h) * 2 ^ (23 - h)) = flt n := by decide +kernel
theorem sem_at0 (M : Mem) : Sem ST miX9_circuitAt [.inr (cX 0), .inl 0] M (fun v N => v = some (.inr (cC 0 0)) ∧ N = M) := by
  refine Sem.of (by decide) ST_ok (Nat.le_of_ble_eq_true rfl) (ls0 := [some (.inr (cX 0)), some (.inl 0)]) rfl ?_
  refine ev_iload_n (np := 1) dX9_circuitAt_0 rfl rfl ?_
  refine ev_if_ne (tgt := 11) (np := 4) dX9_circuitAt_1 (by decide) rfl (by omega) (fun h => absurd (by omega) h) (fun _ => ?_)
  refine ev_aload_n (np := 5) dX9_circuitAt_4 rfl rfl ?_
  refine ev_getR (np := 8) sX9_circuitAt_5 rfl rfl rfl ?_
  refine ev_goto (np := 15) dX9_circuitAt_8 (by decide) ?_
  refine ev_aret dX9_circuitAt_15 rfl ?_
  exact ⟨rfl, rfl⟩
theorem sem_at1 (M : Mem) : Sem ST miX9_circuitAt [.inr (cX 0), .inl 1] M (fun v N => v = some (.inr (cC 1 0)) ∧ N = M) := by
  refine Sem.of (by decide) ST_ok (Nat.le_of_ble_eq_true rfl) (ls0 := [some (.inr (cX 0)), some (.inl 1)]) rfl ?_
  refine ev_iload_n (np := 1) dX9_circuitAt_0 rfl rfl ?_
  refine ev_if_ne (tgt := 11) (np := 4) dX9_circuitAt_1 (by decide) rfl (by omega) (fun _ => ?_) (fun h => absurd h (by omega))
  refine ev_aload_n (np := 12) dX9_circuitAt_11 rfl rfl ?_
  refine ev_getR (np := 15) sX9_circuitAt_12 rfl rfl rfl ?_
  refine ev_aret dX9_circuitAt_15 rfl ?_
  exact ⟨rfl, rfl⟩
