/-! FACTS OF THE VALUES: states come to, classes, registers that never change -/
theorem eq16 {a b : Nat} (ha : a < 65536) (hb : b < 65536) (h : ∀ s, s < 16 → a.testBit s = b.testBit s) : a = b := by
  apply Nat.eq_of_testBit_eq
  intro i
  rcases Nat.lt_or_ge i 16 with g | g
  · exact h i g
  · have hp : 2 ^ 16 ≤ 2 ^ i := Nat.pow_le_pow_right (by decide) g
    rw [Nat.testBit_lt_two_pow (by omega), Nat.testBit_lt_two_pow (by omega)]
theorem sct_up (T : Tab) (r s : Nat) (h : (sct T r).testBit s = true) : (sct T (r + 1)).testBit s = true := by
  show (sct T r ||| _).testBit s = true
  rw [Nat.testBit_or, h, Bool.true_or]
theorem sct_grow {T : Tab} (hT : TWF T) : ∀ r, (∀ q, q < r → sct T q ≠ sct T (q + 1)) → r + 1 ≤ cnt (sct T r).testBit 16
  | 0, _ => by
    have h0 : (sct T 0).testBit T.2.2 = true := by
      show (2 ^ T.2.2).testBit T.2.2 = true
      rw [Nat.testBit_two_pow]
      simp
    have : ∀ n, T.2.2 < n → 1 ≤ cnt (sct T 0).testBit n := by
      intro n
      induction n with
      | zero => intro h; omega
      | succ n ih =>
        intro h
        unfold cnt
        by_cases e : T.2.2 = n
        · rw [← e, if_pos h0]; omega
        · have := ih (by omega); omega
    exact this 16 hT.2.2
  | r + 1, h => by
    have ih := sct_grow hT r (fun q hq => h q (by omega))
    have m := cnt_mono (p := (sct T r).testBit) (q := (sct T (r + 1)).testBit) (fun s => sct_up T r s) 16
    rcases Nat.lt_or_ge (cnt (sct T r).testBit 16) (cnt (sct T (r + 1)).testBit 16) with g | g
    · omega
    · have e := cnt_eq (p := (sct T r).testBit) (q := (sct T (r + 1)).testBit) (fun s => sct_up T r s) 16 (by omega)
      exact absurd (eq16 (sct_lt hT r) (sct_lt hT (r + 1)) e) (h r (by omega))
theorem sct_stay {T : Tab} {r : Nat} (h : sct T r = sct T (r + 1)) : ∀ q, sct T (r + q) = sct T r
  | 0 => rfl
  | q + 1 => by
    show sct T (r + q) ||| sbS T (sct T (r + q)) 16 = sct T r
    rw [sct_stay h q]
    exact h.symm
theorem sct_17 {T : Tab} (hT : TWF T) : sct T 17 = sct T 16 := by
  obtain ⟨q, hq, e⟩ : ∃ q, q < 16 ∧ sct T q = sct T (q + 1) := by
    apply Classical.byContradiction
    intro hn
    have h1 := sct_grow hT 16 (fun q hq e => hn ⟨q, hq, e⟩)
    have h2 := cnt_le (sct T 16).testBit 16
    omega
  have a := sct_stay e (16 - q)
  have b := sct_stay e (17 - q)
  rw [show q + (16 - q) = 16 by omega] at a
  rw [show q + (17 - q) = 17 by omega] at b
  rw [a, b]
theorem st4_bit : ∀ a, a < 2 → ∀ b, b < 2 → ∀ c, c < 2 → ∀ d, d < 2 → bt (a + 2 * b + 4 * c + 8 * d) 0 = a ∧ bt (a + 2 * b + 4 * c + 8 * d) 1 = b ∧ bt (a + 2 * b + 4 * c + 8 * d) 2 = c ∧ bt (a + 2 * b + 4 * c + 8 * d) 3 = d := by decide
theorem bt_st4 {f : Nat → Nat} (h : ∀ r, r < 4 → f r < 2) {i : Nat} (hi : i < 4) : bt (st4 f) i = f i := by
  obtain ⟨a, b, c, d⟩ := st4_bit _ (h 0 (by decide)) _ (h 1 (by decide)) _ (h 2 (by decide)) _ (h 3 (by decide))
  rcases (show i = 0 ∨ i = 1 ∨ i = 2 ∨ i = 3 by omega) with rfl | rfl | rfl | rfl
  · exact a
  · exact b
  · exact c
  · exact d
theorem low0 : ∀ x, x < 16 → (∀ j, j < 4 → bt x j = 0) → x = 0 := by decide +kernel
theorem low4 : ∀ x, x < 16 → ∀ j, j < 4 → bt x j = 1 → (∀ q, q < j → bt x q = 0) → least4 x = j := by decide +kernel
theorem xor0 : ∀ a, a < 16 → ∀ b, b < 16 → (a ^^^ b = 0 ↔ a = b) := by decide +kernel
theorem bits4 : ∀ a, a < 16 → ∀ b, b < 16 → (∀ i, i < 4 → bt a i = bt b i) → a = b := by decide +kernel
theorem least_dif : ∀ a, a < 16 → ∀ b, b < 16 → a ^^^ b ≠ 0 → bt a (least4 (a ^^^ b)) ≠ bt b (least4 (a ^^^ b)) := by decide +kernel
theorem least_lt (s : Nat) : least4 s < 4 := by
  unfold least4
  split
  · decide
  · split
    · decide
    · split
      · decide
      · decide
theorem bt1 (X s : Nat) : bt X s = 1 ↔ X.testBit s = true := by
  rw [bt_tb]
  cases X.testBit s <;> simp
theorem sbI_mono (T : Tab) (s q : Nat) : ∀ i f, bt f q = 1 → bt (sbI T s i f) q = 1
  | 0, _, h => h
  | i + 1, f, h => by
    show bt (sbI T s i f ||| 2 ^ T.1 s i) q = 1
    exact (bt_or _ _ _).mpr (Or.inl (sbI_mono T s q i f h))
theorem sbI_in (T : Tab) (s : Nat) {i : Nat} : ∀ n f, i < n → bt (sbI T s n f) (T.1 s i) = 1
  | 0, _, h => absurd h (Nat.not_lt_zero i)
  | n + 1, f, h => by
    show bt (sbI T s n f ||| 2 ^ T.1 s n) (T.1 s i) = 1
    refine (bt_or _ _ _).mpr ?_
    by_cases e : i = n
    · rw [e]; exact Or.inr ((bt_p2 _ _).mpr rfl)
    · exact Or.inl (sbI_in T s n f (by omega))
theorem sbS_in (T : Tab) (X : Nat) {s i : Nat} (hb : bt X s = 1) (hi : i < 4) : ∀ n, s < n → bt (sbS T X n) (T.1 s i) = 1
  | 0, h => absurd h (Nat.not_lt_zero s)
  | n + 1, h => by
    unfold sbS
    by_cases e : s = n
    · rw [← e, if_pos hb]; exact sbI_in T s 4 _ hi
    · split
      · exact sbI_mono T n _ 4 _ (sbS_in T X hb hi n (by omega))
      · exact sbS_in T X hb hi n (by omega)
theorem sct_first (T : Tab) : ∀ r, bt (sct T r) T.2.2 = 1
  | 0 => (bt_p2 _ _).mpr rfl
  | r + 1 => by
    show bt (sct T r ||| sbS T (sct T r) 16) T.2.2 = 1
    exact (bt_or _ _ _).mpr (Or.inl (sct_first T r))
theorem sct_next {T : Tab} (hT : TWF T) {s i : Nat} (hs : s < 16) (hi : i < 4) (h : bt (sct T 16) s = 1) : bt (sct T 16) (T.1 s i) = 1 := by
  have e : sct T 16 ||| sbS T (sct T 16) 16 = sct T 16 := sct_17 hT
  rw [← e]
  exact (bt_or _ _ _).mpr (Or.inr (sbS_in T _ h hi 16 hs))
theorem chg_in (T : Tab) (X : Nat) {s : Nat} (hb : bt X s = 1) : ∀ n, s < n → (s ^^^ T.2.2) ||| chg T X n = chg T X n
  | 0, h => absurd h (Nat.not_lt_zero s)
  | n + 1, h => by
    unfold chg
    by_cases e : s = n
    · rw [← e, if_pos hb, Nat.or_comm (chg T X s), ← Nat.or_assoc, Nat.or_self]
    · have ih := chg_in T X hb n (by omega)
      split
      · rw [← Nat.or_assoc, ih]
      · exact ih
theorem std_key : ∀ a, a < 16 → ∀ c, c < 16 → a ||| c = c → a &&& (15 - (15 &&& c)) = 0 := by decide +kernel
theorem std_15 : ∀ c, c < 16 → ¬ (15 - (15 &&& c) < 15) → c = 0 := by decide +kernel
theorem std_none {T : Tab} (hT : TWF T) {s : Nat} (hs : s < 16) (hb : bt (sct T 16) s = 1) : (s ^^^ T.2.2) &&& (15 - (15 &&& chg T (sct T 16) 16)) = 0 :=
  std_key _ (Nat.xor_lt_two_pow (n := 4) hs hT.2.2) _ (chg_lt hT 16 (Nat.le_refl 16)) (chg_in T _ hb 16 hs)
theorem std_one {T : Tab} (hT : TWF T) (h : ¬ (15 - (15 &&& chg T (sct T 16) 16) < 15)) : sct T 16 = 2 ^ T.2.2 := by
  have hc := std_15 _ (chg_lt hT 16 (Nat.le_refl 16)) h
  have hz : ∀ s, s < 16 → bt (sct T 16) s = 1 → s = T.2.2 := fun s hs hb => by
    have h1 := chg_in T (sct T 16) hb 16 hs
    rw [hc, Nat.or_zero] at h1
    exact (xor0 s hs _ hT.2.2).mp h1
  refine eq16 (sct_lt hT 16) (p2_lt hT.2.2) (fun s hs => ?_)
  by_cases e : s = T.2.2
  · rw [e, (bt1 _ _).mp (sct_first T 16), (bt1 _ _).mp ((bt_p2 T.2.2 T.2.2).mpr rfl)]
  · have h1 : (sct T 16).testBit s = false := by
      cases h2 : (sct T 16).testBit s with
      | false => rfl
      | true => exact absurd (hz s hs ((bt1 _ _).mpr h2)) e
    have h3 : (2 ^ T.2.2).testBit s = false := by
      cases h2 : (2 ^ T.2.2).testBit s with
      | false => rfl
      | true => exact absurd ((bt_p2 _ _).mp ((bt1 _ _).mpr h2)).symm e
    rw [h1, h3]
theorem cnt_pos {p : Nat → Bool} {s : Nat} (h : p s = true) : ∀ n, s < n → 1 ≤ cnt p n
  | 0, hn => absurd hn (Nat.not_lt_zero s)
  | n + 1, hn => by
    unfold cnt
    by_cases e : s = n
    · rw [← e, if_pos h]; omega
    · have := cnt_pos h n (by omega)
      omega
def pcS (X : Nat) : Nat := cnt (fun s => bt X s == 1) 16
theorem cls_rng {T : Tab} {X f : Nat} (hf : f < 16) (hX : bt X f = 1) : 1 ≤ clsS T X ∧ clsS T X ≤ pcS X := by
  refine ⟨?_, cnt_mono (fun s h => ?_) 16⟩
  · obtain ⟨m, h1, h2, h3⟩ := ex_least (P := fun s => bt X s = 1) f hX
    exact cnt_pos (clsP_iff.mpr ⟨h2, fun o ho hb => absurd hb (h3 o ho)⟩) 16 (by omega)
  · simp [(clsP_iff.mp h).1]
theorem depS_lt (C : Circ) : ∀ g f, f < 2 ^ cn C → depS C g f < 2 ^ cn C
  | 0, _, h => h
  | g + 1, f, h => by
    unfold depS
    refine depS_lt C g _ ?_
    split
    · split
      · exact Nat.or_lt_two_pow (Nat.or_lt_two_pow h gw_lt) gw_lt
      · exact Nat.or_lt_two_pow h gw_lt
    · exact h
theorem out_tab (C : Circ) (s : Nat) {i : Nat} (hi : i < 4) : bt ((tabOf C).2.1 s) i = outS C s i := bt_st4 (fun r _ => out_lt C s r) hi
