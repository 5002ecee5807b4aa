/-! FACTS OF THE VALUES: runs, the least row -/
theorem run_pth (C : Circ) (row : Int) : ∀ t, (runS C row t).1 = pth (tabOf C) (inpS row) t
  | 0 => rfl
  | t + 1 => by
    show nxtS C (runS C row t).1 (inpS row t) = nxtS C (pth (tabOf C) (inpS row) t) (inpS row t)
    rw [run_pth C row t]
theorem run_lt (C : Circ) (row : Int) : ∀ t, (runS C row t).2 < 2 ^ t
  | 0 => (by decide : (0 : Nat) < 1)
  | t + 1 => by
    have ih := run_lt C row t
    have h1 := out_lt C (runS C row t).1 (inpS row t)
    show (runS C row t).2 ||| outS C (runS C row t).1 (inpS row t) * 2 ^ t < 2 ^ (t + 1)
    have h2 : (2 : Nat) ^ (t + 1) = 2 ^ t + 2 ^ t := by rw [Nat.pow_succ]; omega
    have hp := Nat.two_pow_pos t
    refine Nat.or_lt_two_pow (by omega) ?_
    have h3 : outS C (runS C row t).1 (inpS row t) * 2 ^ t ≤ 1 * 2 ^ t := Nat.mul_le_mul (by omega) (Nat.le_refl _)
    omega
theorem run_same {Z O : Circ} {row : Int} : ∀ n, (∀ t, t < n → outS Z (runS Z row t).1 (inpS row t) = outS O (runS O row t).1 (inpS row t)) → (runS Z row n).2 = (runS O row n).2
  | 0, _ => rfl
  | n + 1, h => by
    show (runS Z row n).2 ||| outS Z (runS Z row n).1 (inpS row n) * 2 ^ n = (runS O row n).2 ||| outS O (runS O row n).1 (inpS row n) * 2 ^ n
    rw [run_same n (fun t ht => h t (by omega)), h n (by omega)]
theorem run_agree {Z O : Circ} (hZ : WF Z) (hO : WF O) (h : NA (tabOf Z) (tabOf O)) (row : Int) (n : Nat) : (runS Z row n).2 = (runS O row n).2 := by
  refine run_same n (fun t _ => ?_)
  have := nap_out (tabOf_wf hZ) (tabOf_wf hO) h (f := inpS row) (inp_lt row) t
  rw [run_pth, run_pth, ← out_tab Z _ (inp_lt row t), ← out_tab O _ (inp_lt row t), this]
theorem or_xor {A t : Nat} (h : A < 2 ^ t) : A ^^^ (A ||| 1 * 2 ^ t) = 2 ^ t ∧ (A ||| 1 * 2 ^ t) ^^^ A = 2 ^ t := by
  have key : (A ||| 1 * 2 ^ t) ^^^ A = 2 ^ t := by
    rw [Nat.one_mul]
    apply Nat.eq_of_testBit_eq
    intro i
    simp only [Nat.testBit_xor, Nat.testBit_or, Nat.testBit_two_pow]
    by_cases e : t = i
    · rw [← e, Nat.testBit_lt_two_pow h]
      simp
    · simp [e]
  exact ⟨by rw [Nat.xor_comm]; exact key, key⟩
/-- the last output alone is another one -/
theorem run_last {Z O : Circ} {row : Int} {d : Nat} (h : ∀ t, t < d → outS Z (runS Z row t).1 (inpS row t) = outS O (runS O row t).1 (inpS row t)) (hd : outS Z (runS Z row d).1 (inpS row d) ≠ outS O (runS O row d).1 (inpS row d)) : (runS Z row (d + 1)).2 ^^^ (runS O row (d + 1)).2 = 2 ^ d := by
  show ((runS Z row d).2 ||| outS Z (runS Z row d).1 (inpS row d) * 2 ^ d) ^^^ ((runS O row d).2 ||| outS O (runS O row d).1 (inpS row d) * 2 ^ d) = 2 ^ d
  rw [← run_same d h]
  have hl := run_lt Z row d
  have a := out_lt Z (runS Z row d).1 (inpS row d)
  have b := out_lt O (runS O row d).1 (inpS row d)
  generalize outS Z (runS Z row d).1 (inpS row d) = x at hd a ⊢
  generalize outS O (runS O row d).1 (inpS row d) = y at hd b ⊢
  generalize (runS Z row d).2 = A at hl ⊢
  rcases (show (x = 0 ∧ y = 1) ∨ (x = 1 ∧ y = 0) by omega) with ⟨rfl, rfl⟩ | ⟨rfl, rfl⟩
  · rw [Nat.zero_mul, Nat.or_zero]
    exact (or_xor hl).1
  · rw [Nat.zero_mul, Nat.or_zero]
    exact (or_xor hl).2
theorem or_add {A t x : Nat} (h : A < 2 ^ t) (hx : x < 2) : A ||| x * 2 ^ t = A + x * 2 ^ t := by
  rcases (show x = 0 ∨ x = 1 by omega) with rfl | rfl
  · rw [Nat.zero_mul, Nat.or_zero, Nat.add_zero]
  · rw [Nat.one_mul, Nat.or_two_pow_eq_add_of_lt h]
theorem back_s (s : Bst) : ∀ f p, bback s (f + 1) p = bah s (bback s f p)
  | 0, _ => rfl
  | f + 1, p => back_s s f (bah s p)
theorem back_to {s : Bst} (h : BI s) {p : Nat} (hp : p < bn s) : ∀ f, f ≤ btk s p → bback s f p + f ≤ p ∧ btk s (bback s f p) + f = btk s p
  | 0, _ => ⟨Nat.le_refl _, rfl⟩
  | f + 1, hf => by
    obtain ⟨a, b⟩ := back_to h hp f (by omega)
    have h1 := h.2 (bback s f p) (by omega)
    have h2 := h1.2.2.1
    obtain ⟨h3, h4⟩ := h1.2.2.2.2 (by omega)
    rw [back_s]
    omega
theorem back_0 {s : Bst} (h : BI s) {p : Nat} (hp : p < bn s) : bback s (btk s p) p = 0 := by
  obtain ⟨a, b⟩ := back_to h hp (btk s p) (Nat.le_refl _)
  apply Classical.byContradiction
  intro hne
  have h1 := h.2 (bback s (btk s p) p) (by omega)
  have := (h1.2.2.2.2 (by omega)).2
  omega
/-- along the first row of a pair -/
theorem way_to {T0 T1 : Tab} (h0 : TWF T0) (h1 : TWF T1) {p : Nat} (hp : p < bn (bfs T0 T1)) {f : Nat → Nat} (hf : ∀ t, t < btk (bfs T0 T1) p → f t = bway (bfs T0 T1) p t) : ∀ t, t ≤ btk (bfs T0 T1) p → pth T0 f t = bz (bfs T0 T1) (bback (bfs T0 T1) (btk (bfs T0 T1) p - t) p) ∧ pth T1 f t = bo (bfs T0 T1) (bback (bfs T0 T1) (btk (bfs T0 T1) p - t) p)
  | 0, _ => by
    rw [Nat.sub_zero, back_0 (BI.bfs h0 h1) hp]
    obtain ⟨q, -⟩ := bq_bfs h0 h1
    exact ⟨q.2.1.symm, q.2.2.1.symm⟩
  | t + 1, ht => by
    obtain ⟨a, b⟩ := way_to h0 h1 hp hf t (by omega)
    obtain ⟨q, -⟩ := bq_bfs h0 h1
    have hB := BI.bfs h0 h1
    have hw := hf t (by omega)
    obtain ⟨c, d⟩ := back_to hB hp (btk (bfs T0 T1) p - (t + 1)) (by omega)
    have e : btk (bfs T0 T1) p - t = (btk (bfs T0 T1) p - (t + 1)) + 1 := by omega
    rw [e, back_s] at a b
    unfold bway at hw
    rw [show btk (bfs T0 T1) p - 1 - t = btk (bfs T0 T1) p - (t + 1) by omega] at hw
    generalize bback (bfs T0 T1) (btk (bfs T0 T1) p - (t + 1)) p = j at a b c d hw ⊢
    have hj := hB.2 j (by omega)
    have hj2 := hj.2.2.1
    obtain ⟨l1, l2, l3⟩ := q.2.2.2.2 j (by omega) (by omega)
    rw [l2, l3, ← a, ← b, ← hw]
    exact ⟨rfl, rfl⟩
/-- the inputs of the least row -/
def lrG (T0 T1 : Tab) (t : Nat) : Nat := if t = btk (bfs T0 T1) (bapS T0 T1) then least4 (bdif T0 T1 (bfs T0 T1) (bapS T0 T1)) else bway (bfs T0 T1) (bapS T0 T1) t
theorem lrG_lt {T0 T1 : Tab} (h0 : TWF T0) (h1 : TWF T1) (hn : ¬ napS T0 T1 = true) {t : Nat} (ht : t ≤ btk (bfs T0 T1) (bapS T0 T1)) : lrG T0 T1 t < 4 := by
  unfold lrG
  split
  · exact least_lt _
  · next e =>
    obtain ⟨a, -, -⟩ := nap_not h0 h1 hn
    have hB := BI.bfs h0 h1
    obtain ⟨c, d⟩ := back_to hB a (btk (bfs T0 T1) (bapS T0 T1) - 1 - t) (by omega)
    exact (hB.2 _ (by omega)).2.2.2.1
/-- the row as the law makes it: m of n inputs are in it -/
def rwF (g : Nat → Nat) (n : Nat) : Nat → Nat
  | 0 => 0
  | m + 1 => 4 * rwF g n m + g (n - 1 - m)
theorem rwF_lt {g : Nat → Nat} {n : Nat} (hg : ∀ t, t < n → g t < 4) : ∀ m, m ≤ n → rwF g n m < 4 ^ m
  | 0, _ => (by decide : (0 : Nat) < 1)
  | m + 1, hm => by
    have ih := rwF_lt hg m (by omega)
    have h1 := hg (n - 1 - m) (by omega)
    show 4 * rwF g n m + g (n - 1 - m) < 4 ^ (m + 1)
    rw [Nat.pow_succ]
    omega
theorem rwF_div {g : Nat → Nat} {n : Nat} (hg : ∀ t, t < n → g t < 4) : ∀ t, t ≤ n → rwF g n n / 4 ^ t = rwF g n (n - t)
  | 0, _ => by rw [Nat.pow_zero, Nat.div_one, Nat.sub_zero]
  | t + 1, ht => by
    rw [Nat.pow_succ, ← Nat.div_div_eq_div_mul, rwF_div hg t (by omega)]
    obtain ⟨m, hm⟩ : ∃ m, n - t = m + 1 := ⟨n - t - 1, by omega⟩
    rw [hm, show n - (t + 1) = m by omega]
    have h1 := hg (n - 1 - m) (by omega)
    show (4 * rwF g n m + g (n - 1 - m)) / 4 = rwF g n m
    omega
theorem rwF_inp {g : Nat → Nat} {n : Nat} (hg : ∀ t, t < n → g t < 4) {t : Nat} (ht : t < n) : inpS ((rwF g n n : Nat) : Int) t = g t := by
  have e : (2 : Nat) ^ (2 * t) = 4 ^ t := by rw [Nat.pow_mul]
  unfold inpS
  rw [e]
  have h1 := rwF_div hg t (by omega)
  obtain ⟨m, hm⟩ : ∃ m, n - t = m + 1 := ⟨n - t - 1, by omega⟩
  rw [hm] at h1
  have h2 : rwF g n (m + 1) = 4 * rwF g n m + g (n - 1 - m) := rfl
  rw [h2, show n - 1 - m = t by omega] at h1
  have h3 := hg t ht
  have h4 : ((rwF g n n : Nat) : Int) / ((4 ^ t : Nat) : Int) = ((rwF g n n / 4 ^ t : Nat) : Int) := by norm_cast
  rw [h4, h1]
  omega
theorem row_apart {Z O : Circ} (hZ : WF Z) (hO : WF O) (hn : ¬ napS (tabOf Z) (tabOf O) = true) {row : Int} (hr : ∀ t, t ≤ btk (bfs (tabOf Z) (tabOf O)) (bapS (tabOf Z) (tabOf O)) → inpS row t = lrG (tabOf Z) (tabOf O) t) :
    (runS Z row (btk (bfs (tabOf Z) (tabOf O)) (bapS (tabOf Z) (tabOf O)) + 1)).2 ^^^ (runS O row (btk (bfs (tabOf Z) (tabOf O)) (bapS (tabOf Z) (tabOf O)) + 1)).2 = 2 ^ btk (bfs (tabOf Z) (tabOf O)) (bapS (tabOf Z) (tabOf O)) := by
  have h0 := tabOf_wf hZ
  have h1 := tabOf_wf hO
  obtain ⟨a, b, c⟩ := nap_not h0 h1 hn
  have hB := BI.bfs h0 h1
  have W := way_to h0 h1 a (f := inpS row) (fun t ht => by
    rw [hr t (by omega)]
    unfold lrG
    rw [if_neg (by omega)])
  refine run_last (fun t ht => ?_) ?_
  · obtain ⟨w1, w2⟩ := W t (by omega)
    obtain ⟨k1, k2⟩ := back_to hB a (btk (bfs (tabOf Z) (tabOf O)) (bapS (tabOf Z) (tabOf O)) - t) (by omega)
    have hz := (dif0 h0 h1 _ _).mp (c (bback (bfs (tabOf Z) (tabOf O)) (btk (bfs (tabOf Z) (tabOf O)) (bapS (tabOf Z) (tabOf O)) - t) (bapS (tabOf Z) (tabOf O))) (by omega))
    rw [run_pth, run_pth, ← out_tab Z _ (inp_lt row t), ← out_tab O _ (inp_lt row t), w1, w2, hz]
  · obtain ⟨w1, w2⟩ := W _ (Nat.le_refl _)
    rw [Nat.sub_self] at w1 w2
    rw [run_pth, run_pth, ← out_tab Z _ (inp_lt row _), ← out_tab O _ (inp_lt row _), w1, w2, hr _ (Nat.le_refl _)]
    unfold lrG
    rw [if_pos rfl]
    exact least_dif _ (h0.2.1 _) _ (h1.2.1 _) b
