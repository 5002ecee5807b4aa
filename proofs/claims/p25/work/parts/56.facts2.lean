/-! FACTS OF THE VALUES: the pairs that are come to -/
def BQ (T0 T1 : Tab) (s : Bst) : Prop := 0 < bn s ∧ bz s 0 = T0.2.2 ∧ bo s 0 = T1.2.2 ∧ (∀ c, bmet s c = true → ∃ j, j < bn s ∧ c = 16 * bz s j + bo s j) ∧ ∀ j, 0 < j → j < bn s → bah s j < j ∧ bz s j = T0.1 (bz s (bah s j)) (bli s j) ∧ bo s j = T1.1 (bo s (bah s j)) (bli s j)
def Bcl (T0 T1 : Tab) (k : Nat) (s : Bst) : Prop := ∀ j, j < k → ∀ i, i < 4 → bmet s (16 * T0.1 (bz s j) i + T1.1 (bo s j) i) = true
theorem meet_keep (s : Bst) (z o k i : Nat) : (∀ j, j < bn s → bz (bMeet s z o k i) j = bz s j ∧ bo (bMeet s z o k i) j = bo s j) ∧ (∀ c, bmet s c = true → bmet (bMeet s z o k i) c = true) ∧ bmet (bMeet s z o k i) (16 * z + o) = true := by
  unfold bMeet
  split
  · next h => exact ⟨fun _ _ => ⟨rfl, rfl⟩, fun _ h => h, h⟩
  · refine ⟨fun j hj => ⟨fup_n _ _ (show j ≠ bn s by omega), fup_n _ _ (show j ≠ bn s by omega)⟩, fun c hc => ?_, fup_s _ _ _⟩
    show fup (bmet s) (16 * z + o) true c = true
    by_cases e : c = 16 * z + o
    · rw [e, fup_s]
    · rw [fup_n _ _ e]; exact hc
theorem bq_meet {T0 T1 : Tab} {s : Bst} (h : BQ T0 T1 s) {k i : Nat} (hk : k < bn s) : BQ T0 T1 (bMeet s (T0.1 (bz s k) i) (T1.1 (bo s k) i) k i) := by
  unfold bMeet
  split
  · exact h
  · obtain ⟨h1, h2, h3, h4, h5⟩ := h
    generalize hz : T0.1 (bz s k) i = z
    generalize ho : T1.1 (bo s k) i = o
    refine ⟨Nat.succ_pos _, (fup_n _ _ (show 0 ≠ bn s by omega)).trans h2, (fup_n _ _ (show 0 ≠ bn s by omega)).trans h3, fun c hc => ?_, fun j j0 hj => ?_⟩
    · have hc2 : fup (bmet s) (16 * z + o) true c = true := hc
      show ∃ j, j < bn s + 1 ∧ c = 16 * fup (bz s) (bn s) z j + fup (bo s) (bn s) o j
      by_cases e : c = 16 * z + o
      · exact ⟨bn s, by omega, by rw [fup_s, fup_s, e]⟩
      · rw [fup_n _ _ e] at hc2
        obtain ⟨j, a, b⟩ := h4 c hc2
        exact ⟨j, by omega, by rw [fup_n _ _ (show j ≠ bn s by omega), fup_n _ _ (show j ≠ bn s by omega)]; exact b⟩
    · have hj2 : j < bn s + 1 := hj
      show fup (bah s) (bn s) k j < j ∧ fup (bz s) (bn s) z j = T0.1 (fup (bz s) (bn s) z (fup (bah s) (bn s) k j)) (fup (bli s) (bn s) i j) ∧ fup (bo s) (bn s) o j = T1.1 (fup (bo s) (bn s) o (fup (bah s) (bn s) k j)) (fup (bli s) (bn s) i j)
      by_cases e : j = bn s
      · subst e
        simp only [fup_s]
        rw [fup_n _ _ (show k ≠ bn s by omega), fup_n _ _ (show k ≠ bn s by omega)]
        exact ⟨hk, hz.symm, ho.symm⟩
      · obtain ⟨a, b, c⟩ := h5 j j0 (by omega)
        simp only [fup_n _ _ e]
        rw [fup_n _ _ (show bah s j ≠ bn s by omega), fup_n _ _ (show bah s j ≠ bn s by omega)]
        exact ⟨a, b, c⟩
theorem bq_inn {T0 T1 : Tab} {s : Bst} (h : BQ T0 T1 s) {k : Nat} (hk : k < bn s) (hc : Bcl T0 T1 k s) : ∀ i, i ≤ 4 → BQ T0 T1 (bIn T0 T1 k i s) ∧ bn s ≤ bn (bIn T0 T1 k i s) ∧ Bcl T0 T1 k (bIn T0 T1 k i s) ∧ ∀ i', i' < i → bmet (bIn T0 T1 k i s) (16 * T0.1 (bz (bIn T0 T1 k i s) k) i' + T1.1 (bo (bIn T0 T1 k i s) k) i') = true
  | 0, _ => ⟨h, Nat.le_refl _, hc, fun i' h => absurd h (Nat.not_lt_zero i')⟩
  | i + 1, hi => by
    obtain ⟨a, b, c, d⟩ := bq_inn h hk hc i (by omega)
    have e : bIn T0 T1 k (i + 1) s = bMeet (bIn T0 T1 k i s) (T0.1 (bz (bIn T0 T1 k i s) k) i) (T1.1 (bo (bIn T0 T1 k i s) k) i) k i := rfl
    rw [e]
    clear e
    generalize bIn T0 T1 k i s = s1 at a b c d ⊢
    have hk1 : k < bn s1 := by omega
    obtain ⟨m1, m2, m3⟩ := meet_keep s1 (T0.1 (bz s1 k) i) (T1.1 (bo s1 k) i) k i
    have mn := meet_n s1 (T0.1 (bz s1 k) i) (T1.1 (bo s1 k) i) k i
    refine ⟨bq_meet a hk1, by omega, fun j hj i' hi' => ?_, fun i' hi' => ?_⟩
    · rw [(m1 j (by omega)).1, (m1 j (by omega)).2]
      exact m2 _ (c j hj i' hi')
    · rw [(m1 k hk1).1, (m1 k hk1).2]
      by_cases e : i' = i
      · rw [e]; exact m3
      · exact m2 _ (d i' (by omega))
theorem bq_out {T0 T1 : Tab} (h0 : TWF T0) (h1 : TWF T1) (f : Nat) : ∀ (k : Nat) (s : Bst), BI s → BQ T0 T1 s → Bcl T0 T1 k s → 257 ≤ f + k → BQ T0 T1 (bOut T0 T1 f k s) ∧ Bcl T0 T1 (bn (bOut T0 T1 f k s)) (bOut T0 T1 f k s) := by
  induction f with
  | zero =>
    intro k s hb hq hc hf
    refine ⟨hq, fun j hj => hc j ?_⟩
    have h2 := hb.le
    have hj2 : j < bn s := hj
    omega
  | succ f ih =>
    intro k s hb hq hc hf
    unfold bOut
    split
    · next hk =>
      obtain ⟨a, b, c, d⟩ := bq_inn hq hk hc 4 (Nat.le_refl 4)
      refine ih (k + 1) _ (BI.inn h0 h1 hb hk 4 (Nat.le_refl 4)).1 a (fun j hj i hi => ?_) (by omega)
      by_cases e : j = k
      · rw [e]; exact d i hi
      · exact c j (by omega) i hi
    · next hk => exact ⟨hq, fun j hj => hc j (by omega)⟩
theorem bq_init (T0 T1 : Tab) : BQ T0 T1 (bInit T0 T1) := by
  refine ⟨Nat.succ_pos 0, rfl, rfl, fun c hc => ⟨0, Nat.succ_pos 0, ?_⟩, fun j j0 hj => ?_⟩
  · have hc2 : fup (fun _ => false) (16 * T0.2.2 + T1.2.2) true c = true := hc
    show c = 16 * fup (fun _ => 0) 0 T0.2.2 0 + fup (fun _ => 0) 0 T1.2.2 0
    rw [fup_s, fup_s]
    by_cases e : c = 16 * T0.2.2 + T1.2.2
    · exact e
    · rw [fup_n _ _ e] at hc2
      exact Bool.noConfusion hc2
  · have hj2 : j < 0 + 1 := hj
    omega
theorem bq_bfs {T0 T1 : Tab} (h0 : TWF T0) (h1 : TWF T1) : BQ T0 T1 (bfs T0 T1) ∧ Bcl T0 T1 (bn (bfs T0 T1)) (bfs T0 T1) := bq_out h0 h1 257 0 _ (BI.init h0 h1) (bq_init T0 T1) (fun j hj => absurd hj (Nat.not_lt_zero j)) (Nat.le_refl 257)
/-- the state behind t ticks with the inputs f -/
def pth (T : Tab) (f : Nat → Nat) : Nat → Nat
  | 0 => T.2.2
  | t + 1 => T.1 (pth T f t) (f t)
theorem pth_lt {T : Tab} (hT : TWF T) (f : Nat → Nat) : ∀ t, pth T f t < 16
  | 0 => hT.2.2
  | _ + 1 => hT.1 _ _
theorem pth_in {T : Tab} (hT : TWF T) {f : Nat → Nat} (hf : ∀ t, f t < 4) : ∀ t, bt (sct T 16) (pth T f t) = 1
  | 0 => sct_first T 16
  | t + 1 => sct_next hT (pth_lt hT f t) (hf t) (pth_in hT hf t)
theorem reach {T0 T1 : Tab} (h0 : TWF T0) (h1 : TWF T1) {f : Nat → Nat} (hf : ∀ t, f t < 4) : ∀ t, ∃ j, j < bn (bfs T0 T1) ∧ bz (bfs T0 T1) j = pth T0 f t ∧ bo (bfs T0 T1) j = pth T1 f t
  | 0 => ⟨0, (bq_bfs h0 h1).1.1, (bq_bfs h0 h1).1.2.1, (bq_bfs h0 h1).1.2.2.1⟩
  | t + 1 => by
    obtain ⟨j, a, b, c⟩ := reach h0 h1 hf t
    obtain ⟨q, cl⟩ := bq_bfs h0 h1
    have hm := cl j a (f t) (hf t)
    rw [b, c] at hm
    obtain ⟨j2, d, e⟩ := q.2.2.2.1 _ hm
    have hb := (BI.bfs h0 h1).2 j2 d
    have x1 := h0.1 (pth T0 f t) (f t)
    have x2 := h1.1 (pth T1 f t) (f t)
    refine ⟨j2, d, ?_, ?_⟩
    · show _ = T0.1 (pth T0 f t) (f t)
      omega
    · show _ = T1.1 (pth T1 f t) (f t)
      omega
theorem pair_in {T0 T1 : Tab} (h0 : TWF T0) (h1 : TWF T1) : ∀ j, j < bn (bfs T0 T1) → bt (sct T0 16) (bz (bfs T0 T1) j) = 1 ∧ bt (sct T1 16) (bo (bfs T0 T1) j) = 1 := by
  intro j
  obtain ⟨q, -⟩ := bq_bfs h0 h1
  induction j using Nat.strongRecOn with
  | ind j ih =>
    intro hj
    by_cases e : j = 0
    · rw [e, q.2.1, q.2.2.1]
      exact ⟨sct_first T0 16, sct_first T1 16⟩
    · obtain ⟨a, b, c⟩ := q.2.2.2.2 j (by omega) hj
      obtain ⟨d1, d2⟩ := ih _ a (by omega)
      have hb := (BI.bfs h0 h1).2 _ (show bah (bfs T0 T1) j < bn (bfs T0 T1) by omega)
      have hi := ((BI.bfs h0 h1).2 j hj).2.2.2.1
      rw [b, c]
      exact ⟨sct_next h0 hb.1 hi d1, sct_next h1 hb.2.1 hi d2⟩
theorem cnt_monoB {p q : Nat → Bool} : ∀ n, (∀ s, s < n → p s = true → q s = true) → cnt p n ≤ cnt q n
  | 0, _ => Nat.le_refl 0
  | n + 1, h => by
    have ih := cnt_monoB n (fun s hs => h s (by omega))
    unfold cnt
    by_cases e : p n = true
    · rw [if_pos e, if_pos (h n (by omega) e)]; omega
    · rw [if_neg e]; omega
theorem cnt_zero {p : Nat → Bool} : ∀ n, (∀ s, s < n → p s ≠ true) → cnt p n = 0
  | 0, _ => rfl
  | n + 1, h => by
    unfold cnt
    rw [cnt_zero n (fun s hs => h s (by omega)), if_neg (h n (by omega))]
theorem cnt_shift (P : Nat → Bool) (b : Nat) : ∀ m, cnt P (b + m) = cnt P b + cnt (fun o => P (b + o)) m
  | 0 => rfl
  | m + 1 => by
    show cnt P (b + m) + (if P (b + m) = true then 1 else 0) = cnt P b + (cnt (fun o => P (b + o)) m + (if P (b + m) = true then 1 else 0))
    rw [cnt_shift P b m, Nat.add_assoc]
theorem cnt_prod {P A B : Nat → Bool} (h : ∀ z o, o < 16 → P (16 * z + o) = true → A z = true ∧ B o = true) : ∀ n, cnt P (16 * n) ≤ cnt A n * cnt B 16
  | 0 => Nat.zero_le _
  | n + 1 => by
    have ih := cnt_prod h n
    rw [show 16 * (n + 1) = 16 * n + 16 by omega, cnt_shift P (16 * n) 16]
    by_cases e : A n = true
    · have hm : cnt (fun o => P (16 * n + o)) 16 ≤ cnt B 16 := cnt_monoB 16 (fun o ho hp => (h n o ho hp).2)
      have e2 : cnt A (n + 1) = cnt A n + 1 := by
        show cnt A n + (if A n = true then 1 else 0) = _
        rw [if_pos e]
      rw [e2, Nat.add_mul, Nat.one_mul]
      omega
    · have hm : cnt (fun o => P (16 * n + o)) 16 = 0 := cnt_zero 16 (fun o ho hp => e (h n o ho hp).1)
      have e2 : cnt A (n + 1) = cnt A n := by
        show cnt A n + (if A n = true then 1 else 0) = _
        rw [if_neg e]
        rfl
      rw [e2, hm]
      exact ih
theorem pairs_le {T0 T1 : Tab} (h0 : TWF T0) (h1 : TWF T1) : bn (bfs T0 T1) ≤ pcS (sct T0 16) * pcS (sct T1 16) := by
  rw [← (BI.bfs h0 h1).1]
  refine cnt_prod (P := bmet (bfs T0 T1)) (A := fun s => bt (sct T0 16) s == 1) (B := fun s => bt (sct T1 16) s == 1) (fun z o ho hp => ?_) 16
  obtain ⟨j, hj, e⟩ := (bq_bfs h0 h1).1.2.2.2.1 _ hp
  have hb := (BI.bfs h0 h1).2 j hj
  obtain ⟨a, b⟩ := pair_in h0 h1 j hj
  have e1 : z = bz (bfs T0 T1) j := by omega
  have e2 : o = bo (bfs T0 T1) j := by omega
  simp only [e1, e2, a, b, beq_self_eq_true, and_self]
/-- no pair with a difference -/
def NA (T0 T1 : Tab) : Prop := ∀ j, j < bn (bfs T0 T1) → bdif T0 T1 (bfs T0 T1) j = 0
theorem bap_spec {T0 T1 : Tab} {s : Bst} : ∀ f p, p ≤ bn s → bn s ≤ p + f → (∀ q, q < p → bdif T0 T1 s q = 0) → bap T0 T1 s f p ≤ bn s ∧ (∀ q, q < bap T0 T1 s f p → bdif T0 T1 s q = 0) ∧ (bap T0 T1 s f p < bn s → bdif T0 T1 s (bap T0 T1 s f p) ≠ 0)
  | 0, p, h1, h2, h3 => ⟨h1, h3, fun h => by
      have h4 : p < bn s := h
      omega⟩
  | f + 1, p, h1, h2, h3 => by
    unfold bap
    split
    · next hp =>
      split
      · next hd =>
        refine bap_spec f (p + 1) (by omega) (by omega) (fun q hq => ?_)
        by_cases e : q = p
        · rw [e]; exact hd
        · exact h3 q (by omega)
      · next hd => exact ⟨h1, h3, fun _ => hd⟩
    · next hp => exact ⟨h1, h3, fun h => absurd h hp⟩
theorem bap_bfs {T0 T1 : Tab} (h0 : TWF T0) (h1 : TWF T1) : bapS T0 T1 ≤ bn (bfs T0 T1) ∧ (∀ q, q < bapS T0 T1 → bdif T0 T1 (bfs T0 T1) q = 0) ∧ (bapS T0 T1 < bn (bfs T0 T1) → bdif T0 T1 (bfs T0 T1) (bapS T0 T1) ≠ 0) :=
  bap_spec (s := bfs T0 T1) 256 0 (Nat.zero_le _) (by
    have := (BI.bfs h0 h1).le
    omega) (fun q hq => absurd hq (Nat.not_lt_zero q))
theorem nap_iff {T0 T1 : Tab} (h0 : TWF T0) (h1 : TWF T1) : napS T0 T1 = true ↔ NA T0 T1 := by
  obtain ⟨a, b, c⟩ := bap_bfs h0 h1
  unfold napS
  rw [decide_eq_true_eq]
  constructor
  · intro h j hj
    exact b j (by omega)
  · intro h
    rcases Nat.lt_or_ge (bapS T0 T1) (bn (bfs T0 T1)) with g | g
    · exact absurd (h _ g) (c g)
    · exact g
theorem nap_not {T0 T1 : Tab} (h0 : TWF T0) (h1 : TWF T1) (h : ¬ napS T0 T1 = true) : bapS T0 T1 < bn (bfs T0 T1) ∧ bdif T0 T1 (bfs T0 T1) (bapS T0 T1) ≠ 0 ∧ ∀ q, q < bapS T0 T1 → bdif T0 T1 (bfs T0 T1) q = 0 := by
  obtain ⟨a, b, c⟩ := bap_bfs h0 h1
  unfold napS at h
  rw [decide_eq_true_eq] at h
  exact ⟨by omega, c (by omega), b⟩
theorem dif0 {T0 T1 : Tab} (h0 : TWF T0) (h1 : TWF T1) (s : Bst) (p : Nat) : bdif T0 T1 s p = 0 ↔ T0.2.1 (bz s p) = T1.2.1 (bo s p) := xor0 _ (h0.2.1 _) _ (h1.2.1 _)
theorem nap_out {T0 T1 : Tab} (h0 : TWF T0) (h1 : TWF T1) (h : NA T0 T1) {f : Nat → Nat} (hf : ∀ t, f t < 4) (t : Nat) : T0.2.1 (pth T0 f t) = T1.2.1 (pth T1 f t) := by
  obtain ⟨j, a, b, c⟩ := reach h0 h1 hf t
  have := (dif0 h0 h1 _ j).mp (h j a)
  rwa [b, c] at this
/-- one circuit beside itself -/
theorem nap_self {T : Tab} (hT : TWF T) : NA T T := by
  have key : ∀ j, j < bn (bfs T T) → bz (bfs T T) j = bo (bfs T T) j := by
    intro j
    obtain ⟨q, -⟩ := bq_bfs hT hT
    induction j using Nat.strongRecOn with
    | ind j ih =>
      intro hj
      by_cases e : j = 0
      · rw [e, q.2.1, q.2.2.1]
      · obtain ⟨a, b, c⟩ := q.2.2.2.2 j (by omega) hj
        rw [b, c, ih _ a (by omega)]
  intro j hj
  rw [dif0 hT hT, key j hj]
theorem self_same {T : Tab} (hT : TWF T) : ∀ j, j < bn (bfs T T) → bz (bfs T T) j = bo (bfs T T) j := by
  intro j
  obtain ⟨q, -⟩ := bq_bfs hT hT
  induction j using Nat.strongRecOn with
  | ind j ih =>
    intro hj
    by_cases e : j = 0
    · rw [e, q.2.1, q.2.2.1]
    · obtain ⟨a, b, c⟩ := q.2.2.2.2 j (by omega) hj
      rw [b, c, ih _ a (by omega)]
