/-! FACTS OF THE VALUES: late by none just if never apart -/
theorem lnx0 {T0 T1 : Tab} {c i : Nat} (h1 : 256 ≤ c) (h2 : c < 512) : lnx 0 T0 T1 c i = if bt (T0.2.1 (c / 16 % 16)) i = bt (T1.2.1 (c % 16)) i then some (256 + 16 * T0.1 (c / 16 % 16) i + T1.1 (c % 16) i) else none := by
  have hb := bt_lt (T0.2.1 (c / 16 % 16)) i
  have e1 : lw T0 c i = 2 + bt (T0.2.1 (c / 16 % 16)) i := by
    unfold lw
    omega
  have e2 : bt (lw T0 c i) 0 = bt (T0.2.1 (c / 16 % 16)) i := by
    rw [e1]
    show (2 + bt (T0.2.1 (c / 16 % 16)) i) / 2 ^ 0 % 2 = _
    rw [Nat.pow_zero, Nat.div_one]
    omega
  unfold lnx
  rw [if_neg (by rw [e1, Nat.pow_zero]; omega), e2]
  by_cases h : bt (T0.2.1 (c / 16 % 16)) i = bt (T1.2.1 (c % 16)) i
  · rw [if_pos h, if_pos h, Nat.pow_zero, Nat.mod_one]
    unfold lcode
    refine congrArg some ?_
    omega
  · rw [if_neg h, if_neg h]
theorem lmeet_keep (s : Lst) (c : Nat) : (∀ d, lmet s d = true → lmet (lMeet s c) d = true) ∧ lmet (lMeet s c) c = true := by
  unfold lMeet
  split
  · next h => exact ⟨fun _ h => h, h⟩
  · refine ⟨fun d hd => ?_, fup_s _ _ _⟩
    show fup (lmet s) c true d = true
    by_cases e : d = c
    · rw [e, fup_s]
    · rw [fup_n _ _ e]; exact hd
def Lcl (T0 T1 : Tab) (k : Nat) (s : Lst) : Prop := ∀ j, j < k → ∀ i, i < 4 → ∃ c, lnx 0 T0 T1 (lq s j) i = some c ∧ lmet s c = true
theorem lcl_meet {T0 T1 : Tab} {k : Nat} {s : Lst} (h : Lcl T0 T1 k s) (hk : k ≤ ln s) (c : Nat) : Lcl T0 T1 k (lMeet s c) := by
  intro j hj i hi
  obtain ⟨d, a, b⟩ := h j hj i hi
  exact ⟨d, by rw [(lmeet_n s c).2 j (by omega)]; exact a, (lmeet_keep s c).1 d b⟩
theorem lz_in {T0 T1 : Tab} (h0 : TWF T0) (h1 : TWF T1) {s : Lst} (hI : LI 0 s) {k : Nat} (hk : k < ln s) (hc : Lcl T0 T1 k s) : ∀ i, i ≤ 4 → ∀ s', lIn 0 T0 T1 k i s = some s' → LI 0 s' ∧ ln s ≤ ln s' ∧ lq s' k = lq s k ∧ (∀ c, lmet s c = true → lmet s' c = true) ∧ Lcl T0 T1 k s' ∧ ∀ i', i' < i → ∃ c, lnx 0 T0 T1 (lq s' k) i' = some c ∧ lmet s' c = true := by
  intro i
  induction i with
  | zero =>
    intro _ s' e
    cases e
    exact ⟨hI, Nat.le_refl _, rfl, fun _ h => h, hc, fun i' h => absurd h (Nat.not_lt_zero i')⟩
  | succ i ih =>
    intro hi s' e
    have e0 := e
    unfold lIn at e
    split at e
    · cases e
    · next s2 e2 =>
      obtain ⟨a1, a2, a3, a4, a5, a6⟩ := ih (by omega) s2 e2
      split at e
      · cases e
      · next c e3 =>
        cases e
        obtain ⟨b1, b2, b3⟩ := LI.inn (Nat.zero_le 4) h0 h1 hI hk (i + 1) _ e0
        obtain ⟨m1, m2⟩ := lmeet_n s2 c
        obtain ⟨m3, m4⟩ := lmeet_keep s2 c
        refine ⟨b1, b2, b3, fun d hd => m3 d (a4 d hd), lcl_meet a5 (by omega) c, fun i' hi' => ?_⟩
        rw [m2 k (by omega)]
        by_cases g : i' = i
        · rw [g]; exact ⟨c, e3, m4⟩
        · obtain ⟨d, d1, d2⟩ := a6 i' (by omega)
          exact ⟨d, d1, m3 d d2⟩
theorem lz_out {T0 T1 : Tab} (h0 : TWF T0) (h1 : TWF T1) (f : Nat) : ∀ (k : Nat) (s : Lst), LI 0 s → Lcl T0 T1 k s → 8193 ≤ f + k → lOut 0 T0 T1 f k s = true → ∃ s', LI 0 s' ∧ (∀ c, lmet s c = true → lmet s' c = true) ∧ Lcl T0 T1 (ln s') s' := by
  induction f with
  | zero =>
    intro k s hI hc hf _
    refine ⟨s, hI, fun _ h => h, fun j hj => hc j ?_⟩
    have := hI.le
    omega
  | succ f ih =>
    intro k s hI hc hf h
    unfold lOut at h
    split at h
    · next hk =>
      split at h
      · cases h
      · next s2 e2 =>
        obtain ⟨a1, a2, a3, a4, a5, a6⟩ := lz_in h0 h1 hI hk hc 4 (Nat.le_refl 4) s2 e2
        obtain ⟨s', b1, b2, b3⟩ := ih (k + 1) s2 a1 (fun j hj i hi => by
          by_cases e : j = k
          · rw [e]; exact a6 i hi
          · exact a5 j (by omega) i hi) (by omega) h
        exact ⟨s', b1, fun c hc => b2 c (a4 c hc), b3⟩
    · next hk => exact ⟨s, hI, fun _ h => h, fun j hj => hc j (by omega)⟩
theorem late_na {T0 T1 : Tab} (h0 : TWF T0) (h1 : TWF T1) (h : isLateB 0 T0 T1 = true) : NA T0 T1 := by
  obtain ⟨s, a, b, c⟩ := lz_out h0 h1 8193 0 _ (LI.init (Nat.zero_le 4) h0 h1) (fun j hj => absurd hj (Nat.not_lt_zero j)) (Nat.le_refl _) h
  have hstart : lmet s (256 + 16 * T0.2.2 + T1.2.2) = true := by
    have := b _ (lmeet_keep l0 ((16 + T0.2.2) * 16 + T1.2.2)).2
    rwa [show (16 + T0.2.2) * 16 + T1.2.2 = 256 + 16 * T0.2.2 + T1.2.2 by omega] at this
  have step : ∀ z o, z < 16 → o < 16 → lmet s (256 + 16 * z + o) = true → ∀ i, i < 4 → bt (T0.2.1 z) i = bt (T1.2.1 o) i ∧ lmet s (256 + 16 * T0.1 z i + T1.1 o i) = true := by
    intro z o hz ho hm i hi
    obtain ⟨j, hj, e⟩ := a.2.2 _ hm
    obtain ⟨d, d1, d2⟩ := c j hj i hi
    rw [e, lnx0 (by omega) (by omega), show (256 + 16 * z + o) / 16 % 16 = z by omega, show (256 + 16 * z + o) % 16 = o by omega] at d1
    split at d1
    · next g =>
      cases d1
      exact ⟨g, d2⟩
    · cases d1
  have hB := BI.bfs h0 h1
  obtain ⟨q, -⟩ := bq_bfs h0 h1
  have met : ∀ j, j < bn (bfs T0 T1) → lmet s (256 + 16 * bz (bfs T0 T1) j + bo (bfs T0 T1) j) = true := by
    intro j
    induction j using Nat.strongRecOn with
    | ind j ih =>
      intro hj
      by_cases e : j = 0
      · rw [e, q.2.1, q.2.2.1]; exact hstart
      · obtain ⟨l1, l2, l3⟩ := q.2.2.2.2 j (by omega) hj
        have hb := hB.2 _ (show bah (bfs T0 T1) j < bn (bfs T0 T1) by omega)
        rw [l2, l3]
        exact (step _ _ hb.1 hb.2.1 (ih _ l1 (by omega)) _ (hB.2 j hj).2.2.2.1).2
  intro j hj
  have hb := hB.2 j hj
  rw [dif0 h0 h1]
  exact bits4 _ (h0.2.1 _) _ (h1.2.1 _) (fun i hi => (step _ _ hb.1 hb.2.1 (met j hj) i hi).1)
/-- all situations are pairs that are come to -/
def Lrc (T0 T1 : Tab) (s : Lst) : Prop := ∀ j, j < ln s → ∃ m, m < bn (bfs T0 T1) ∧ lq s j = 256 + 16 * bz (bfs T0 T1) m + bo (bfs T0 T1) m
theorem lrc_meet {T0 T1 : Tab} {s : Lst} (h : Lrc T0 T1 s) {m : Nat} (hm : m < bn (bfs T0 T1)) : Lrc T0 T1 (lMeet s (256 + 16 * bz (bfs T0 T1) m + bo (bfs T0 T1) m)) := by
  unfold lMeet
  split
  · exact h
  · intro j hj
    have hj2 : j < ln s + 1 := hj
    show ∃ n, n < bn (bfs T0 T1) ∧ fup (lq s) (ln s) (256 + 16 * bz (bfs T0 T1) m + bo (bfs T0 T1) m) j = _
    by_cases e : j = ln s
    · exact ⟨m, hm, by rw [e, fup_s]⟩
    · obtain ⟨n, a, b⟩ := h j (by omega)
      exact ⟨n, a, by rw [fup_n _ _ e]; exact b⟩
theorem na_in {T0 T1 : Tab} (h0 : TWF T0) (h1 : TWF T1) (hN : NA T0 T1) {s : Lst} (hr : Lrc T0 T1 s) {k : Nat} (hk : k < ln s) : ∀ i, i ≤ 4 → ∃ s', lIn 0 T0 T1 k i s = some s' ∧ Lrc T0 T1 s' ∧ ln s ≤ ln s'
  | 0, _ => ⟨s, rfl, hr, Nat.le_refl _⟩
  | i + 1, hi => by
    obtain ⟨s2, e, a, b⟩ := na_in h0 h1 hN hr hk i (by omega)
    obtain ⟨m, m1, m2⟩ := a k (by omega)
    have hb := (BI.bfs h0 h1).2 m m1
    obtain ⟨q, cl⟩ := bq_bfs h0 h1
    obtain ⟨n, n1, n2⟩ := q.2.2.2.1 _ (cl m m1 i (by omega))
    have hc := (BI.bfs h0 h1).2 n n1
    have x1 := h0.1 (bz (bfs T0 T1) m) i
    have x2 := h1.1 (bo (bfs T0 T1) m) i
    have e2 : lnx 0 T0 T1 (lq s2 k) i = some (256 + 16 * bz (bfs T0 T1) n + bo (bfs T0 T1) n) := by
      rw [m2, lnx0 (by omega) (by omega), show (256 + 16 * bz (bfs T0 T1) m + bo (bfs T0 T1) m) / 16 % 16 = bz (bfs T0 T1) m by omega, show (256 + 16 * bz (bfs T0 T1) m + bo (bfs T0 T1) m) % 16 = bo (bfs T0 T1) m by omega, if_pos (by rw [(dif0 h0 h1 _ m).mp (hN m m1)])]
      refine congrArg some ?_
      omega
    refine ⟨lMeet s2 (256 + 16 * bz (bfs T0 T1) n + bo (bfs T0 T1) n), ?_, lrc_meet a n1, Nat.le_trans b (lmeet_n _ _).1⟩
    unfold lIn
    rw [e]
    show (match lnx 0 T0 T1 (lq s2 k) i with
      | none => none
      | some c => some (lMeet s2 c)) = _
    rw [e2]
theorem na_out {T0 T1 : Tab} (h0 : TWF T0) (h1 : TWF T1) (hN : NA T0 T1) (f : Nat) : ∀ (k : Nat) (s : Lst), Lrc T0 T1 s → lOut 0 T0 T1 f k s = true := by
  induction f with
  | zero => intro k s hr; rfl
  | succ f ih =>
    intro k s hr
    unfold lOut
    split
    · next hk =>
      obtain ⟨s2, e, a, b⟩ := na_in h0 h1 hN hr hk 4 (Nat.le_refl 4)
      rw [e]
      exact ih (k + 1) s2 a
    · rfl
theorem na_late {T0 T1 : Tab} (h0 : TWF T0) (h1 : TWF T1) (hN : NA T0 T1) : isLateB 0 T0 T1 = true := by
  obtain ⟨q, -⟩ := bq_bfs h0 h1
  refine na_out h0 h1 hN 8193 0 _ ?_
  have h := lrc_meet (T0 := T0) (T1 := T1) (s := l0) (fun j hj => absurd hj (Nat.not_lt_zero j)) q.1
  rw [q.2.1, q.2.2.1] at h
  unfold lInit
  rw [show (16 + T0.2.2) * 16 + T1.2.2 = 256 + 16 * T0.2.2 + T1.2.2 by omega]
  exact h
theorem late0_iff {T0 T1 : Tab} (h0 : TWF T0) (h1 : TWF T1) : isLateB 0 T0 T1 = true ↔ napS T0 T1 = true := by
  rw [nap_iff h0 h1]
  exact ⟨late_na h0 h1, na_late h0 h1⟩
