/-! PAIRS THAT ARE COME TO: how many, their states, ticks, the place ahead, the last inputs; which codes are met -/
abbrev Bst : Type := Nat × (Nat → Nat) × (Nat → Nat) × (Nat → Nat) × (Nat → Nat) × (Nat → Nat) × (Nat → Bool)
abbrev bn (s : Bst) : Nat := s.1
abbrev bz (s : Bst) : Nat → Nat := s.2.1
abbrev bo (s : Bst) : Nat → Nat := s.2.2.1
abbrev btk (s : Bst) : Nat → Nat := s.2.2.2.1
abbrev bah (s : Bst) : Nat → Nat := s.2.2.2.2.1
abbrev bli (s : Bst) : Nat → Nat := s.2.2.2.2.2.1
abbrev bmet (s : Bst) : Nat → Bool := s.2.2.2.2.2.2
def fup {α : Type} (f : Nat → α) (k : Nat) (v : α) : Nat → α := fun j => if j = k then v else f j
theorem fup_s {α : Type} (f : Nat → α) (k : Nat) (v : α) : fup f k v k = v := by simp [fup]
theorem fup_n {α : Type} (f : Nat → α) {k j : Nat} (v : α) (h : j ≠ k) : fup f k v j = f j := by simp [fup, h]
def bPush (s : Bst) (z o t a i : Nat) : Bst := (bn s + 1, fup (bz s) (bn s) z, fup (bo s) (bn s) o, fup (btk s) (bn s) t, fup (bah s) (bn s) a, fup (bli s) (bn s) i, fup (bmet s) (16 * z + o) true)
def bMeet (s : Bst) (z o k i : Nat) : Bst := if bmet s (16 * z + o) = true then s else bPush s z o (btk s k + 1) k i
def b0 : Bst := (0, fun _ => 0, fun _ => 0, fun _ => 0, fun _ => 0, fun _ => 0, fun _ => false)
def bInit (T0 T1 : Tab) : Bst := bPush b0 T0.2.2 T1.2.2 0 0 0
def bIn (T0 T1 : Tab) (k : Nat) : Nat → Bst → Bst
  | 0, s => s
  | i + 1, s => bMeet (bIn T0 T1 k i s) (T0.1 (bz (bIn T0 T1 k i s) k) i) (T1.1 (bo (bIn T0 T1 k i s) k) i) k i
def bOut (T0 T1 : Tab) : Nat → Nat → Bst → Bst
  | 0, _, s => s
  | f + 1, k, s => if k < bn s then bOut T0 T1 f (k + 1) (bIn T0 T1 k 4 s) else s
def bfs (T0 T1 : Tab) : Bst := bOut T0 T1 257 0 (bInit T0 T1)
theorem cnt_up {p : Nat → Bool} {c : Nat} (hc : p c = false) : ∀ n, c < n → cnt (fup p c true) n = cnt p n + 1
  | 0, h => absurd h (Nat.not_lt_zero c)
  | n + 1, h => by
    unfold cnt
    by_cases e : c = n
    · subst e
      have : ∀ m, m ≤ c → cnt (fup p c true) m = cnt p m := by
        intro m
        induction m with
        | zero => intro _; rfl
        | succ m ih =>
          intro hm
          unfold cnt
          rw [ih (by omega), fup_n p true (show m ≠ c by omega)]
      rw [this c (Nat.le_refl c), fup_s, hc]
      simp
    · rw [cnt_up hc n (by omega), fup_n p true (Ne.symm e)]
      omega
def BI (s : Bst) : Prop := cnt (bmet s) 256 = bn s ∧ ∀ j, j < bn s → bz s j < 16 ∧ bo s j < 16 ∧ btk s j ≤ j ∧ bli s j < 4 ∧ (0 < j → bah s j < j ∧ btk s j = btk s (bah s j) + 1)
theorem BI.le {s : Bst} (h : BI s) : bn s ≤ 256 := by rw [← h.1]; exact cnt_le _ _
theorem BI.lt {s : Bst} (h : BI s) {z o : Nat} (hz : z < 16) (ho : o < 16) (hm : ¬ bmet s (16 * z + o) = true) : bn s < 256 := by
  have h1 := cnt_up (p := bmet s) (c := 16 * z + o) (by cases e : bmet s (16 * z + o) <;> simp_all) 256 (by omega)
  have h2 := cnt_le (fup (bmet s) (16 * z + o) true) 256
  have h3 := h.1
  omega
theorem BI.push {s : Bst} (h : BI s) {z o t a i : Nat} (hz : z < 16) (ho : o < 16) (hm : ¬ bmet s (16 * z + o) = true) (hi : i < 4) (ht : t ≤ bn s) (ha : 0 < bn s → a < bn s ∧ t = btk s a + 1) : BI (bPush s z o t a i) := by
  refine ⟨?_, fun j hj => ?_⟩
  · show cnt (fup (bmet s) (16 * z + o) true) 256 = bn s + 1
    rw [cnt_up (by cases e : bmet s (16 * z + o) <;> simp_all) 256 (by omega), h.1]
  · have hj2 : j < bn s + 1 := hj
    show fup (bz s) (bn s) z j < 16 ∧ fup (bo s) (bn s) o j < 16 ∧ fup (btk s) (bn s) t j ≤ j ∧ fup (bli s) (bn s) i j < 4 ∧ (0 < j → fup (bah s) (bn s) a j < j ∧ fup (btk s) (bn s) t j = fup (btk s) (bn s) t (fup (bah s) (bn s) a j) + 1)
    by_cases e : j = bn s
    · subst e
      simp only [fup_s]
      refine ⟨hz, ho, ht, hi, fun h0 => ?_⟩
      obtain ⟨a1, a2⟩ := ha h0
      exact ⟨a1, by rw [fup_n _ _ (show a ≠ bn s by omega)]; exact a2⟩
    · obtain ⟨c1, c2, c3, c4, c5⟩ := h.2 j (by omega)
      simp only [fup_n _ _ e]
      refine ⟨c1, c2, c3, c4, fun h0 => ?_⟩
      obtain ⟨d1, d2⟩ := c5 h0
      exact ⟨d1, by rw [fup_n _ _ (show bah s j ≠ bn s by omega)]; exact d2⟩
theorem BI.meet {s : Bst} (h : BI s) {z o k i : Nat} (hz : z < 16) (ho : o < 16) (hi : i < 4) (hk : k < bn s) : BI (bMeet s z o k i) := by
  unfold bMeet
  split
  · exact h
  · next hm => exact h.push hz ho hm hi (by have := (h.2 k hk).2.2.1; omega) (fun _ => ⟨hk, rfl⟩)
theorem meet_n (s : Bst) (z o k i : Nat) : bn s ≤ bn (bMeet s z o k i) := by
  unfold bMeet
  split
  · exact Nat.le_refl _
  · exact Nat.le_succ _
theorem cnt_none : ∀ n, cnt (fun _ => false) n = 0
  | 0 => rfl
  | n + 1 => by unfold cnt; rw [cnt_none n]; rfl
theorem b0_BI : BI b0 := ⟨cnt_none 256, fun j hj => absurd hj (Nat.not_lt_zero j)⟩
theorem BI.init {T0 T1 : Tab} (h0 : TWF T0) (h1 : TWF T1) : BI (bInit T0 T1) :=
  b0_BI.push h0.2.2 h1.2.2 (fun h => Bool.noConfusion h) (by omega) (Nat.le_refl 0) (fun h => absurd h (Nat.lt_irrefl 0))
theorem BI.inn {T0 T1 : Tab} (h0 : TWF T0) (h1 : TWF T1) {s : Bst} (h : BI s) {k : Nat} (hk : k < bn s) : ∀ i, i ≤ 4 → BI (bIn T0 T1 k i s) ∧ bn s ≤ bn (bIn T0 T1 k i s)
  | 0, _ => ⟨h, Nat.le_refl _⟩
  | i + 1, hi => by
    obtain ⟨a, b⟩ := BI.inn h0 h1 h hk i (by omega)
    exact ⟨a.meet (h0.1 _ _) (h1.1 _ _) (by omega) (by omega), Nat.le_trans b (meet_n _ _ _ _ _)⟩
theorem BI.out {T0 T1 : Tab} (h0 : TWF T0) (h1 : TWF T1) (f : Nat) : ∀ (k : Nat) (s : Bst), BI s → BI (bOut T0 T1 f k s) := by
  induction f with
  | zero => intro k s h; exact h
  | succ f ih =>
    intro k s h
    unfold bOut
    split
    · next hk => exact ih (k + 1) _ (BI.inn h0 h1 h hk 4 (Nat.le_refl 4)).1
    · exact h
theorem BI.bfs {T0 T1 : Tab} (h0 : TWF T0) (h1 : TWF T1) : BI (bfs T0 T1) := BI.out h0 h1 257 0 _ (BI.init h0 h1)
theorem out_n {T0 T1 : Tab} (h0 : TWF T0) (h1 : TWF T1) (f : Nat) : ∀ (k : Nat) (s : Bst), BI s → bn s ≤ bn (bOut T0 T1 f k s) := by
  induction f with
  | zero => intro k s h; exact Nat.le_refl _
  | succ f ih =>
    intro k s h
    unfold bOut
    split
    · next hk =>
      obtain ⟨a, b⟩ := BI.inn h0 h1 h hk 4 (Nat.le_refl 4)
      exact Nat.le_trans b (ih (k + 1) _ a)
    · exact Nat.le_refl _
theorem bfs_pos {T0 T1 : Tab} (h0 : TWF T0) (h1 : TWF T1) : 0 < bn (bfs T0 T1) := Nat.lt_of_lt_of_le (Nat.zero_lt_one : 0 < bn (bInit T0 T1)) (out_n h0 h1 257 0 _ (BI.init h0 h1))
/-- inputs by which the outputs differ at a pair -/
def bdif (T0 T1 : Tab) (s : Bst) (p : Nat) : Nat := T0.2.1 (bz s p) ^^^ T1.2.1 (bo s p)
theorem bdif_lt {T0 T1 : Tab} (h0 : TWF T0) (h1 : TWF T1) (s : Bst) (p : Nat) : bdif T0 T1 s p < 16 := Nat.xor_lt_two_pow (n := 4) (h0.2.1 _) (h1.2.1 _)
/-- the first pair from p on (f of them looked at) with a difference -/
def bap (T0 T1 : Tab) (s : Bst) : Nat → Nat → Nat
  | 0, p => p
  | f + 1, p => if p < bn s then (if bdif T0 T1 s p = 0 then bap T0 T1 s f (p + 1) else p) else p
/-- going back from a pair -/
def bback (s : Bst) : Nat → Nat → Nat
  | 0, p => p
  | f + 1, p => bback s f (bah s p)
/-- the inputs in a tick of a pair's first row -/
def bway (s : Bst) (p t : Nat) : Nat := bli s (bback s (btk s p - 1 - t) p)
theorem back_ok {s : Bst} (h : BI s) : ∀ (f p : Nat), p < bn s → f < btk s p → bback s f p < bn s ∧ btk s (bback s f p) = btk s p - f
  | 0, p, hp, _ => ⟨hp, rfl⟩
  | f + 1, p, hp, hf => by
    have h1 := (h.2 p hp).2.2.1
    have h2 := (h.2 p hp).2.2.2.2 (by omega)
    obtain ⟨a, b⟩ := back_ok h f (bah s p) (by omega) (by omega)
    exact ⟨a, by rw [show bback s (f + 1) p = bback s f (bah s p) from rfl, b]; omega⟩
