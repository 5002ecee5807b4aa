/-! READING A TEXT: position, reason, what was told, the circuit -/
abbrev Pst : Type := Nat × Nat × Nat × Circ
def dgI (c : Nat) : Int := if 48 ≤ c ∧ c ≤ 57 then (c : Int) - 48 else if 97 ≤ c ∧ c ≤ 102 then (c : Int) - 87 else -1
theorem dgI_rng (c : Nat) : -1 ≤ dgI c ∧ dgI c ≤ 15 := by
  unfold dgI
  split
  · omega
  · split <;> omega
def FeedD (g : Nat) (w : Nat) : Bool := decide (w < 6 + g) || (decide (w = 14) || decide (w = 15))
theorem FeedD_iff {g w : Nat} : FeedD g w = true ↔ FeedN g w := by simp [FeedD, FeedN]
def pReg (x : Txt) (s : Pst) : Pst :=
  if (0 ≤ dgI (chr x (s.1 + 1)) ∧ dgI (chr x (s.1 + 1)) ≤ 3) ∧ 0 ≤ dgI (chr x (s.1 + 2)) ∧ (0 ≤ dgI (chr x (s.1 + 3)) ∧ dgI (chr x (s.1 + 3)) ≤ 1) ∧ chr x (s.1 + 4) = 59 then
    (if bt s.2.2.1 (dgI (chr x (s.1 + 1))).toNat = 1 then (s.1, 4, s.2.2.1, s.2.2.2)
     else (s.1 + 5, s.2.1, s.2.2.1 ||| 2 ^ (dgI (chr x (s.1 + 1))).toNat, setR s.2.2.2 (dgI (chr x (s.1 + 1))).toNat (dgI (chr x (s.1 + 2))).toNat (dgI (chr x (s.1 + 3))).toNat))
  else (s.1, 1, s.2.2.1, s.2.2.2)
def pOut (x : Txt) (s : Pst) : Pst :=
  if 0 ≤ dgI (chr x (s.1 + 1)) ∧ chr x (s.1 + 2) = 59 then
    (if bt s.2.2.1 4 = 1 then (s.1, 4, s.2.2.1, s.2.2.2)
     else (s.1 + 3, s.2.1, s.2.2.1 ||| 16, setO s.2.2.2 (dgI (chr x (s.1 + 1))).toNat))
  else (s.1, 1, s.2.2.1, s.2.2.2)
def pGate (x : Txt) (s : Pst) : Pst :=
  if (0 ≤ dgI (chr x s.1) ∧ dgI (chr x s.1) ≤ 5) ∧ 0 ≤ dgI (chr x (s.1 + 1)) ∧ 0 ≤ dgI (chr x (s.1 + 2)) ∧ chr x (s.1 + 3) = 59 then
    (if 8 ≤ cn s.2.2.2 then (s.1, 2, s.2.2.1, s.2.2.2)
     else if FeedD (cn s.2.2.2) (dgI (chr x (s.1 + 1))).toNat = true ∧ FeedD (cn s.2.2.2) (dgI (chr x (s.1 + 2))).toNat = true then
       (s.1 + 4, s.2.1, s.2.2.1, setG s.2.2.2 (cn s.2.2.2) ((dgI (chr x s.1)).toNat, (dgI (chr x (s.1 + 1))).toNat, (dgI (chr x (s.1 + 2))).toNat))
     else (s.1, 3, s.2.2.1, s.2.2.2))
  else (s.1, 1, s.2.2.1, s.2.2.2)
def pStep (x : Txt) (s : Pst) : Pst := if chr x s.1 = 114 then pReg x s else if chr x s.1 = 111 then pOut x s else pGate x s
def pAll (x : Txt) : Nat → Pst → Pst
  | 0, s => s
  | f + 1, s => if s.2.1 = 0 ∧ s.1 < x.1 then pAll x f (pStep x s) else s
def p0 : Pst := (0, 0, 0, newC)
def parse (x : Txt) : Pst := pAll x 80 p0
/-- what holds while a text is read -/
def PI (x : Txt) (s : Pst) : Prop := s.1 ≤ x.1 ∧ s.2.1 ≤ 4 ∧ s.2.2.1 < 32 ∧ WF s.2.2.2
theorem chr_in {x : Txt} {p c : Nat} (h : chr x p = c) (hc : 0 < c) : p < x.1 := by
  unfold chr at h
  split at h
  · assumption
  · omega
theorem pReg_i {x : Txt} {s : Pst} (h : PI x s) : PI x (pReg x s) := by
  obtain ⟨a1, a2, a3, a4⟩ := h
  have r1 := dgI_rng (chr x (s.1 + 2))
  unfold pReg
  split
  · next g =>
    split
    · exact ⟨a1, (by decide : (4 : Nat) ≤ 4), a3, a4⟩
    · have := chr_in g.2.2.2 (by decide)
      exact ⟨by show s.1 + 5 ≤ x.1; omega, a2, Nat.or_lt_two_pow (n := 5) a3 (Nat.pow_lt_pow_right (by decide) (by omega)), setR_wf a4 (by omega) (by omega)⟩
  · exact ⟨a1, (by decide : (1 : Nat) ≤ 4), a3, a4⟩
theorem pOut_i {x : Txt} {s : Pst} (h : PI x s) : PI x (pOut x s) := by
  obtain ⟨a1, a2, a3, a4⟩ := h
  have r1 := dgI_rng (chr x (s.1 + 1))
  unfold pOut
  split
  · next g =>
    split
    · exact ⟨a1, (by decide : (4 : Nat) ≤ 4), a3, a4⟩
    · have := chr_in g.2 (by decide)
      exact ⟨by show s.1 + 3 ≤ x.1; omega, a2, Nat.or_lt_two_pow (n := 5) a3 (by decide), setO_wf a4 (by omega)⟩
  · exact ⟨a1, (by decide : (1 : Nat) ≤ 4), a3, a4⟩
theorem pGate_i {x : Txt} {s : Pst} (h : PI x s) : PI x (pGate x s) := by
  obtain ⟨a1, a2, a3, a4⟩ := h
  unfold pGate
  split
  · next g =>
    split
    · exact ⟨a1, (by decide : (2 : Nat) ≤ 4), a3, a4⟩
    · split
      · next g2 =>
        have := chr_in g.2.2.2 (by decide)
        exact ⟨by show s.1 + 4 ≤ x.1; omega, a2, a3, setG_wf a4 (Nat.le_refl _) (by omega) ⟨by show (dgI (chr x s.1)).toNat < 6; omega, FeedD_iff.mp g2.1, FeedD_iff.mp g2.2⟩⟩
      · exact ⟨a1, (by decide : (3 : Nat) ≤ 4), a3, a4⟩
  · exact ⟨a1, (by decide : (1 : Nat) ≤ 4), a3, a4⟩
theorem pStep_i {x : Txt} {s : Pst} (h : PI x s) : PI x (pStep x s) := by
  unfold pStep
  split
  · exact pReg_i h
  · split
    · exact pOut_i h
    · exact pGate_i h
theorem pAll_i {x : Txt} (f : Nat) : ∀ s, PI x s → PI x (pAll x f s) := by
  induction f with
  | zero => intro s h; exact h
  | succ f ih =>
    intro s h
    unfold pAll
    split
    · exact ih _ (pStep_i h)
    · exact h
theorem p0_i (x : Txt) : PI x p0 := ⟨Nat.zero_le _, Nat.zero_le _, (by decide : (0 : Nat) < 32), newC_wf⟩
theorem parse_i (x : Txt) : PI x (parse x) := pAll_i 80 _ (p0_i x)
-- in the class
def PsT (M : Mem) (s : Pst) : Prop := M (cX 28) 1 = (s.1 : Int) ∧ M (cX 28) 2 = (s.2.1 : Int) ∧ M (cX 28) 3 = (s.2.2.1 : Int) ∧ CircT M 3 s.2.2.2
def uRd : Cc → Bool := fun c => uC 3 c || uX 28 29 c
/-- a fault is laid down -/
theorem ps_fault {M : Mem} {s : Pst} (hs : PsT M s) (r : Nat) : PsT (updM M (cX 28) 2 (r : Int)) (s.1, r, s.2.2.1, s.2.2.2) ∧ Fx uRd M (updM M (cX 28) 2 (r : Int)) := by
  obtain ⟨a, b, c, d⟩ := hs
  refine ⟨⟨?_, updM_same _ _ _ _, ?_, ?_⟩, Fx.upd rfl⟩
  · rw [← a]; simp [updM]
  · rw [← c]; simp [updM]
  · exact (Fx.upd (U := uX 28 29) rfl).circ (fun o => rfl) d