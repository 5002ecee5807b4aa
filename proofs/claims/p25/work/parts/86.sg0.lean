/-! THE START AS A VALUE -/
def sg0 : Sg := (newC, newC, (0, fun _ => (newC, newC)), (0, fun _ => 0))
theorem sg0_w : SgW sg0 := ⟨newC_wf, newC_wf, ⟨Nat.zero_le _, fun e he => absurd he (Nat.not_lt_zero e)⟩, Nat.zero_le _, fun j hj => absurd hj (Nat.not_lt_zero j)⟩
