/-! STEP TABLES AS VALUES: the state behind, the set of inputs with output 1, the first state -/
abbrev Tab : Type := (Nat → Nat → Nat) × (Nat → Nat) × Nat
def TWF (T : Tab) : Prop := (∀ s i, T.1 s i < 16) ∧ (∀ s, T.2.1 s < 16) ∧ T.2.2 < 16
def tabOf (C : Circ) : Tab := (nxtS C, fun s => st4 (outS C s), fstS C)
theorem tabOf_wf {C : Circ} (h : WF C) : TWF (tabOf C) := ⟨nxt_lt C, fun s => st4_lt (fun r _ => out_lt C s r), fst_lt h⟩
def acc4 (f : Nat → Nat) : Nat → Nat
  | 0 => 0
  | i + 1 => acc4 f i ||| f i * 2 ^ i
theorem acc4_4 {f : Nat → Nat} (h : ∀ r, r < 4 → f r < 2) : acc4 f 4 = st4 f := or4 _ (h 0 (by decide)) _ (h 1 (by decide)) _ (h 2 (by decide)) _ (h 3 (by decide))
theorem acc4_lt {f : Nat → Nat} (h : ∀ r, f r < 2) : ∀ i, i ≤ 4 → acc4 f i < 16
  | 0, _ => (by decide : (0 : Nat) < 16)
  | i + 1, hi => by
    have h1 := acc4_lt h i (by omega)
    show acc4 f i ||| f i * 2 ^ i < 2 ^ 4
    refine Nat.or_lt_two_pow h1 ?_
    have h2 := h i
    have h3 : 2 ^ i ≤ 2 ^ 3 := Nat.pow_le_pow_right (by decide) (by omega)
    have h4 : f i * 2 ^ i ≤ 1 * 2 ^ 3 := Nat.mul_le_mul (by omega) h3
    omega
/-- the states behind state s with the inputs below i, added to f -/
def sbI (T : Tab) (s : Nat) : Nat → Nat → Nat
  | 0, f => f
  | i + 1, f => sbI T s i f ||| 2 ^ T.1 s i
def sbS (T : Tab) (X : Nat) : Nat → Nat
  | 0 => 0
  | s + 1 => if bt X s = 1 then sbI T s 4 (sbS T X s) else sbS T X s
def sct (T : Tab) : Nat → Nat
  | 0 => 2 ^ T.2.2
  | r + 1 => sct T r ||| sbS T (sct T r) 16
theorem p2_lt {n : Nat} (h : n < 16) : 2 ^ n < 65536 := Nat.pow_lt_pow_right (by decide) h
theorem sbI_lt {T : Tab} (hT : TWF T) {s : Nat} : ∀ (i f : Nat), f < 65536 → sbI T s i f < 65536
  | 0, f, h => h
  | i + 1, f, h => Nat.or_lt_two_pow (n := 16) (sbI_lt hT i f h) (p2_lt (hT.1 s i))
theorem sbS_lt {T : Tab} (hT : TWF T) {X : Nat} : ∀ s, sbS T X s < 65536
  | 0 => (by decide : (0 : Nat) < 65536)
  | s + 1 => by
    unfold sbS
    split
    · exact sbI_lt hT 4 _ (sbS_lt hT s)
    · exact sbS_lt hT s
theorem sct_lt {T : Tab} (hT : TWF T) : ∀ r, sct T r < 65536
  | 0 => p2_lt hT.2.2
  | r + 1 => Nat.or_lt_two_pow (n := 16) (sct_lt hT r) (sbS_lt hT 16)
/-- what changes from the first state over the states of a set below s -/
def chg (T : Tab) (X : Nat) : Nat → Nat
  | 0 => 0
  | s + 1 => if bt X s = 1 then chg T X s ||| (s ^^^ T.2.2) else chg T X s
theorem chg_lt {T : Tab} (hT : TWF T) {X : Nat} : ∀ s, s ≤ 16 → chg T X s < 16
  | 0, _ => (by decide : (0 : Nat) < 16)
  | s + 1, h => by
    have ih := chg_lt (X := X) hT s (by omega)
    unfold chg
    split
    · exact Nat.or_lt_two_pow (n := 4) ih (Nat.xor_lt_two_pow (by omega) hT.2.2)
    · exact ih
