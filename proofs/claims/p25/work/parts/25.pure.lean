/-! CIRCUITS AS VALUES: how many gates, the output's wire, registers' next wires and first bits, gates (kind, first, second) -/
abbrev Circ : Type := Nat × Nat × (Nat → Nat) × (Nat → Nat) × (Nat → Nat × Nat × Nat)
abbrev cn (C : Circ) : Nat := C.1
abbrev co (C : Circ) : Nat := C.2.1
abbrev cx (C : Circ) (r : Nat) : Nat := C.2.2.1 r
abbrev cb (C : Circ) (r : Nat) : Nat := C.2.2.2.1 r
abbrev ck (C : Circ) (g : Nat) : Nat := (C.2.2.2.2 g).1
abbrev cf (C : Circ) (g : Nat) : Nat := (C.2.2.2.2 g).2.1
abbrev cs (C : Circ) (g : Nat) : Nat := (C.2.2.2.2 g).2.2
def FeedN (g w : Nat) : Prop := w < 6 + g ∨ w = 14 ∨ w = 15
def WF (C : Circ) : Prop := cn C ≤ 8 ∧ co C < 16 ∧ (∀ r, r < 4 → cx C r < 16 ∧ cb C r < 2) ∧ ∀ g, g < cn C → ck C g < 6 ∧ FeedN g (cf C g) ∧ FeedN g (cs C g)
theorem FeedN.lt {g w : Nat} (hg : g < 8) (h : FeedN g w) : w < 16 := by unfold FeedN at h; omega
/-- a bit of a number -/
def bt (b p : Nat) : Nat := b / 2 ^ p % 2
theorem bt_lt (b p : Nat) : bt b p < 2 := Nat.mod_lt _ (by decide)
theorem bt_tb (b p : Nat) : bt b p = (b.testBit p).toNat := by
  unfold bt
  rw [Nat.testBit_eq_decide_div_mod_eq]
  rcases Nat.mod_two_eq_zero_or_one (b / 2 ^ p) with h | h <;> simp [h]
/-- what a kind does -/
def gb (k a b : Nat) : Nat := if k = 0 then a &&& b else if k = 1 then a ||| b else if k = 2 then a ^^^ b else if k = 3 then 1 - (a &&& b) else if k = 4 then a else 1 - a
theorem gb_lt : ∀ k, k < 6 → ∀ a, a < 2 → ∀ b, b < 2 → gb k a b < 2 := by decide
/-- all wires of a tick as bits, the first g gates worked out -/
def wb (C : Circ) (st i : Nat) : Nat → Nat
  | 0 => (32768 ||| st * 4) ||| i
  | g + 1 => wb C st i g ||| gb (ck C g) (bt (wb C st i g) (cf C g)) (bt (wb C st i g) (cs C g)) * 2 ^ (6 + g)
theorem wb_lt {C : Circ} (hC : WF C) {st i : Nat} (hs : st < 16) (hi : i < 4) : ∀ g, g ≤ cn C → wb C st i g < 65536
  | 0, _ => by
    show (32768 ||| st * 4) ||| i < 2 ^ 16
    exact Nat.or_lt_two_pow (Nat.or_lt_two_pow (by decide) (by omega)) (by omega)
  | g + 1, h => by
    have h1 := wb_lt hC hs hi g (by omega)
    have h2 := hC.1
    obtain ⟨k1, k2, k3⟩ := hC.2.2.2 g h
    have h3 := gb_lt (ck C g) k1 _ (bt_lt (wb C st i g) (cf C g)) _ (bt_lt (wb C st i g) (cs C g))
    show wb C st i g ||| gb (ck C g) (bt (wb C st i g) (cf C g)) (bt (wb C st i g) (cs C g)) * 2 ^ (6 + g) < 2 ^ 16
    refine Nat.or_lt_two_pow h1 ?_
    have h4 : 2 ^ (6 + g) ≤ 2 ^ 13 := Nat.pow_le_pow_right (by decide) (by omega)
    generalize gb (ck C g) (bt (wb C st i g) (cf C g)) (bt (wb C st i g) (cs C g)) = x at h3 ⊢
    have h5 : x * 2 ^ (6 + g) ≤ 1 * 2 ^ 13 := Nat.mul_le_mul (by omega) h4
    omega
abbrev wbits (C : Circ) (st i : Nat) : Nat := wb C st i (cn C)
/-- the output, the state behind a tick, the first state -/
def outS (C : Circ) (st i : Nat) : Nat := bt (wbits C st i) (co C)
def st4 (f : Nat → Nat) : Nat := f 0 + 2 * f 1 + 4 * f 2 + 8 * f 3
def nxtS (C : Circ) (st i : Nat) : Nat := st4 (fun r => bt (wbits C st i) (cx C r))
def fstS (C : Circ) : Nat := st4 (cb C)
theorem or4 : ∀ a, a < 2 → ∀ b, b < 2 → ∀ c, c < 2 → ∀ d, d < 2 → (((0 ||| a * 2 ^ 0) ||| b * 2 ^ 1) ||| c * 2 ^ 2) ||| d * 2 ^ 3 = a + 2 * b + 4 * c + 8 * d := by decide
theorem st4_lt {f : Nat → Nat} (h : ∀ r, r < 4 → f r < 2) : st4 f < 16 := by
  have := h 0 (by decide); have := h 1 (by decide); have := h 2 (by decide); have := h 3 (by decide)
  unfold st4; omega
theorem nxt_lt (C : Circ) (st i : Nat) : nxtS C st i < 16 := st4_lt (fun r _ => bt_lt _ _)
theorem out_lt (C : Circ) (st i : Nat) : outS C st i < 2 := bt_lt _ _
theorem fst_lt {C : Circ} (h : WF C) : fstS C < 16 := st4_lt (fun r hr => (h.2.2.1 r hr).2)
/-- the gate on a wire, as a set -/
def gw (n w : Nat) : Nat := if 6 ≤ w ∧ w - 6 < n then 2 ^ (w - 6) else 0
theorem gw_lt {n w : Nat} : gw n w < 2 ^ n := by
  unfold gw
  split
  · next h => exact Nat.pow_lt_pow_right (by decide) h.2
  · exact Nat.two_pow_pos n
/-- gates on which the output depends: gates g - 1 down to 0 -/
def depS (C : Circ) : Nat → Nat → Nat
  | 0, f => f
  | g + 1, f => depS C g (if bt f g = 1 then (if ck C g < 4 then (f ||| gw (cn C) (cf C g)) ||| gw (cn C) (cs C g) else f ||| gw (cn C) (cf C g)) else f)
