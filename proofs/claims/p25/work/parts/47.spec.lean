/-! WHAT EVERY CALL ANSWERS, over values: circuits zero and one, history, text -/
abbrev Sg : Type := Circ × Circ × Hst × Txt
def sel (c : Int) (σ : Sg) : Circ := if c = 0 then σ.1 else σ.2.1
def put (c : Int) (C : Circ) (σ : Sg) : Sg := if c = 0 then (C, σ.2) else (σ.1, C, σ.2.2)
def rec1 (σ : Sg) : Sg := (σ.1, σ.2.1, hpush σ.2.2.1 (σ.1, σ.2.1), σ.2.2.2)
def SgW (σ : Sg) : Prop := WF σ.1 ∧ WF σ.2.1 ∧ HW σ.2.2.1 ∧ XW σ.2.2.2
def FdI (g w : Int) : Bool := decide ((0 ≤ w ∧ w ≤ 6 + g - 1) ∨ w = 14 ∨ w = 15)
theorem FdI_iff {g w : Int} : FdI g w = true ↔ Feed g w := by simp [FdI, Feed]
def spGate (σ : Sg) (c g k a b : Int) : Int × Sg :=
  if (0 ≤ c ∧ c ≤ 1) ∧ (0 ≤ k ∧ k ≤ 5) ∧ (0 ≤ g ∧ g ≤ cn (sel c σ)) ∧ FdI g a = true ∧ FdI g b = true then
    (if 8 ≤ g then (-1000003, σ) else ((cn (setG (sel c σ) g.toNat (k.toNat, a.toNat, b.toNat)) : Nat), put c (setG (sel c σ) g.toNat (k.toNat, a.toNat, b.toNat)) (rec1 σ)))
  else (-1000001, σ)
def spDrop (σ : Sg) (c : Int) : Int × Sg :=
  if 0 ≤ c ∧ c ≤ 1 then (if cn (sel c σ) = 0 then (-1000002, σ) else ((cn (drpG (sel c σ)) : Nat), put c (drpG (sel c σ)) (rec1 σ))) else (-1000001, σ)
def spReg (σ : Sg) (c r x b : Int) : Int × Sg :=
  if (0 ≤ c ∧ c ≤ 1) ∧ (0 ≤ r ∧ r ≤ 3) ∧ (0 ≤ x ∧ x ≤ 15) ∧ (0 ≤ b ∧ b ≤ 1) then ((2 * cx (sel c σ) r.toNat + cb (sel c σ) r.toNat : Nat), put c (setR (sel c σ) r.toNat x.toNat b.toNat) (rec1 σ)) else (-1000001, σ)
def spOut (σ : Sg) (c w : Int) : Int × Sg :=
  if (0 ≤ c ∧ c ≤ 1) ∧ (0 ≤ w ∧ w ≤ 15) then ((co (sel c σ) : Nat), put c (setO (sel c σ) w.toNat) (rec1 σ)) else (-1000001, σ)
def spCopy (σ : Sg) (c : Int) : Int × Sg :=
  if 0 ≤ c ∧ c ≤ 1 then ((cn (sel c σ) : Nat), put (1 - c) (sel c σ) (rec1 σ)) else (-1000001, σ)
def spOf (σ : Sg) (c w : Int) : Int :=
  if 0 ≤ c ∧ c ≤ 1 then
    (if w = 0 then (cn (sel c σ) : Nat) else if w = 1 then (co (sel c σ) : Nat) else if w = 2 then (fstS (sel c σ) : Nat)
     else if w = 3 then (sct (tabOf (sel c σ)) 16 : Nat) else if w = 4 then (15 - (15 &&& chg (tabOf (sel c σ)) (sct (tabOf (sel c σ)) 16) 16) : Nat)
     else if w = 5 then (clsS (tabOf (sel c σ)) (sct (tabOf (sel c σ)) 16) : Nat) else if w = 6 then (depS (sel c σ) 8 (gw (cn (sel c σ)) (co (sel c σ))) : Nat)
     else if (10 ≤ w ∧ w ≤ 17) ∨ (20 ≤ w ∧ w ≤ 27) ∨ (30 ≤ w ∧ w ≤ 37) then
       (if w % 10 < cn (sel c σ) then (if w / 10 = 1 then (ck (sel c σ) (w % 10).toNat : Nat) else if w / 10 = 2 then (cf (sel c σ) (w % 10).toNat : Nat) else (cs (sel c σ) (w % 10).toNat : Nat)) else -1000004)
     else -1000001)
  else -1000001
def spBit (σ : Sg) (c s i w : Int) : Int := if (0 ≤ c ∧ c ≤ 1) ∧ (0 ≤ s ∧ s ≤ 15) ∧ (0 ≤ i ∧ i ≤ 3) ∧ (0 ≤ w ∧ w ≤ 15) then (bt (wbits (sel c σ) s.toNat i.toNat) w.toNat : Nat) else -1000001
def spBehind (σ : Sg) (c s i : Int) : Int := if (0 ≤ c ∧ c ≤ 1) ∧ (0 ≤ s ∧ s ≤ 15) ∧ (0 ≤ i ∧ i ≤ 3) then (nxtS (sel c σ) s.toNat i.toNat : Nat) else -1000001
/-- the inputs of a tick in a row of bits; the state and the outputs behind t ticks -/
def inpS (row : Int) (t : Nat) : Nat := ((row / ((2 ^ (2 * t) : Nat) : Int)) % 4).toNat
theorem inp_lt (row : Int) (t : Nat) : inpS row t < 4 := by unfold inpS; omega
def runS (C : Circ) (row : Int) : Nat → Nat × Nat
  | 0 => (fstS C, 0)
  | t + 1 => (nxtS C (runS C row t).1 (inpS row t), (runS C row t).2 ||| outS C (runS C row t).1 (inpS row t) * 2 ^ t)
def spRun (σ : Sg) (c row t w : Int) : Int := if (0 ≤ c ∧ c ≤ 1) ∧ (0 ≤ t ∧ t ≤ 16) ∧ (0 ≤ w ∧ w ≤ 1) then (if w = 0 then ((runS (sel c σ) row t.toNat).1 : Nat) else ((runS (sel c σ) row t.toNat).2 : Nat)) else -1000001
def onesS (C : Circ) (i : Nat) : Nat → Nat
  | 0 => 0
  | s + 1 => onesS C i s + outS C s i
theorem ones_le (C : Circ) (i : Nat) : ∀ s, onesS C i s ≤ s
  | 0 => Nat.le_refl 0
  | s + 1 => by have := ones_le C i s; have := out_lt C s i; unfold onesS; omega
def spShare (σ : Sg) (c i : Int) : Int := if (0 ≤ c ∧ c ≤ 1) ∧ (0 ≤ i ∧ i ≤ 3) then (flt (onesS (sel c σ) i.toNat 16) : Nat) else -1000001
abbrev tz (σ : Sg) : Tab := tabOf σ.1
abbrev t1 (σ : Sg) : Tab := tabOf σ.2.1
abbrev bs (σ : Sg) : Bst := bfs (tz σ) (t1 σ)
def bapS (T0 T1 : Tab) : Nat := bap T0 T1 (bfs T0 T1) 256 0
def napS (T0 T1 : Tab) : Bool := decide (bn (bfs T0 T1) ≤ bapS T0 T1)
def spPairOf (σ : Sg) (p w : Int) : Int :=
  if p < 0 ∨ ¬ ((0 ≤ w ∧ w ≤ 3) ∨ (10 ≤ w ∧ w ≤ 265)) then -1000001 else if (bn (bs σ) : Int) ≤ p then -1000004
  else if w = 0 then (bz (bs σ) p.toNat : Nat) else if w = 1 then (bo (bs σ) p.toNat : Nat) else if w = 2 then (btk (bs σ) p.toNat : Nat) else if w = 3 then (bdif (tz σ) (t1 σ) (bs σ) p.toNat : Nat)
  else if w - 10 < (btk (bs σ) p.toNat : Nat) then (bway (bs σ) p.toNat (w - 10).toNat : Nat) else -1000004
def spPairs (σ : Sg) : Int := (bn (bs σ) : Nat)
def spApart (σ : Sg) (i : Int) : Int :=
  if i < -1 then -1000001 else if napS (tz σ) (t1 σ) = true then -1000004
  else if i = -1 then (btk (bs σ) (bapS (tz σ) (t1 σ)) : Nat) + 1 else if i > (btk (bs σ) (bapS (tz σ) (t1 σ)) : Nat) then -1000004
  else if i = (btk (bs σ) (bapS (tz σ) (t1 σ)) : Nat) then (least4 (bdif (tz σ) (t1 σ) (bs σ) (bapS (tz σ) (t1 σ))) : Nat) else (bway (bs σ) (bapS (tz σ) (t1 σ)) i.toNat : Nat)
def spLate (σ : Sg) : Int := if isLateB 0 (tz σ) (t1 σ) = true then 0 else if isLateB 1 (tz σ) (t1 σ) = true then 1 else if isLateB 2 (tz σ) (t1 σ) = true then 2 else if isLateB 3 (tz σ) (t1 σ) = true then 3 else if isLateB 4 (tz σ) (t1 σ) = true then 4 else -1000004
def unS (s : Bst) (r : Nat) : Nat → Nat
  | 0 => 0
  | p + 1 => unS s r p ||| (bo s p ^^^ (if bt (bz s p) r = 1 then 15 else 0))
theorem un_lt {s : Bst} (h : BI s) (r : Nat) : ∀ p, p ≤ bn s → unS s r p < 16
  | 0, _ => (by decide : (0 : Nat) < 16)
  | p + 1, hp => by
    have := un_lt h r p (by omega)
    have := (h.2 p (by omega)).2.1
    refine Nat.or_lt_two_pow (n := 4) (by omega) (Nat.xor_lt_two_pow (by omega) ?_)
    split <;> decide
def spSame (σ : Sg) (r : Int) : Int := if 0 ≤ r ∧ r ≤ 3 then (15 - (15 &&& unS (bs σ) r.toNat (bn (bs σ))) : Nat) else -1000001
def kdS (Z : Circ) (T1 : Tab) (g : Nat) : Nat → Nat
  | 0 => 0
  | k + 1 => if napS (tabOf (setG Z g (k, cf Z g, cs Z g))) T1 = true then kdS Z T1 g k ||| 2 ^ k else kdS Z T1 g k
theorem kd_lt (Z : Circ) (T1 : Tab) (g : Nat) : ∀ k, k ≤ 6 → kdS Z T1 g k < 64
  | 0, _ => (by decide : (0 : Nat) < 64)
  | k + 1, hk => by
    have := kd_lt Z T1 g k (by omega)
    unfold kdS
    split
    · exact Nat.or_lt_two_pow (n := 6) this (Nat.pow_lt_pow_right (by decide) (by omega))
    · exact this
def spKinds (σ : Sg) (g : Int) : Int := if 0 ≤ g ∧ g ≤ 7 then (if g < (cn σ.1 : Nat) then (kdS σ.1 (t1 σ) g.toNat 6 : Nat) else -1000004) else -1000001
def spCount (σ : Sg) (w : Int) : Int := if w = 0 then (cn σ.1 + cn σ.2.1 : Nat) else if w = 1 then (if napS (tz σ) (t1 σ) = true then 1 else 0) else if w = 2 then (σ.2.2.1.1 : Nat) else if w = 3 then (σ.2.2.2.1 : Nat) else -1000001
def spUndo (σ : Sg) : Int × Sg := if σ.2.2.1.1 = 0 then (-1000002, σ) else ((σ.2.2.1.1 - 1 : Nat), ((σ.2.2.1.2 (σ.2.2.1.1 - 1)).1, (σ.2.2.1.2 (σ.2.2.1.1 - 1)).2, (σ.2.2.1.1 - 1, σ.2.2.1.2), σ.2.2.2))
def spType (σ : Sg) (c : Int) : Int × Sg := if 32 ≤ c ∧ c ≤ 126 then (if 80 ≤ σ.2.2.2.1 then (-1000003, σ) else ((σ.2.2.2.1 + 1 : Nat), (σ.1, σ.2.1, σ.2.2.1, (σ.2.2.2.1 + 1, fup σ.2.2.2.2 σ.2.2.2.1 c.toNat)))) else (-1000001, σ)
def spClear (σ : Sg) : Int × Sg := ((σ.2.2.2.1 : Nat), (σ.1, σ.2.1, σ.2.2.1, (0, σ.2.2.2.2)))
def spFault (σ : Sg) (w : Int) : Int := if 0 ≤ w ∧ w ≤ 1 then (if (parse σ.2.2.2).2.1 = 0 then -1000004 else if w = 0 then ((parse σ.2.2.2).1 : Nat) else ((parse σ.2.2.2).2.1 : Nat)) else -1000001
def spRead (σ : Sg) (c : Int) : Int × Sg := if 0 ≤ c ∧ c ≤ 1 then (if (parse σ.2.2.2).2.1 = 0 then ((cn (parse σ.2.2.2).2.2.2 : Nat), put c (parse σ.2.2.2).2.2.2 (rec1 σ)) else (-1000002, σ)) else (-1000001, σ)
theorem sel_w {σ : Sg} (h : SgW σ) (c : Int) : WF (sel c σ) := by unfold sel; split; exact h.1; exact h.2.1
theorem rec_w {σ : Sg} (h : SgW σ) : SgW (rec1 σ) := ⟨h.1, h.2.1, hpush_w h.2.2.1 h.1 h.2.1, h.2.2.2⟩
theorem put_w {σ : Sg} (h : SgW σ) {C : Circ} (hC : WF C) (c : Int) : SgW (put c C σ) := by
  unfold put
  split
  · exact ⟨hC, h.2⟩
  · exact ⟨h.1, hC, h.2.2⟩
theorem Feed_n {g w : Int} (hg : 0 ≤ g) (h : Feed g w) : FeedN g.toNat w.toNat ∧ 0 ≤ w := by unfold Feed at h; unfold FeedN; omega
theorem spGate_w {σ : Sg} (h : SgW σ) (c g k a b : Int) : SgW (spGate σ c g k a b).2 := by
  unfold spGate
  split
  · next q =>
    split
    · exact h
    · exact put_w (rec_w h) (setG_wf (sel_w h c) (by omega) (by omega) ⟨by show k.toNat < 6; omega, (Feed_n q.2.2.1.1 (FdI_iff.mp q.2.2.2.1)).1, (Feed_n q.2.2.1.1 (FdI_iff.mp q.2.2.2.2)).1⟩) c
  · exact h
theorem spDrop_w {σ : Sg} (h : SgW σ) (c : Int) : SgW (spDrop σ c).2 := by
  unfold spDrop
  split
  · split
    · exact h
    · exact put_w (rec_w h) (drpG_wf (sel_w h c)) c
  · exact h
theorem spReg_w {σ : Sg} (h : SgW σ) (c r x b : Int) : SgW (spReg σ c r x b).2 := by
  unfold spReg
  split
  · next q => exact put_w (rec_w h) (setR_wf (sel_w h c) (by omega) (by omega)) c
  · exact h
theorem spOut_w {σ : Sg} (h : SgW σ) (c w : Int) : SgW (spOut σ c w).2 := by
  unfold spOut
  split
  · next q => exact put_w (rec_w h) (setO_wf (sel_w h c) (by omega)) c
  · exact h
theorem spCopy_w {σ : Sg} (h : SgW σ) (c : Int) : SgW (spCopy σ c).2 := by
  unfold spCopy
  split
  · exact put_w (rec_w h) (sel_w h c) _
  · exact h
theorem spUndo_w {σ : Sg} (h : SgW σ) : SgW (spUndo σ).2 := by
  unfold spUndo
  split
  · exact h
  · obtain ⟨a, b⟩ := h.2.2.1.2 (σ.2.2.1.1 - 1) (by omega)
    exact ⟨a, b, ⟨by have := h.2.2.1.1; show σ.2.2.1.1 - 1 ≤ 4; omega, fun e he => h.2.2.1.2 e (by have he : e < σ.2.2.1.1 - 1 := he; omega)⟩, h.2.2.2⟩
theorem spType_w {σ : Sg} (h : SgW σ) (c : Int) : SgW (spType σ c).2 := by
  unfold spType
  split
  · next q =>
    split
    · exact h
    · refine ⟨h.1, h.2.1, h.2.2.1, by show σ.2.2.2.1 + 1 ≤ 80; omega, fun j hj => ?_⟩
      have hj : j < σ.2.2.2.1 + 1 := hj
      show 32 ≤ fup σ.2.2.2.2 σ.2.2.2.1 c.toNat j ∧ fup σ.2.2.2.2 σ.2.2.2.1 c.toNat j ≤ 126
      by_cases e : j = σ.2.2.2.1
      · rw [e, fup_s]; omega
      · rw [fup_n _ _ e]; exact h.2.2.2.2 j (by omega)
  · exact h
theorem spClear_w {σ : Sg} (h : SgW σ) : SgW (spClear σ).2 := ⟨h.1, h.2.1, h.2.2.1, Nat.zero_le _, fun j hj => absurd hj (Nat.not_lt_zero j)⟩
theorem spRead_w {σ : Sg} (h : SgW σ) (c : Int) : SgW (spRead σ c).2 := by
  unfold spRead
  split
  · split
    · exact put_w (rec_w h) (parse_i _).2.2.2 c
    · exact h
  · exact h
/-! the class's world holds a value -/
def InvT (M : Mem) (σ : Sg) : Prop := CircT M 0 σ.1 ∧ CircT M 1 σ.2.1 ∧ HistT M σ.2.2.1 ∧ TxT M σ.2.2.2 ∧ LZ M
def uScr : Cc → Bool
  | .inl n => decide (1 ≤ n ∧ n < 14) || (decide (19 ≤ n ∧ n < 22) || decide (n = 28))
  | .inr (.inl (k, _)) => k == 2 || k == 3
  | .inr (.inr _) => true
theorem InvT.scr {M N : Mem} {σ : Sg} (h : InvT M σ) (f : Fx uScr M N) : InvT N σ := by
  obtain ⟨a, b, c, d, e⟩ := h
  exact ⟨f.circ (fun o => rfl) a, f.circ (fun o => rfl) b, f.hist rfl rfl c, f.txt rfl rfl d, fun q hq => by rw [f (cX 16) rfl]; exact e q hq⟩
def kk (c : Int) : Fin 4 := if c = 0 then 0 else 1
theorem InvT.at {M : Mem} {σ : Sg} (h : InvT M σ) (c : Int) : CircT M (kk c) (sel c σ) := by
  unfold kk sel
  split
  · exact h.1
  · exact h.2.1
