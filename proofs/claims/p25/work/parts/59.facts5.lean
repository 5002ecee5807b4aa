/-! FACTS OF THE VALUES: what the calls answer, for the law -/
theorem shr1 (b p : Nat) : (b : Int) / ((2 ^ ((p : Int)).toNat : Nat) : Int) % ((2 ^ 1 : Nat) : Int) = (bt b p : Int) := by
  rw [Int.toNat_natCast]
  unfold bt
  norm_cast
abbrev C01 (c : Int) : Prop := 0 ≤ c ∧ c ≤ 1
section SP
variable {σ : Sg} {c : Int} {C : Circ}
theorem of_0 (hc : C01 c) (e : sel c σ = C) : spOf σ c 0 = (cn C : Nat) := by subst e; unfold spOf; rw [if_pos hc]; rfl
theorem of_1 (hc : C01 c) (e : sel c σ = C) : spOf σ c 1 = (co C : Nat) := by subst e; unfold spOf; rw [if_pos hc]; rfl
theorem of_2 (hc : C01 c) (e : sel c σ = C) : spOf σ c 2 = (fstS C : Nat) := by subst e; unfold spOf; rw [if_pos hc]; rfl
theorem of_3 (hc : C01 c) (e : sel c σ = C) : spOf σ c 3 = (sct (tabOf C) 16 : Nat) := by subst e; unfold spOf; rw [if_pos hc]; rfl
theorem of_4 (hc : C01 c) (e : sel c σ = C) : spOf σ c 4 = (15 - (15 &&& chg (tabOf C) (sct (tabOf C) 16) 16) : Nat) := by subst e; unfold spOf; rw [if_pos hc]; rfl
theorem of_5 (hc : C01 c) (e : sel c σ = C) : spOf σ c 5 = (clsS (tabOf C) (sct (tabOf C) 16) : Nat) := by subst e; unfold spOf; rw [if_pos hc]; rfl
theorem of_6 (hc : C01 c) (e : sel c σ = C) : spOf σ c 6 = (depS C 8 (gw (cn C) (co C)) : Nat) := by subst e; unfold spOf; rw [if_pos hc]; rfl
theorem of_10 (hc : C01 c) (e : sel c σ = C) {g : Nat} (hg : g < cn C) (h8 : g < 8) : spOf σ c (10 + (g : Int)) = (ck C g : Nat) := by
  subst e
  unfold spOf
  rw [if_pos hc, if_neg (by omega), if_neg (by omega), if_neg (by omega), if_neg (by omega), if_neg (by omega), if_neg (by omega), if_neg (by omega), if_pos (by omega), if_pos (by omega), if_pos (by omega)]
  rw [show ((10 + (g : Int)) % 10).toNat = g by omega]
theorem behind_v (hc : C01 c) (e : sel c σ = C) {s i : Nat} (hs : s < 16) (hi : i < 4) : spBehind σ c s i = (nxtS C s i : Nat) := by
  subst e
  unfold spBehind
  rw [if_pos ⟨hc, by omega, by omega⟩, Int.toNat_natCast, Int.toNat_natCast]
theorem bit_v (hc : C01 c) (e : sel c σ = C) {s i w : Nat} (hs : s < 16) (hi : i < 4) (hw : w < 16) : spBit σ c s i w = (bt (wbits C s i) w : Nat) := by
  subst e
  unfold spBit
  rw [if_pos ⟨hc, by omega, by omega, by omega⟩, Int.toNat_natCast, Int.toNat_natCast, Int.toNat_natCast]
theorem run_0 (hc : C01 c) (e : sel c σ = C) (row : Int) {t : Nat} (ht : t ≤ 16) : spRun σ c row t 0 = ((runS C row t).1 : Nat) := by
  subst e
  unfold spRun
  rw [if_pos ⟨hc, by omega, by omega⟩, if_pos rfl, Int.toNat_natCast]
theorem run_1 (hc : C01 c) (e : sel c σ = C) (row : Int) {t : Nat} (ht : t ≤ 16) : spRun σ c row t 1 = ((runS C row t).2 : Nat) := by
  subst e
  unfold spRun
  rw [if_pos ⟨hc, by omega, by omega⟩, if_neg (by decide), Int.toNat_natCast]
end SP
theorem sel_0 (σ : Sg) : sel 0 σ = σ.1 := rfl
theorem sel_1 (σ : Sg) : sel 1 σ = σ.2.1 := rfl
theorem inp_eq (row : Int) (t : Nat) : row / ((2 ^ (2 * (t : Int)).toNat : Nat) : Int) % ((2 ^ 2 : Nat) : Int) = (inpS row t : Int) := by
  unfold inpS
  rw [show (2 * (t : Int)).toNat = 2 * t by omega]
  generalize row / ((2 ^ (2 * t) : Nat) : Int) = q
  omega
theorem late_0 {σ : Sg} (hW : SgW σ) (h : napS (tz σ) (t1 σ) = true) : spLate σ = 0 := by
  unfold spLate
  rw [if_pos ((late0_iff (tabOf_wf hW.1) (tabOf_wf hW.2.1)).mpr h)]
theorem late_n {σ : Sg} (hW : SgW σ) (h : ¬ napS (tz σ) (t1 σ) = true) : spLate σ ≠ 0 ∧ Rng (spLate σ) := by
  unfold spLate
  rw [if_neg (fun g => h ((late0_iff (tabOf_wf hW.1) (tabOf_wf hW.2.1)).mp g))]
  split
  · decide
  · split
    · decide
    · split
      · decide
      · split
        · decide
        · decide
theorem count_1 {σ : Sg} (h : napS (tz σ) (t1 σ) = true) : spCount σ 1 = 1 := by
  unfold spCount
  rw [if_neg (by decide), if_pos rfl, if_pos h]
theorem count_n {σ : Sg} (h : ¬ napS (tz σ) (t1 σ) = true) : spCount σ 1 = 0 := by
  unfold spCount
  rw [if_neg (by decide), if_pos rfl, if_neg h]
theorem count_e (σ : Sg) : spCount σ 1 = if napS (tabOf σ.1) (tabOf σ.2.1) = true then 1 else 0 := by
  unfold spCount
  rw [if_neg (by decide), if_pos rfl]
theorem count_r (σ : Sg) : spCount σ 1 = 0 ∨ spCount σ 1 = 1 := by
  by_cases h : napS (tz σ) (t1 σ) = true
  · exact Or.inr (count_1 h)
  · exact Or.inl (count_n h)
theorem apart_0 {σ : Sg} (h : napS (tz σ) (t1 σ) = true) : spApart σ (-1) = -1000004 := by
  unfold spApart
  rw [if_neg (by decide), if_pos h]
/-- how many ticks lead to the first pair with a difference -/
def dpt (σ : Sg) : Nat := btk (bs σ) (bapS (tz σ) (t1 σ))
theorem dpt_lt {σ : Sg} (hW : SgW σ) (h : ¬ napS (tz σ) (t1 σ) = true) : dpt σ < 256 := by
  have h0 := tabOf_wf hW.1
  have h1 := tabOf_wf hW.2.1
  obtain ⟨a, -, -⟩ := nap_not h0 h1 h
  have hB := BI.bfs h0 h1
  have h2 : bn (bs σ) ≤ 256 := hB.le
  have h3 : btk (bs σ) (bapS (tz σ) (t1 σ)) ≤ bapS (tz σ) (t1 σ) := (hB.2 _ a).2.2.1
  have h4 : bapS (tz σ) (t1 σ) < bn (bs σ) := a
  show btk (bs σ) (bapS (tz σ) (t1 σ)) < 256
  omega
theorem apart_n {σ : Sg} (h : ¬ napS (tz σ) (t1 σ) = true) : spApart σ (-1) = ((dpt σ + 1 : Nat) : Int) := by
  unfold spApart
  rw [if_neg (by decide), if_neg h, if_pos rfl]
  rfl
theorem apart_t {σ : Sg} (h : ¬ napS (tz σ) (t1 σ) = true) {t : Nat} (ht : t ≤ dpt σ) : spApart σ (t : Int) = (lrG (tz σ) (t1 σ) t : Nat) := by
  unfold spApart
  have ht2 : t ≤ btk (bs σ) (bapS (tz σ) (t1 σ)) := ht
  rw [if_neg (by omega), if_neg h, if_neg (by omega), if_neg (by omega)]
  unfold lrG
  by_cases e : t = btk (bs σ) (bapS (tz σ) (t1 σ))
  · rw [if_pos (by omega), if_pos e]
  · rw [if_neg (by omega), if_neg e, Int.toNat_natCast]
theorem sel_put (c : Int) (C : Circ) (σ : Sg) : sel c (put c C σ) = C := by
  unfold sel put
  by_cases h : c = 0
  · rw [if_pos h, if_pos h]
  · rw [if_neg h, if_neg h]
theorem gate_v {σ : Sg} {c g k a b : Int} (hc : C01 c) (hk : 0 ≤ k ∧ k ≤ 5) (hg : 0 ≤ g ∧ g ≤ (cn (sel c σ) : Nat)) (ha : 0 ≤ a ∧ a < 6 + g) (hb : 0 ≤ b ∧ b < 6 + g) : (spGate σ c g k a b).1 = (if 8 ≤ g then (-1000003 : Int) else if g = ((cn (sel c σ) : Nat) : Int) then ((cn (sel c σ) : Nat) : Int) + 1 else ((cn (sel c σ) : Nat) : Int)) := by
  unfold spGate
  rw [if_pos ⟨hc, hk, hg, FdI_iff.mpr (Or.inl (by omega)), FdI_iff.mpr (Or.inl (by omega))⟩]
  by_cases h : 8 ≤ g
  · rw [if_pos h, if_pos h]
  · rw [if_neg h, if_neg h]
    show (((if g.toNat = cn (sel c σ) then cn (sel c σ) + 1 else cn (sel c σ) : Nat)) : Int) = _
    by_cases e : g = ((cn (sel c σ) : Nat) : Int)
    · rw [if_pos e, if_pos (by omega)]; rfl
    · rw [if_neg e, if_neg (by omega)]
theorem reg_v {σ : Sg} {c x b : Int} {r : Nat} (hc : C01 c) (hr : r < 4) (hx : 0 ≤ x ∧ x ≤ 15) (hb : 0 ≤ b ∧ b ≤ 1) : (spReg σ c r x b).1 = ((2 * cx (sel c σ) r + cb (sel c σ) r : Nat) : Int) := by
  unfold spReg
  rw [if_pos ⟨hc, by omega, hx, hb⟩, Int.toNat_natCast]
theorem out_v {σ : Sg} {c w : Int} (hc : C01 c) (hw : 0 ≤ w ∧ w ≤ 15) : spOut σ c w = (((co (sel c σ) : Nat) : Int), put c (setO (sel c σ) w.toNat) (rec1 σ)) := by
  unfold spOut
  rw [if_pos ⟨hc, hw⟩]
theorem copy_v {σ : Sg} {c : Int} (hc : C01 c) : spCopy σ c = (((cn (sel c σ) : Nat) : Int), put (1 - c) (sel c σ) (rec1 σ)) := by
  unfold spCopy
  rw [if_pos hc]
theorem copy_both {σ : Sg} {c : Int} (hc : C01 c) : (spCopy σ c).2.1 = sel c σ ∧ (spCopy σ c).2.2.1 = sel c σ ∧ (spCopy σ c).2.2.2.1 = hpush σ.2.2.1 (σ.1, σ.2.1) := by
  rw [copy_v hc]
  rcases (show c = 0 ∨ c = 1 by omega) with rfl | rfl
  · exact ⟨rfl, rfl, rfl⟩
  · exact ⟨rfl, rfl, rfl⟩
theorem hpush_top {h : Hst} (q : Circ × Circ) (hw : h.1 ≤ 4) : 0 < (hpush h q).1 ∧ (hpush h q).1 ≤ 4 ∧ (hpush h q).2 ((hpush h q).1 - 1) = q := by
  unfold hpush
  split
  · exact ⟨Nat.succ_pos 3, Nat.le_refl 4, rfl⟩
  · refine ⟨Nat.succ_pos _, by show h.1 + 1 ≤ 4; omega, ?_⟩
    show fup h.2 h.1 q (h.1 + 1 - 1) = q
    rw [Nat.add_sub_cancel, fup_s]
theorem copy_undo {σ : Sg} {c : Int} (hW : SgW σ) (hc : C01 c) : 0 ≤ (spUndo (spCopy σ c).2).1 ∧ (spUndo (spCopy σ c).2).1 ≤ 4 ∧ (spUndo (spCopy σ c).2).2.1 = σ.1 ∧ (spUndo (spCopy σ c).2).2.2.1 = σ.2.1 := by
  obtain ⟨-, -, e⟩ := copy_both (σ := σ) hc
  obtain ⟨a, b, d⟩ := hpush_top (h := σ.2.2.1) (σ.1, σ.2.1) hW.2.2.1.1
  unfold spUndo
  rw [e, if_neg (by omega), d]
  exact ⟨Int.natCast_nonneg _, by show (((hpush σ.2.2.1 (σ.1, σ.2.1)).1 - 1 : Nat) : Int) ≤ 4; omega, rfl, rfl⟩
theorem copy_nap {σ : Sg} {c : Int} (hW : SgW σ) (hc : C01 c) : napS (tz (spCopy σ c).2) (t1 (spCopy σ c).2) = true := by
  obtain ⟨a, b, -⟩ := copy_both (σ := σ) hc
  have hT := tabOf_wf (sel_w hW c)
  unfold tz t1
  rw [a, b, nap_iff hT hT]
  exact nap_self hT
theorem odd15 : ∀ u, u < 16 → bt u 0 ≠ 1 → (15 - (15 &&& u)) % 2 = 1 ∧ 15 - (15 &&& u) ≤ 15 := by decide +kernel
theorem same15 : ∀ a, a < 16 → bt (a ^^^ (if bt a 0 = 1 then 15 else 0)) 0 ≠ 1 := by decide +kernel
theorem un_even {s : Bst} (hB : BI s) : ∀ p, p ≤ bn s → (∀ j, j < p → bz s j = bo s j) → bt (unS s 0 p) 0 ≠ 1
  | 0, _, _ => by
    show bt 0 0 ≠ 1
    rw [bt_0]
    decide
  | p + 1, hp, h => by
    have ih := un_even hB p (by omega) (fun j hj => h j (by omega))
    have hb := hB.2 p (by omega)
    intro g
    have g2 : bt (unS s 0 p ||| (bo s p ^^^ (if bt (bz s p) 0 = 1 then 15 else 0))) 0 = 1 := g
    rcases (bt_or _ _ _).mp g2 with k | k
    · exact ih k
    · rw [h p (by omega)] at k
      exact same15 _ hb.2.1 k
theorem copy_same {σ : Sg} {c : Int} (hW : SgW σ) (hc : C01 c) : ∃ u : Nat, spSame (spCopy σ c).2 0 = (u : Int) ∧ u % 2 = 1 ∧ u ≤ 15 := by
  obtain ⟨a, b, -⟩ := copy_both (σ := σ) hc
  have hT := tabOf_wf (sel_w hW c)
  have hB := BI.bfs hT hT
  have hu := un_lt hB 0 _ (Nat.le_refl _)
  have he := un_even hB _ (Nat.le_refl _) (fun j hj => self_same hT j hj)
  obtain ⟨k1, k2⟩ := odd15 _ hu he
  refine ⟨_, ?_, k1, k2⟩
  unfold spSame bs tz t1
  rw [if_pos (by decide), a, b]
  rfl
theorem kd_hi (Z : Circ) (T1 : Tab) (g : Nat) : ∀ n k, n ≤ k → bt (kdS Z T1 g n) k ≠ 1
  | 0, k, _ => by
    show bt 0 k ≠ 1
    rw [bt_0]
    decide
  | n + 1, k, hk => by
    have ih := kd_hi Z T1 g n k (by omega)
    unfold kdS
    split
    · intro h
      rcases (bt_or _ _ _).mp h with h | h
      · exact ih h
      · have := (bt_p2 _ _).mp h
        omega
    · exact ih
theorem kd_bt (Z : Circ) (T1 : Tab) (g : Nat) {k : Nat} : ∀ n, k < n → (bt (kdS Z T1 g n) k = 1 ↔ napS (tabOf (setG Z g (k, cf Z g, cs Z g))) T1 = true)
  | 0, h => absurd h (Nat.not_lt_zero k)
  | n + 1, h => by
    unfold kdS
    by_cases e : k = n
    · subst e
      by_cases g1 : napS (tabOf (setG Z g (k, cf Z g, cs Z g))) T1 = true
      · rw [if_pos g1]
        exact ⟨fun _ => g1, fun _ => (bt_or _ _ _).mpr (Or.inr ((bt_p2 _ _).mpr rfl))⟩
      · rw [if_neg g1]
        exact ⟨fun a => absurd a (kd_hi Z T1 g k k (Nat.le_refl k)), fun a => absurd a g1⟩
    · have ih := kd_bt Z T1 g (k := k) n (by omega)
      rw [← ih]
      split
      · rw [bt_or, bt_p2]
        exact ⟨fun a => a.elim id (fun b => absurd b.symm e), Or.inl⟩
      · exact Iff.rfl
theorem setG_own {C : Circ} {g : Nat} (h : g < cn C) : setG C g (ck C g, cf C g, cs C g) = C := by
  unfold setG
  rw [if_neg (by omega)]
  have e : (fun j => if j = g then (ck C g, cf C g, cs C g) else C.2.2.2.2 j) = C.2.2.2.2 := by
    funext j
    by_cases q : j = g
    · rw [if_pos q, q]
    · rw [if_neg q]
  rw [e]
theorem kinds_v {σ : Sg} {g : Nat} (h8 : g < 8) (h : g < cn σ.1) : spKinds σ (g : Int) = (kdS σ.1 (t1 σ) g 6 : Nat) := by
  unfold spKinds
  rw [if_pos (by omega), if_pos (by omega), Int.toNat_natCast]
theorem kinds_n {σ : Sg} {g : Nat} (h8 : g < 8) (h : ¬ g < cn σ.1) : spKinds σ (g : Int) = -1000004 := by
  unfold spKinds
  rw [if_pos (by omega), if_neg (by omega)]
theorem kinds_own {σ : Sg} (hW : SgW σ) {g : Nat} (h : g < cn σ.1) : ((bt (kdS σ.1 (t1 σ) g 6) (ck σ.1 g) : Nat) : Int) = spCount σ 1 := by
  have h1 := (hW.1.2.2.2 g h).1
  have h2 := kd_bt σ.1 (t1 σ) g (k := ck σ.1 g) 6 h1
  rw [setG_own h] at h2
  have h3 := bt_lt (kdS σ.1 (t1 σ) g 6) (ck σ.1 g)
  by_cases q : napS (tz σ) (t1 σ) = true
  · rw [count_1 q, h2.mpr q]; rfl
  · rw [count_n q]
    have : bt (kdS σ.1 (t1 σ) g 6) (ck σ.1 g) ≠ 1 := fun a => q (h2.mp a)
    omega
