/-! CIRCUIT: what changes it -/
def Fr (k : Fin 4) (M N : Mem) : Prop := ∀ c, (∀ o, c ≠ cC k o) → N c = M c
theorem Fr.rf {k : Fin 4} {M : Mem} : Fr k M M := fun _ _ => rfl
theorem Fr.tr {k : Fin 4} {M N O : Mem} (a : Fr k M N) (b : Fr k N O) : Fr k M O := fun c h => (b c h).trans (a c h)
theorem Fr.upd {k : Fin 4} {M : Mem} {o j : Nat} {v : Int} : Fr k M (updM M (cC k o) j v) := fun c h => by
  funext i
  unfold updM
  rw [if_neg]
  exact fun e => h o e.1
theorem Fr.sc {k k' : Fin 4} {M N : Mem} (h : Fr k M N) (hk : k' ≠ k) : scell N k' = scell M k' := by
  have e : ∀ o, N (cC k' o) = M (cC k' o) := fun o => h _ (fun o' e => hk (by simp at e; exact e.1))
  funext i
  simp only [scell, e]
def setS (M : Mem) (k : Fin 4) (i : Nat) (v : Int) : Mem := if i = 0 then updM M (cC k 0) 0 v else if i = 1 then updM M (cC k 0) 1 v else if i < 6 then updM M (cC k 2) (i - 2) v else updM M (cC k 4) (i - 6) v
theorem setS_fr (M : Mem) (k : Fin 4) (i : Nat) (v : Int) : Fr k M (setS M k i v) := by
  unfold setS
  split
  · exact Fr.upd
  · split
    · exact Fr.upd
    · split
      · exact Fr.upd
      · exact Fr.upd
theorem setS_sc (M : Mem) (k : Fin 4) (i j : Nat) (v : Int) : scell (setS M k i v) k j = if j = i then v else scell M k j := by
  unfold setS scell
  by_cases i0 : i = 0
  · subst i0
    by_cases j0 : j = 0
    · subst j0; simp [updM]
    · simp [updM, j0]
  · by_cases i1 : i = 1
    · subst i1
      by_cases j0 : j = 0
      · subst j0; simp [updM]
      · by_cases j1 : j = 1
        · subst j1; simp [updM]
        · simp [updM, j0, j1]
    · by_cases i6 : i < 6
      · by_cases j0 : j = 0
        · subst j0; simp [updM, i0, i1, i6, Ne.symm i0]
        · by_cases j1 : j = 1
          · subst j1; simp [updM, i0, i1, i6, Ne.symm i1]
          · by_cases j6 : j < 6
            · have : (j - 2 = i - 2) ↔ (j = i) := by omega
              simp [updM, i0, i1, i6, j0, j1, j6, this]
            · have : ¬ j = i := by omega
              simp [updM, i0, i1, i6, j0, j1, j6, this]
      · by_cases j0 : j = 0
        · subst j0; simp [updM, i0, i1, i6, Ne.symm i0]
        · by_cases j1 : j = 1
          · subst j1; simp [updM, i0, i1, i6, Ne.symm i1]
          · by_cases j6 : j < 6
            · have : ¬ j = i := by omega
              simp [updM, i0, i1, i6, j0, j1, j6, this]
            · have : (j - 6 = i - 6) ↔ (j = i) := by omega
              simp [updM, i0, i1, i6, j0, j1, j6, this]
theorem setS_g (M : Mem) (k : Fin 4) (g : Nat) (v : Int) : updM M (cC k 4) g v = setS M k (6 + g) v := by
  unfold setS
  rw [if_neg (by omega), if_neg (by omega), if_neg (by omega), show 6 + g - 6 = g by omega]
theorem setS_r (M : Mem) (k : Fin 4) {r : Nat} (hr : r < 4) (v : Int) : updM M (cC k 2) r v = setS M k (2 + r) v := by
  unfold setS
  rw [if_neg (by omega), if_neg (by omega), if_pos (by omega), show 2 + r - 2 = r by omega]
theorem setS_n (M : Mem) (k : Fin 4) (v : Int) : updM M (cC k 0) 0 v = setS M k 0 v := by simp [setS]
theorem setS_o (M : Mem) (k : Fin 4) (v : Int) : updM M (cC k 0) 1 v = setS M k 1 v := by simp [setS]
-- values that change
def setG (C : Circ) (g : Nat) (q : Nat × Nat × Nat) : Circ := (if g = cn C then cn C + 1 else cn C, co C, C.2.2.1, C.2.2.2.1, fun j => if j = g then q else C.2.2.2.2 j)
def drpG (C : Circ) : Circ := (cn C - 1, co C, C.2.2.1, C.2.2.2.1, C.2.2.2.2)
def setR (C : Circ) (r x b : Nat) : Circ := (cn C, co C, fun j => if j = r then x else C.2.2.1 j, fun j => if j = r then b else C.2.2.2.1 j, C.2.2.2.2)
def setO (C : Circ) (w : Nat) : Circ := (cn C, w, C.2.2.1, C.2.2.2.1, C.2.2.2.2)
def newC : Circ := (0, 14, fun _ => 14, fun _ => 0, fun _ => (0, 0, 0))
theorem newC_wf : WF newC := ⟨by decide, by decide, fun r _ => ⟨(by decide : (14 : Nat) < 16), (by decide : (0 : Nat) < 2)⟩, fun g h => absurd h (Nat.not_lt_zero g)⟩
theorem setG_wf {C : Circ} (h : WF C) {g : Nat} (hg : g ≤ cn C) (hg8 : g < 8) {q : Nat × Nat × Nat} (hq : q.1 < 6 ∧ FeedN g q.2.1 ∧ FeedN g q.2.2) : WF (setG C g q) := by
  obtain ⟨h1, h2, h3, h4⟩ := h
  refine ⟨?_, h2, h3, fun j hj => ?_⟩
  · show (if g = cn C then cn C + 1 else cn C) ≤ 8
    split <;> omega
  · have hj2 : j < (if g = cn C then cn C + 1 else cn C) := hj
    show (if j = g then q else C.2.2.2.2 j).1 < 6 ∧ FeedN j (if j = g then q else C.2.2.2.2 j).2.1 ∧ FeedN j (if j = g then q else C.2.2.2.2 j).2.2
    by_cases e : j = g
    · rw [if_pos e, e]; exact hq
    · rw [if_neg e]
      refine h4 j ?_
      split at hj2 <;> omega
theorem drpG_wf {C : Circ} (h : WF C) : WF (drpG C) := ⟨by have := h.1; show cn C - 1 ≤ 8; omega, h.2.1, h.2.2.1, fun g hg => h.2.2.2 g (by have : g < cn C - 1 := hg; omega)⟩
theorem setR_wf {C : Circ} (h : WF C) {r x b : Nat} (hx : x < 16) (hb : b < 2) : WF (setR C r x b) := by
  refine ⟨h.1, h.2.1, fun j hj => ?_, h.2.2.2⟩
  show (if j = r then x else C.2.2.1 j) < 16 ∧ (if j = r then b else C.2.2.2.1 j) < 2
  obtain ⟨a, c⟩ := h.2.2.1 j hj
  split
  · exact ⟨hx, hb⟩
  · exact ⟨a, c⟩
theorem setO_wf {C : Circ} (h : WF C) {w : Nat} (hw : w < 16) : WF (setO C w) := ⟨h.1, hw, h.2.2.1, h.2.2.2⟩
theorem sem_setGate {M : Mem} {k : Fin 4} {C : Circ} (hC : WF C) (h : CircT M k C) {g a b c : Nat} (hg : g ≤ cn C) (hg8 : g < 8) (ha : a < 6) (hb : b < 16) (hc : c < 16) : Sem ST miX1_setGate [.inr (cC k 0), .inl (g : Int), .inl (a : Int), .inl (b : Int), .inl (c : Int)] M (fun v N => v = none ∧ CircT N k (setG C g (a, b, c)) ∧ Fr k M N) := by
  refine Sem.of (by decide) ST_ok (Nat.le_of_ble_eq_true rfl) (ls0 := [some (.inr (cC k 0)), some (.inl (g : Int)), some (.inl (a : Int)), some (.inl (b : Int)), some (.inl (c : Int))]) rfl ?_
  have hn := hC.1
  refine ev_aload_n (np := 1) dX1_setGate_0 rfl rfl ?_
  refine ev_getR (np := 4) sX1_setGate_1 rfl rfl rfl ?_
  refine ev_iload_n (np := 5) dX1_setGate_4 rfl rfl ?_
  refine ev_iload_n (np := 6) dX1_setGate_5 rfl rfl ?_
  refine ev_bipush (np := 8) dX1_setGate_6 (by decide) rfl ?_
  refine ev_ishl (np := 9) dX1_setGate_8 (by omega) rfl ?_
  refine ev_iload_n (np := 10) dX1_setGate_9 rfl rfl ?_
  refine ev_iconst (np := 11) dX1_setGate_10 rfl ?_
  refine ev_ishl (np := 12) dX1_setGate_11 (by omega) rfl ?_
  refine ev_ior (np := 13) dX1_setGate_12 (Int.mul_nonneg (by omega) (Int.natCast_nonneg _)) (Int.mul_nonneg (by omega) (Int.natCast_nonneg _)) rfl ?_
  rw [show ((((a : Int) * ((2 ^ (8 : Int).toNat : Nat) : Int)).toNat ||| ((b : Int) * ((2 ^ (4 : Int).toNat : Nat) : Int)).toNat : Nat) : Int) = ((a * 256 ||| b * 16 : Nat) : Int) by
    rw [show ((2 ^ (8 : Int).toNat : Nat) : Int) = 256 from rfl, show ((2 ^ (4 : Int).toNat : Nat) : Int) = 16 from rfl, show ((a : Int) * 256).toNat = a * 256 by omega, show ((b : Int) * 16).toNat = b * 16 by omega]]
  refine ev_iload (np := 15) dX1_setGate_13 rfl rfl ?_
  refine ev_ior (np := 16) dX1_setGate_15 (Int.natCast_nonneg _) (by omega) rfl ?_
  rw [Int.toNat_natCast, Int.toNat_natCast]
  have e : (a * 256 ||| b * 16) ||| c = 256 * a + 16 * b + c := by
    rw [show a * 256 ||| b * 16 = 2 ^ 8 * a + b * 16 by
      rw [show a * 256 = 2 ^ 8 * a by omega, ← Nat.two_pow_add_eq_or_of_lt (by omega)]]
    rw [show 2 ^ 8 * a + b * 16 = 2 ^ 4 * (16 * a + b) by omega, ← Nat.two_pow_add_eq_or_of_lt (by omega)]
    omega
  rw [e]
  refine ev_Vv2 (np := 19) moX6_set sX1_setGate_16 (sem_set (rowG k) M (by omega)) rfl rfl (Nat.le_of_ble_eq_true rfl) rfl ?_
  rw [Int.toNat_natCast, setS_g]
  generalize hM1 : setS M k (6 + g) ((256 * a + 16 * b + c : Nat) : Int) = M1
  have f1 : Fr k M M1 := by rw [← hM1]; exact setS_fr _ _ _ _
  have s1 : ∀ j, scell M1 k j = if j = 6 + g then ((256 * a + 16 * b + c : Nat) : Int) else scell M k j := fun j => by rw [← hM1]; exact setS_sc _ _ _ _ _
  have n1 : M1 (cC k 0) 0 = (cn C : Int) := by
    have := s1 0
    rw [if_neg (by omega), h.1] at this
    simpa [scell] using this
  have fin : ∀ (N : Mem) (nn : Nat), Fr k M1 N → scell N k 0 = (nn : Int) → (∀ j, j ≠ 0 → scell N k j = scell M1 k j) → nn = (if g = cn C then cn C + 1 else cn C) → CircT N k (setG C g (a, b, c)) ∧ Fr k M N := by
    intro N nn f2 e0 e1 e2
    refine ⟨⟨by rw [e0, e2]; rfl, ?_, fun r hr => ?_, fun j hj => ?_⟩, f1.tr f2⟩
    · rw [e1 1 (by decide), s1, if_neg (by omega)]; exact h.2.1
    · rw [e1 _ (by omega), s1, if_neg (by omega)]; exact h.2.2.1 r hr
    · have hj2 : j < (if g = cn C then cn C + 1 else cn C) := hj
      rw [e1 _ (by omega), s1]
      show _ = ((256 * (if j = g then (a, b, c) else C.2.2.2.2 j).1 + 16 * (if j = g then (a, b, c) else C.2.2.2.2 j).2.1 + (if j = g then (a, b, c) else C.2.2.2.2 j).2.2 : Nat) : Int)
      by_cases ej : j = g
      · rw [if_pos (by omega), if_pos ej]
      · rw [if_neg (by omega), if_neg ej]
        refine h.2.2.2 j ?_
        split at hj2 <;> omega
  refine ev_iload_n (np := 20) dX1_setGate_19 rfl rfl ?_
  refine ev_aload_n (np := 21) dX1_setGate_20 rfl rfl ?_
  refine ev_getI (np := 24) sX1_setGate_21 rfl rfl rfl ?_
  rw [n1]
  refine ev_icmp_ne (tgt := 46) (np := 27) dX1_setGate_24 (by decide) rfl (by omega) (by omega) (fun hgn => ?_) (fun hgn => ?_)
  · refine ev_vret dX1_setGate_46 rfl ?_
    have h0 : scell M1 k 0 = (cn C : Int) := by simpa [scell] using n1
    exact ⟨rfl, fin M1 (cn C) Fr.rf h0 (fun _ _ => rfl) (by rw [if_neg (by omega)])⟩
  · refine ev_aload_n (np := 28) dX1_setGate_27 rfl rfl ?_
    refine ev_getI (np := 31) sX1_setGate_28 rfl rfl rfl ?_
    refine ev_bipush (np := 33) dX1_setGate_31 (by decide) rfl ?_
    rw [n1]
    refine ev_icmp_ge (tgt := 46) (np := 36) dX1_setGate_33 (by decide) rfl (by omega) (by omega) (fun h => absurd h (by omega)) (fun _ => ?_)
    refine ev_aload_n (np := 37) dX1_setGate_36 rfl rfl ?_
    refine ev_dup (np := 38) dX1_setGate_37 rfl ?_
    refine ev_getI (np := 41) sX1_setGate_38 rfl rfl rfl ?_
    rw [n1]
    refine ev_iconst (np := 42) dX1_setGate_41 rfl ?_
    refine ev_iadd (np := 43) dX1_setGate_42 rfl ?_
    refine ev_put (np := 46) sX1_setGate_43 rfl rfl rfl ?_
    refine ev_vret dX1_setGate_46 rfl ?_
    rw [setS_n]
    exact ⟨rfl, fin _ (cn C + 1) (setS_fr _ _ _ _) (by rw [setS_sc, if_pos rfl]; rfl) (fun j hj => by rw [setS_sc, if_neg hj]) (by rw [if_pos (by omega)])⟩
theorem sem_setReg {M : Mem} {k : Fin 4} {C : Circ} (h : CircT M k C) {r x b : Nat} (hr : r < 4) : Sem ST miX1_setRegister [.inr (cC k 0), .inl (r : Int), .inl (x : Int), .inl (b : Int)] M (fun v N => v = none ∧ CircT N k (setR C r x b) ∧ Fr k M N) := by
  intro l ad D ty sz
  refine (sem_setRegister M k (r := (r : Int)) (by omega) (x : Int) (b : Int)).imp ?_ l ad D ty sz
  rintro v N ⟨rfl, rfl⟩
  rw [Int.toNat_natCast, setS_r M k hr]
  refine ⟨rfl, ⟨?_, ?_, fun j hj => ?_, fun j hj => ?_⟩, setS_fr _ _ _ _⟩
  · rw [setS_sc, if_neg (by omega)]; exact h.1
  · rw [setS_sc, if_neg (by omega)]; exact h.2.1
  · rw [setS_sc]
    show _ = ((2 * (if j = r then x else C.2.2.1 j) + (if j = r then b else C.2.2.2.1 j) : Nat) : Int)
    by_cases e : j = r
    · rw [if_pos (by omega), if_pos e, if_pos e]; omega
    · rw [if_neg (by omega), if_neg e, if_neg e]; exact h.2.2.1 j hj
  · rw [setS_sc, if_neg (by omega)]; exact h.2.2.2 j hj
theorem sem_setOut {M : Mem} {k : Fin 4} {C : Circ} (h : CircT M k C) {w : Nat} : Sem ST miX1_setOutputWire [.inr (cC k 0), .inl (w : Int)] M (fun v N => v = none ∧ CircT N k (setO C w) ∧ Fr k M N) := by
  intro l ad D ty sz
  refine (sem_setOutputWire M k (w : Int)).imp ?_ l ad D ty sz
  rintro v N ⟨rfl, rfl⟩
  rw [setS_o M k]
  refine ⟨rfl, ⟨?_, ?_, fun j hj => ?_, fun j hj => ?_⟩, setS_fr _ _ _ _⟩
  · rw [setS_sc, if_neg (by omega)]; exact h.1
  · rw [setS_sc, if_pos rfl]; rfl
  · rw [setS_sc, if_neg (by omega)]; exact h.2.2.1 j hj
  · rw [setS_sc, if_neg (by omega)]; exact h.2.2.2 j hj
