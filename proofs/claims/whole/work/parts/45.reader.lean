/-! READING A TEXT: position, reason, what was told, the circuit -/
abbrev Pst : Type := Nat × Nat × Nat × Circ
def dgI (c : Nat) : Int := if 48 ≤ c ∧ c ≤ 57 then (c : Int) - 48 else if 97 ≤ c ∧ c ≤ 102 then (c : Int) - 87 else -1
theorem dgI_rng (c : Nat) : -1 ≤ dgI c ∧ dgI c ≤ 15 := by
  unfold dgI
  split
  · omega
  · split <;> omega
def FeedD (g : Nat) (w : Nat) : Bool := decide (w < 6 + g) || (decide (w = 14) || decide (w = 15))
theorem FeedD_iff {g w : Nat} : FeedD g w = true ↔ FeedN g w := by simp [FeedD, FeedN]
def pReg (x : Txt) (s : Pst) : Pst :=
  if (0 ≤ dgI (chr x (s.1 + 1)) ∧ dgI (chr x (s.1 + 1)) ≤ 3) ∧ 0 ≤ dgI (chr x (s.1 + 2)) ∧ (0 ≤ dgI (chr x (s.1 + 3)) ∧ dgI (chr x (s.1 + 3)) ≤ 1) ∧ chr x (s.1 + 4) = 59 then
    (if bt s.2.2.1 (dgI (chr x (s.1 + 1))).toNat = 1 then (s.1, 4, s.2.2.1, s.2.2.2)
     else (s.1 + 5, s.2.1, s.2.2.1 ||| 2 ^ (dgI (chr x (s.1 + 1))).toNat, setR s.2.2.2 (dgI (chr x (s.1 + 1))).toNat (dgI (chr x (s.1 + 2))).toNat (dgI (chr x (s.1 + 3))).toNat))
  else (s.1, 1, s.2.2.1, s.2.2.2)
def pOut (x : Txt) (s : Pst) : Pst :=
  if 0 ≤ dgI (chr x (s.1 + 1)) ∧ chr x (s.1 + 2) = 59 then
    (if bt s.2.2.1 4 = 1 then (s.1, 4, s.2.2.1, s.2.2.2)
     else (s.1 + 3, s.2.1, s.2.2.1 ||| 16, setO s.2.2.2 (dgI (chr x (s.1 + 1))).toNat))
  else (s.1, 1, s.2.2.1, s.2.2.2)
def pGate (x : Txt) (s : Pst) : Pst :=
  if (0 ≤ dgI (chr x s.1) ∧ dgI (chr x s.1) ≤ 5) ∧ 0 ≤ dgI (chr x (s.1 + 1)) ∧ 0 ≤ dgI (chr x (s.1 + 2)) ∧ chr x (s.1 + 3) = 59 then
    (if 8 ≤ cn s.2.2.2 then (s.1, 2, s.2.2.1, s.2.2.2)
     else if FeedD (cn s.2.2.2) (dgI (chr x (s.1 + 1))).toNat = true ∧ FeedD (cn s.2.2.2) (dgI (chr x (s.1 + 2))).toNat = true then
       (s.1 + 4, s.2.1, s.2.2.1, setG s.2.2.2 (cn s.2.2.2) ((dgI (chr x s.1)).toNat, (dgI (chr x (s.1 + 1))).toNat, (dgI (chr x (s.1 + 2))).toNat))
     else (s.1, 3, s.2.2.1, s.2.2.2))
  else (s.1, 1, s.2.2.1, s.2.2.2)
def pStep (x : Txt) (s : Pst) : Pst := if chr x s.1 = 114 then pReg x s else if chr x s.1 = 111 then pOut x s else pGate x s
def pAll (x : Txt) : Nat → Pst → Pst
  | 0, s => s
  | f + 1, s => if s.2.1 = 0 ∧ s.1 < x.1 then pAll x f (pStep x s) else s
def p0 : Pst := (0, 0, 0, newC)
def parse (x : Txt) : Pst := pAll x 80 p0
/-- what holds while a text is read -/
def PI (x : Txt) (s : Pst) : Prop := s.1 ≤ x.1 ∧ s.2.1 ≤ 4 ∧ s.2.2.1 < 32 ∧ WF s.2.2.2
theorem chr_in {x : Txt} {p c : Nat} (h : chr x p = c) (hc : 0 < c) : p < x.1 := by
  unfold chr at h
  split at h
  · assumption
  · omega
theorem pReg_i {x : Txt} {s : Pst} (h : PI x s) : PI x (pReg x s) := by
  obtain ⟨a1, a2, a3, a4⟩ := h
  have r1 := dgI_rng (chr x (s.1 + 2))
  unfold pReg
  split
  · next g =>
    split
    · exact ⟨a1, (by decide : (4 : Nat) ≤ 4), a3, a4⟩
    · have := chr_in g.2.2.2 (by decide)
      exact ⟨by show s.1 + 5 ≤ x.1; omega, a2, Nat.or_lt_two_pow (n := 5) a3 (Nat.pow_lt_pow_right (by decide) (by omega)), setR_wf a4 (by omega) (by omega)⟩
  · exact ⟨a1, (by decide : (1 : Nat) ≤ 4), a3, a4⟩
theorem pOut_i {x : Txt} {s : Pst} (h : PI x s) : PI x (pOut x s) := by
  obtain ⟨a1, a2, a3, a4⟩ := h
  have r1 := dgI_rng (chr x (s.1 + 1))
  unfold pOut
  split
  · next g =>
    split
    · exact ⟨a1, (by decide : (4 : Nat) ≤ 4), a3, a4⟩
    · have := chr_in g.2 (by decide)
      exact ⟨by show s.1 + 3 ≤ x.1; omega, a2, Nat.or_lt_two_pow (n := 5) a3 (by decide), setO_wf a4 (by omega)⟩
  · exact ⟨a1, (by decide : (1 : Nat) ≤ 4), a3, a4⟩
theorem pGate_i {x : Txt} {s : Pst} (h : PI x s) : PI x (pGate x s) := by
  obtain ⟨a1, a2, a3, a4⟩ := h
  unfold pGate
  split
  · next g =>
    split
    · exact ⟨a1, (by decide : (2 : Nat) ≤ 4), a3, a4⟩
    · split
      · next g2 =>
        have := chr_in g.2.2.2 (by decide)
        exact ⟨by show s.1 + 4 ≤ x.1; omega, a2, a3, setG_wf a4 (Nat.le_refl _) (by omega) ⟨by show (dgI (chr x s.1)).toNat < 6; omega, FeedD_iff.mp g2.1, FeedD_iff.mp g2.2⟩⟩
      · exact ⟨a1, (by decide : (3 : Nat) ≤ 4), a3, a4⟩
  · exact ⟨a1, (by decide : (1 : Nat) ≤ 4), a3, a4⟩
theorem pStep_i {x : Txt} {s : Pst} (h : PI x s) : PI x (pStep x s) := by
  unfold pStep
  split
  · exact pReg_i h
  · split
    · exact pOut_i h
    · exact pGate_i h
theorem pAll_i {x : Txt} (f : Nat) : ∀ s, PI x s → PI x (pAll x f s) := by
  induction f with
  | zero => intro s h; exact h
  | succ f ih =>
    intro s h
    unfold pAll
    split
    · exact ih _ (pStep_i h)
    · exact h
theorem p0_i (x : Txt) : PI x p0 := ⟨Nat.zero_le _, Nat.zero_le _, (by decide : (0 : Nat) < 32), newC_wf⟩
theorem parse_i (x : Txt) : PI x (parse x) := pAll_i 80 _ (p0_i x)
-- in the class
def PsT (M : Mem) (s : Pst) : Prop := M (cX 28) 1 = (s.1 : Int) ∧ M (cX 28) 2 = (s.2.1 : Int) ∧ M (cX 28) 3 = (s.2.2.1 : Int) ∧ CircT M 3 s.2.2.2
def uRd : Cc → Bool := fun c => uC 3 c || uX 28 29 c
theorem sem_rpos {M : Mem} {s : Pst} (h : PsT M s) : Sem ST miX5_faultPosition [.inr (cX 28)] M (Ri (s.1 : Nat) M) := by
  refine Sem.of (by decide) ST_ok (Nat.le_of_ble_eq_true rfl) (ls0 := [some (.inr (cX 28))]) rfl ?_
  refine ev_aload_n (np := 1) dX5_faultPosition_0 rfl rfl ?_
  refine ev_getI (np := 4) sX5_faultPosition_1 rfl rfl rfl ?_
  rw [h.1]
  refine ev_iret dX5_faultPosition_4 rfl ?_
  exact ⟨rfl, rfl⟩
theorem sem_rreason {M : Mem} {s : Pst} (h : PsT M s) : Sem ST miX5_faultReason [.inr (cX 28)] M (Ri (s.2.1 : Nat) M) := by
  refine Sem.of (by decide) ST_ok (Nat.le_of_ble_eq_true rfl) (ls0 := [some (.inr (cX 28))]) rfl ?_
  refine ev_aload_n (np := 1) dX5_faultReason_0 rfl rfl ?_
  refine ev_getI (np := 4) sX5_faultReason_1 rfl rfl rfl ?_
  rw [h.2.1]
  refine ev_iret dX5_faultReason_4 rfl ?_
  exact ⟨rfl, rfl⟩
theorem sem_rcirc (M : Mem) : Sem ST miX5_circuitRead [.inr (cX 28)] M (fun v N => v = some (.inr (cC 3 0)) ∧ N = M) := by
  refine Sem.of (by decide) ST_ok (Nat.le_of_ble_eq_true rfl) (ls0 := [some (.inr (cX 28))]) rfl ?_
  refine ev_aload_n (np := 1) dX5_circuitRead_0 rfl rfl ?_
  refine ev_getR (np := 4) sX5_circuitRead_1 rfl rfl rfl ?_
  refine ev_aret dX5_circuitRead_4 rfl ?_
  exact ⟨rfl, rfl⟩
theorem sem_dig {M : Mem} {x : Txt} {s : Pst} (hw : XW x) (hx : TxT M x) (hs : PsT M s) (hp : s.1 ≤ x.1) {d : Nat} (hd : d ≤ 4) : Sem ST miX5_digitAt [.inr (cX 28), .inr (cX 25), .inl (d : Int)] M (Ri (dgI (chr x (s.1 + d))) M) := by
  refine Sem.of (by decide) ST_ok (Nat.le_of_ble_eq_true rfl) (ls0 := [some (.inr (cX 28)), some (.inr (cX 25)), some (.inl (d : Int)), none]) rfl ?_
  have h1 := hw.1
  have hc := chr_lt hw (s.1 + d)
  refine ev_aload_n (np := 1) dX5_digitAt_0 rfl rfl ?_
  refine ev_aload_n (np := 2) dX5_digitAt_1 rfl rfl ?_
  refine ev_getI (np := 5) sX5_digitAt_2 rfl rfl rfl ?_
  rw [hs.1]
  refine ev_iload_n (np := 6) dX5_digitAt_5 rfl rfl ?_
  refine ev_iadd (np := 7) dX5_digitAt_6 rfl ?_
  rw [show (s.1 : Int) + (d : Int) = ((s.1 + d : Nat) : Int) by omega]
  refine ev_Vi1 (np := 10) moX8_characterAt sX5_digitAt_7 (sem_charAt hw hx (p := s.1 + d) (by omega)) rfl rfl (Nat.le_of_ble_eq_true rfl) rfl ?_
  refine ev_istore_n (np := 11) dX5_digitAt_10 (by decide) rfl ?_
  refine ev_iload_n (np := 12) dX5_digitAt_11 rfl rfl ?_
  refine ev_bipush (np := 14) dX5_digitAt_12 (by decide) rfl ?_
  refine ev_bipush (np := 16) dX5_digitAt_14 (by decide) rfl ?_
  by_cases g : 48 ≤ chr x (s.1 + d) ∧ chr x (s.1 + d) ≤ 57
  · refine ev_Ni3 (np := 19) moX9_isWithin sX5_digitAt_16 (sem_within_t M (by omega) (by omega) (by omega) (by omega)) (Nat.le_of_ble_eq_true rfl) rfl ?_
    refine ev_if_eq (tgt := 27) (np := 22) dX5_digitAt_19 (by decide) rfl (by omega) (fun h => absurd h (by omega)) (fun _ => ?_)
    refine ev_iload_n (np := 23) dX5_digitAt_22 rfl rfl ?_
    refine ev_bipush (np := 25) dX5_digitAt_23 (by decide) rfl ?_
    refine ev_isub (np := 26) dX5_digitAt_25 rfl ?_
    refine ev_iret dX5_digitAt_26 rfl ?_
    exact ⟨by rw [dgI, if_pos g], rfl⟩
  · refine ev_Ni3 (np := 19) moX9_isWithin sX5_digitAt_16 (sem_within_f M (by omega) (by omega) (by omega) (by omega)) (Nat.le_of_ble_eq_true rfl) rfl ?_
    refine ev_if_eq (tgt := 27) (np := 22) dX5_digitAt_19 (by decide) rfl (by omega) (fun _ => ?_) (fun h => absurd (by omega) h)
    refine ev_iload_n (np := 28) dX5_digitAt_27 rfl rfl ?_
    refine ev_bipush (np := 30) dX5_digitAt_28 (by decide) rfl ?_
    refine ev_bipush (np := 32) dX5_digitAt_30 (by decide) rfl ?_
    by_cases g2 : 97 ≤ chr x (s.1 + d) ∧ chr x (s.1 + d) ≤ 102
    · refine ev_Ni3 (np := 35) moX9_isWithin sX5_digitAt_32 (sem_within_t M (by omega) (by omega) (by omega) (by omega)) (Nat.le_of_ble_eq_true rfl) rfl ?_
      refine ev_if_eq (tgt := 48) (np := 38) dX5_digitAt_35 (by decide) rfl (by omega) (fun h => absurd h (by omega)) (fun _ => ?_)
      refine ev_iload_n (np := 39) dX5_digitAt_38 rfl rfl ?_
      refine ev_bipush (np := 41) dX5_digitAt_39 (by decide) rfl ?_
      refine ev_isub (np := 42) dX5_digitAt_41 rfl ?_
      refine ev_bipush (np := 44) dX5_digitAt_42 (by decide) rfl ?_
      refine ev_iadd (np := 45) dX5_digitAt_44 rfl ?_
      refine ev_goto (np := 49) dX5_digitAt_45 (by decide) ?_
      refine ev_iret dX5_digitAt_49 rfl ?_
      exact ⟨by rw [dgI, if_neg g, if_pos g2]; congr 2; omega, rfl⟩
    · refine ev_Ni3 (np := 35) moX9_isWithin sX5_digitAt_32 (sem_within_f M (by omega) (by omega) (by omega) (by omega)) (Nat.le_of_ble_eq_true rfl) rfl ?_
      refine ev_if_eq (tgt := 48) (np := 38) dX5_digitAt_35 (by decide) rfl (by omega) (fun _ => ?_) (fun h => absurd (by omega) h)
      refine ev_iconst (np := 49) dX5_digitAt_48 rfl ?_
      refine ev_iret dX5_digitAt_49 rfl ?_
      exact ⟨by rw [dgI, if_neg g, if_neg g2], rfl⟩
theorem sem_ends {M : Mem} {x : Txt} {s : Pst} (hw : XW x) (hx : TxT M x) (hs : PsT M s) (hp : s.1 ≤ x.1) {d : Nat} (hd : d ≤ 4) : Sem ST miX5_partEndsAt [.inr (cX 28), .inr (cX 25), .inl (d : Int)] M (Ri (if chr x (s.1 + d) = 59 then 1 else 0) M) := by
  refine Sem.of (by decide) ST_ok (Nat.le_of_ble_eq_true rfl) (ls0 := [some (.inr (cX 28)), some (.inr (cX 25)), some (.inl (d : Int))]) rfl ?_
  have h1 := hw.1
  have hc := chr_lt hw (s.1 + d)
  refine ev_aload_n (np := 1) dX5_partEndsAt_0 rfl rfl ?_
  refine ev_aload_n (np := 2) dX5_partEndsAt_1 rfl rfl ?_
  refine ev_getI (np := 5) sX5_partEndsAt_2 rfl rfl rfl ?_
  rw [hs.1]
  refine ev_iload_n (np := 6) dX5_partEndsAt_5 rfl rfl ?_
  refine ev_iadd (np := 7) dX5_partEndsAt_6 rfl ?_
  rw [show (s.1 : Int) + (d : Int) = ((s.1 + d : Nat) : Int) by omega]
  refine ev_Vi1 (np := 10) moX8_characterAt sX5_partEndsAt_7 (sem_charAt hw hx (p := s.1 + d) (by omega)) rfl rfl (Nat.le_of_ble_eq_true rfl) rfl ?_
  refine ev_bipush (np := 12) dX5_partEndsAt_10 (by decide) rfl ?_
  refine ev_icmp_ne (tgt := 19) (np := 15) dX5_partEndsAt_12 (by decide) rfl (by omega) (by omega) (fun g => ?_) (fun g => ?_)
  · refine ev_iconst (np := 20) dX5_partEndsAt_19 rfl ?_
    refine ev_zret dX5_partEndsAt_20 rfl (by first | exact Or.inl rfl | exact Or.inr rfl | omega) ?_
    exact ⟨by rw [if_neg (by omega)], rfl⟩
  · refine ev_iconst (np := 16) dX5_partEndsAt_15 rfl ?_
    refine ev_goto (np := 20) dX5_partEndsAt_16 (by decide) ?_
    refine ev_zret dX5_partEndsAt_20 rfl (by first | exact Or.inl rfl | exact Or.inr rfl | omega) ?_
    exact ⟨by rw [if_pos (by omega)], rfl⟩
/-- a fault is laid down -/
theorem ps_fault {M : Mem} {s : Pst} (hs : PsT M s) (r : Nat) : PsT (updM M (cX 28) 2 (r : Int)) (s.1, r, s.2.2.1, s.2.2.2) ∧ Fx uRd M (updM M (cX 28) 2 (r : Int)) := by
  obtain ⟨a, b, c, d⟩ := hs
  refine ⟨⟨?_, updM_same _ _ _ _, ?_, ?_⟩, Fx.upd rfl⟩
  · rw [← a]; simp [updM]
  · rw [← c]; simp [updM]
  · exact (Fx.upd (U := uX 28 29) rfl).circ (fun o => rfl) d
theorem sem_readOut {M : Mem} {x : Txt} {s : Pst} (hw : XW x) (hx : TxT M x) (hs : PsT M s) (hi : PI x s) : Sem ST miX5_readOutput [.inr (cX 28), .inr (cX 25)] M (fun v N => v = none ∧ PsT N (pOut x s) ∧ Fx uRd M N) := by
  refine Sem.of (by decide) ST_ok (Nat.le_of_ble_eq_true rfl) (ls0 := [some (.inr (cX 28)), some (.inr (cX 25)), none]) rfl ?_
  obtain ⟨a1, a2, a3, a4⟩ := id hi
  have l1 := hw.1
  have r1 := dgI_rng (chr x (s.1 + 1))
  have hb := bt_lt s.2.2.1 4
  have bad : pOut x s = (s.1, 1, s.2.2.1, s.2.2.2) → ∀ u : Option Val, Ev ST miX5_readOutput 20 [some (.inr (cX 28)), some (.inr (cX 25)), u] [] M (fun v N => v = none ∧ PsT N (pOut x s) ∧ Fx uRd M N) := by
    intro e u
    refine ev_aload_n (np := 21) dX5_readOutput_20 rfl rfl ?_
    refine ev_iconst (np := 22) dX5_readOutput_21 rfl ?_
    refine ev_put (np := 25) sX5_readOutput_22 rfl rfl rfl ?_
    refine ev_goto (np := 77) dX5_readOutput_25 (by decide) ?_
    refine ev_vret dX5_readOutput_77 rfl ?_
    rw [e]
    have := ps_fault hs 1
    exact ⟨rfl, this.1, this.2⟩
  refine ev_aload_n (np := 1) dX5_readOutput_0 rfl rfl ?_
  refine ev_aload_n (np := 2) dX5_readOutput_1 rfl rfl ?_
  refine ev_iconst (np := 3) dX5_readOutput_2 rfl ?_
  refine ev_Vi2 (np := 6) moX5_digitAt sX5_readOutput_3 (sem_dig hw hx hs a1 (d := 1) (by decide)) rfl rfl (Nat.le_of_ble_eq_true rfl) rfl ?_
  refine ev_istore_n (np := 7) dX5_readOutput_6 (by decide) rfl ?_
  refine ev_iload_n (np := 8) dX5_readOutput_7 rfl rfl ?_
  refine ev_if_lt (tgt := 20) (np := 11) dX5_readOutput_8 (by decide) rfl (by omega) (fun g1 => ?_) (fun g1 => ?_)
  · exact bad (by rw [pOut, if_neg (by omega)]) _
  · refine ev_aload_n (np := 12) dX5_readOutput_11 rfl rfl ?_
    refine ev_aload_n (np := 13) dX5_readOutput_12 rfl rfl ?_
    refine ev_iconst (np := 14) dX5_readOutput_13 rfl ?_
    refine ev_Vi2 (np := 17) moX5_partEndsAt sX5_readOutput_14 (sem_ends hw hx hs a1 (d := 2) (by decide)) rfl rfl (Nat.le_of_ble_eq_true rfl) rfl ?_
    by_cases g2 : chr x (s.1 + 2) = 59
    · rw [if_pos g2]
      refine ev_if_ne (tgt := 28) (np := 20) dX5_readOutput_17 (by decide) rfl (by omega) (fun _ => ?_) (fun h => absurd h (by omega))
      refine ev_aload_n (np := 29) dX5_readOutput_28 rfl rfl ?_
      refine ev_getI (np := 32) sX5_readOutput_29 rfl rfl rfl ?_
      rw [hs.2.2.1]
      refine ev_iconst (np := 33) dX5_readOutput_32 rfl ?_
      refine ev_Ni2 (np := 36) moX9_bitOf sX5_readOutput_33 (sem_bit M (b := s.2.2.1) (p := 4) (by omega) (by decide)) (Nat.le_of_ble_eq_true rfl) rfl ?_
      refine ev_iconst (np := 37) dX5_readOutput_36 rfl ?_
      refine ev_icmp_ne (tgt := 48) (np := 40) dX5_readOutput_37 (by decide) rfl (by omega) (by omega) (fun g3 => ?_) (fun g3 => ?_)
      · refine ev_aload_n (np := 49) dX5_readOutput_48 rfl rfl ?_
        refine ev_dup (np := 50) dX5_readOutput_49 rfl ?_
        refine ev_getI (np := 53) sX5_readOutput_50 rfl rfl rfl ?_
        rw [hs.2.2.1]
        refine ev_bipush (np := 55) dX5_readOutput_53 (by decide) rfl ?_
        refine ev_ior (np := 56) dX5_readOutput_55 (by omega) (by omega) rfl ?_
        refine ev_put (np := 59) sX5_readOutput_56 rfl rfl rfl ?_
        refine ev_aload_n (np := 60) dX5_readOutput_59 rfl rfl ?_
        refine ev_getR (np := 63) sX5_readOutput_60 rfl rfl rfl ?_
        refine ev_iload_n (np := 64) dX5_readOutput_63 rfl rfl ?_
        generalize hN1 : updM M (cX 28) 3 (((s.2.2.1 : Int).toNat ||| (16 : Int).toNat : Nat) : Int) = N1
        have f1 : Fx uRd M N1 := by rw [← hN1]; exact Fx.upd rfl
        have c1 : CircT N1 3 s.2.2.2 := by rw [← hN1]; exact (Fx.upd (U := uX 28 29) rfl).circ (fun o => rfl) hs.2.2.2
        rw [← Int.toNat_of_nonneg (show 0 ≤ dgI (chr x (s.1 + 1)) by omega)]
        refine ev_V1 (np := 67) moX1_setOutputWire sX5_readOutput_64 (sem_setOut c1 (w := (dgI (chr x (s.1 + 1))).toNat) ) rfl rfl (Nat.le_of_ble_eq_true rfl) rfl (fun v N2 hq => ?_)
        obtain ⟨rfl, c2, f2⟩ := hq
        refine ev_aload_n (np := 68) dX5_readOutput_67 rfl rfl ?_
        refine ev_dup (np := 69) dX5_readOutput_68 rfl ?_
        refine ev_getI (np := 72) sX5_readOutput_69 rfl rfl rfl ?_
        rw [f2 _ (fun o e => by cases e), show N1 (cX 28) 1 = (s.1 : Int) by rw [← hN1, ← hs.1]; simp [updM]]
        refine ev_iconst (np := 73) dX5_readOutput_72 rfl ?_
        refine ev_iadd (np := 74) dX5_readOutput_73 rfl ?_
        refine ev_put (np := 77) sX5_readOutput_74 rfl rfl rfl ?_
        refine ev_vret dX5_readOutput_77 rfl ?_
        rw [pOut, if_pos ⟨by omega, g2⟩, if_neg (by omega)]
        refine ⟨rfl, ⟨updM_same _ _ _ _, ?_, ?_, ?_⟩, (f1.tr (f2.fx.mono (fun c hc => by simp [uRd, hc]))).tr (Fx.upd rfl)⟩
        · show updM N2 (cX 28) 1 ((s.1 : Int) + 3) (cX 28) 2 = (s.2.1 : Int)
          rw [show updM N2 (cX 28) 1 ((s.1 : Int) + 3) (cX 28) 2 = N2 (cX 28) 2 by simp [updM], f2 _ (fun o e => by cases e), ← hN1, ← hs.2.1]; simp [updM]
        · show updM N2 (cX 28) 1 ((s.1 : Int) + 3) (cX 28) 3 = ((s.2.2.1 ||| 16 : Nat) : Int)
          rw [show updM N2 (cX 28) 1 ((s.1 : Int) + 3) (cX 28) 3 = N2 (cX 28) 3 by simp [updM], f2 _ (fun o e => by cases e), ← hN1, updM_same]; rfl
        · exact (Fx.upd (U := uX 28 29) rfl).circ (fun o => rfl) c2
      · refine ev_aload_n (np := 41) dX5_readOutput_40 rfl rfl ?_
        refine ev_iconst (np := 42) dX5_readOutput_41 rfl ?_
        refine ev_put (np := 45) sX5_readOutput_42 rfl rfl rfl ?_
        refine ev_goto (np := 77) dX5_readOutput_45 (by decide) ?_
        refine ev_vret dX5_readOutput_77 rfl ?_
        rw [pOut, if_pos ⟨by omega, g2⟩, if_pos (by omega)]
        have := ps_fault hs 4
        exact ⟨rfl, this.1, this.2⟩
    · rw [if_neg g2]
      refine ev_if_ne (tgt := 28) (np := 20) dX5_readOutput_17 (by decide) rfl (by omega) (fun h => absurd (by omega) h) (fun _ => ?_)
      exact bad (by rw [pOut, if_neg (fun h => g2 h.2)]) _
