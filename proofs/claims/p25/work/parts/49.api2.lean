theorem sem_bitA {M : Mem} {σ : Sg} (hW : SgW σ) (h : InvT M σ) {c s i w : Int} (hc : Rng c) (hs : Rng s) (hi : Rng i) (hw : Rng w) : Sem ST miX9_bit [.inr (cX 0), .inl c, .inl s, .inl i, .inl w] M (Ri (spBit σ c s i w) M) := by
  refine Sem.of (by decide) ST_ok (Nat.le_of_ble_eq_true rfl) (ls0 := [some (.inr (cX 0)), some (.inl c), some (.inl s), some (.inl i), some (.inl w)]) rfl ?_
  have hC := sel_w hW c
  have bad : ¬ ((0 ≤ c ∧ c ≤ 1) ∧ (0 ≤ s ∧ s ≤ 15) ∧ (0 ≤ i ∧ i ≤ 3) ∧ (0 ≤ w ∧ w ≤ 15)) → Ev ST miX9_bit 29 [some (.inr (cX 0)), some (.inl c), some (.inl s), some (.inl i), some (.inl w)] [] M (Ri (spBit σ c s i w) M) := by
    intro hh
    refine ev_ldc (np := 31) sX9_bit_29 rfl ?_
    refine ev_iret dX9_bit_31 rfl ?_
    rw [spBit, if_neg hh]
    exact ⟨rfl, rfl⟩
  refine ev_iload_n (np := 1) dX9_bit_0 rfl rfl ?_
  by_cases g1 : 0 ≤ c ∧ c ≤ 1
  · refine ev_Si1 (np := 4) moX9_isCircuit sX9_bit_1 (sem_isC_t M hc g1) (Nat.le_of_ble_eq_true rfl) rfl ?_
    refine ev_if_eq (tgt := 29) (np := 7) dX9_bit_4 (by decide) rfl (by omega) (fun h => absurd h (by omega)) (fun _ => ?_)
    refine ev_iload_n (np := 8) dX9_bit_7 rfl rfl ?_
    by_cases g2 : 0 ≤ s ∧ s ≤ 15
    · refine ev_Si1 (np := 11) moX9_isState sX9_bit_8 (sem_isState_t M hs g2) (Nat.le_of_ble_eq_true rfl) rfl ?_
      refine ev_if_eq (tgt := 29) (np := 14) dX9_bit_11 (by decide) rfl (by omega) (fun h => absurd h (by omega)) (fun _ => ?_)
      refine ev_iload_n (np := 15) dX9_bit_14 rfl rfl ?_
      by_cases g3 : 0 ≤ i ∧ i ≤ 3
      · refine ev_Si1 (np := 18) moX9_areInputs sX9_bit_15 (sem_areInp_t M hi g3) (Nat.le_of_ble_eq_true rfl) rfl ?_
        refine ev_if_eq (tgt := 29) (np := 21) dX9_bit_18 (by decide) rfl (by omega) (fun h => absurd h (by omega)) (fun _ => ?_)
        refine ev_iload (np := 23) dX9_bit_21 rfl rfl ?_
        by_cases g4 : 0 ≤ w ∧ w ≤ 15
        · refine ev_Si1 (np := 26) moX9_isWire sX9_bit_23 (sem_isWire_t M hw g4) (Nat.le_of_ble_eq_true rfl) rfl ?_
          refine ev_if_ne (tgt := 32) (np := 29) dX9_bit_26 (by decide) rfl (by omega) (fun _ => ?_) (fun h => absurd h (by omega))
          rw [spBit, if_pos ⟨g1, g2, g3, g4⟩]
          obtain ⟨S1, rfl⟩ := Int.eq_ofNat_of_zero_le g2.1
          obtain ⟨I1, rfl⟩ := Int.eq_ofNat_of_zero_le g3.1
          obtain ⟨W1, rfl⟩ := Int.eq_ofNat_of_zero_le g4.1
          rw [Int.toNat_natCast, Int.toNat_natCast, Int.toNat_natCast]
          have hb := wb_lt hC (show S1 < 16 by omega) (show I1 < 4 by omega) (cn (sel c σ)) (Nat.le_refl _)
          refine ev_aload_n (np := 33) dX9_bit_32 rfl rfl ?_
          refine ev_iload_n (np := 34) dX9_bit_33 rfl rfl ?_
          refine ev_V1 (np := 37) moX9_circuitAt sX9_bit_34 (sem_at M g1 ) rfl rfl (Nat.le_of_ble_eq_true rfl) rfl (fun v N hq => ?_)
          obtain ⟨rfl, rfl⟩ := hq
          refine ev_iload_n (np := 38) dX9_bit_37 rfl rfl ?_
          refine ev_iload_n (np := 39) dX9_bit_38 rfl rfl ?_
          refine ev_Vi2 (np := 42) moX1_wireBits sX9_bit_39 (sem_wireBits hC (h.at c) (s := S1) (i := I1) (by omega) (by omega)) rfl rfl (Nat.le_of_ble_eq_true rfl) rfl ?_
          refine ev_iload (np := 44) dX9_bit_42 rfl rfl ?_
          refine ev_Si2 (np := 47) moX9_bitOf sX9_bit_44 (sem_bit N (b := wbits (sel c σ) S1 I1) (p := W1) (Nat.lt_trans hb (by decide)) (by omega)) (Nat.le_of_ble_eq_true rfl) rfl ?_
          refine ev_iret dX9_bit_47 rfl ?_
          exact ⟨rfl, rfl⟩
        · refine ev_Si1 (np := 26) moX9_isWire sX9_bit_23 (sem_isWire_f M hw g4) (Nat.le_of_ble_eq_true rfl) rfl ?_
          refine ev_if_ne (tgt := 32) (np := 29) dX9_bit_26 (by decide) rfl (by omega) (fun h => absurd (by omega) h) (fun _ => ?_)
          exact bad (fun q => g4 q.2.2.2)
      · refine ev_Si1 (np := 18) moX9_areInputs sX9_bit_15 (sem_areInp_f M hi g3) (Nat.le_of_ble_eq_true rfl) rfl ?_
        refine ev_if_eq (tgt := 29) (np := 21) dX9_bit_18 (by decide) rfl (by omega) (fun _ => ?_) (fun h => absurd (by omega) h)
        exact bad (fun q => g3 q.2.2.1)
    · refine ev_Si1 (np := 11) moX9_isState sX9_bit_8 (sem_isState_f M hs g2) (Nat.le_of_ble_eq_true rfl) rfl ?_
      refine ev_if_eq (tgt := 29) (np := 14) dX9_bit_11 (by decide) rfl (by omega) (fun _ => ?_) (fun h => absurd (by omega) h)
      exact bad (fun q => g2 q.2.1)
  · refine ev_Si1 (np := 4) moX9_isCircuit sX9_bit_1 (sem_isC_f M hc g1) (Nat.le_of_ble_eq_true rfl) rfl ?_
    refine ev_if_eq (tgt := 29) (np := 7) dX9_bit_4 (by decide) rfl (by omega) (fun _ => ?_) (fun h => absurd (by omega) h)
    exact bad (fun q => g1 q.1)
theorem sem_behindA {M : Mem} {σ : Sg} (hW : SgW σ) (h : InvT M σ) {c s i : Int} (hc : Rng c) (hs : Rng s) (hi : Rng i) : Sem ST miX9_behind [.inr (cX 0), .inl c, .inl s, .inl i] M (Ri (spBehind σ c s i) M) := by
  refine Sem.of (by decide) ST_ok (Nat.le_of_ble_eq_true rfl) (ls0 := [some (.inr (cX 0)), some (.inl c), some (.inl s), some (.inl i), none]) rfl ?_
  have hC := sel_w hW c
  have bad : ¬ ((0 ≤ c ∧ c ≤ 1) ∧ (0 ≤ s ∧ s ≤ 15) ∧ (0 ≤ i ∧ i ≤ 3)) → Ev ST miX9_behind 21 [some (.inr (cX 0)), some (.inl c), some (.inl s), some (.inl i), none] [] M (Ri (spBehind σ c s i) M) := by
    intro hh
    refine ev_ldc (np := 23) sX9_behind_21 rfl ?_
    refine ev_iret dX9_behind_23 rfl ?_
    rw [spBehind, if_neg hh]
    exact ⟨rfl, rfl⟩
  refine ev_iload_n (np := 1) dX9_behind_0 rfl rfl ?_
  by_cases g1 : 0 ≤ c ∧ c ≤ 1
  · refine ev_Si1 (np := 4) moX9_isCircuit sX9_behind_1 (sem_isC_t M hc g1) (Nat.le_of_ble_eq_true rfl) rfl ?_
    refine ev_if_eq (tgt := 21) (np := 7) dX9_behind_4 (by decide) rfl (by omega) (fun h => absurd h (by omega)) (fun _ => ?_)
    refine ev_iload_n (np := 8) dX9_behind_7 rfl rfl ?_
    by_cases g2 : 0 ≤ s ∧ s ≤ 15
    · refine ev_Si1 (np := 11) moX9_isState sX9_behind_8 (sem_isState_t M hs g2) (Nat.le_of_ble_eq_true rfl) rfl ?_
      refine ev_if_eq (tgt := 21) (np := 14) dX9_behind_11 (by decide) rfl (by omega) (fun h => absurd h (by omega)) (fun _ => ?_)
      refine ev_iload_n (np := 15) dX9_behind_14 rfl rfl ?_
      by_cases g3 : 0 ≤ i ∧ i ≤ 3
      · refine ev_Si1 (np := 18) moX9_areInputs sX9_behind_15 (sem_areInp_t M hi g3) (Nat.le_of_ble_eq_true rfl) rfl ?_
        refine ev_if_ne (tgt := 24) (np := 21) dX9_behind_18 (by decide) rfl (by omega) (fun _ => ?_) (fun h => absurd h (by omega))
        rw [spBehind, if_pos ⟨g1, g2, g3⟩]
        obtain ⟨S1, rfl⟩ := Int.eq_ofNat_of_zero_le g2.1
        obtain ⟨I1, rfl⟩ := Int.eq_ofNat_of_zero_le g3.1
        rw [Int.toNat_natCast, Int.toNat_natCast]
        have hb := wb_lt hC (show S1 < 16 by omega) (show I1 < 4 by omega) (cn (sel c σ)) (Nat.le_refl _)
        refine ev_aload_n (np := 25) dX9_behind_24 rfl rfl ?_
        refine ev_iload_n (np := 26) dX9_behind_25 rfl rfl ?_
        refine ev_V1 (np := 29) moX9_circuitAt sX9_behind_26 (sem_at M g1 ) rfl rfl (Nat.le_of_ble_eq_true rfl) rfl (fun v N hq => ?_)
        obtain ⟨rfl, rfl⟩ := hq
        refine ev_astore (np := 31) dX9_behind_29 (by decide) rfl ?_
        refine ev_aload (np := 33) dX9_behind_31 rfl rfl ?_
        refine ev_aload (np := 35) dX9_behind_33 rfl rfl ?_
        refine ev_iload_n (np := 36) dX9_behind_35 rfl rfl ?_
        refine ev_iload_n (np := 37) dX9_behind_36 rfl rfl ?_
        refine ev_Vi2 (np := 40) moX1_wireBits sX9_behind_37 (sem_wireBits hC (h.at c) (s := S1) (i := I1) (by omega) (by omega)) rfl rfl (Nat.le_of_ble_eq_true rfl) rfl ?_
        refine ev_Vi1 (np := 43) moX1_stateAfter sX9_behind_40 (sem_stateAfter hC (h.at c) hb) rfl rfl (Nat.le_of_ble_eq_true rfl) rfl ?_
        refine ev_iret dX9_behind_43 rfl ?_
        exact ⟨rfl, rfl⟩
      · refine ev_Si1 (np := 18) moX9_areInputs sX9_behind_15 (sem_areInp_f M hi g3) (Nat.le_of_ble_eq_true rfl) rfl ?_
        refine ev_if_ne (tgt := 24) (np := 21) dX9_behind_18 (by decide) rfl (by omega) (fun h => absurd (by omega) h) (fun _ => ?_)
        exact bad (fun q => g3 q.2.2)
    · refine ev_Si1 (np := 11) moX9_isState sX9_behind_8 (sem_isState_f M hs g2) (Nat.le_of_ble_eq_true rfl) rfl ?_
      refine ev_if_eq (tgt := 21) (np := 14) dX9_behind_11 (by decide) rfl (by omega) (fun _ => ?_) (fun h => absurd (by omega) h)
      exact bad (fun q => g2 q.2.1)
  · refine ev_Si1 (np := 4) moX9_isCircuit sX9_behind_1 (sem_isC_f M hc g1) (Nat.le_of_ble_eq_true rfl) rfl ?_
    refine ev_if_eq (tgt := 21) (np := 7) dX9_behind_4 (by decide) rfl (by omega) (fun _ => ?_) (fun h => absurd (by omega) h)
    exact bad (fun q => g1 q.1)
/-- the class's shift and mask of a row is a tick's inputs -/
theorem inp_ok (row : Int) {t : Nat} (ht : t < 16) : (row % 4294967296) / ((2 ^ (2 * t) : Nat) : Int) % 4 = (inpS row t : Int) := by
  have e : ((2 ^ 32 : Nat) : Int) = 4294967296 := rfl
  have h1 : (2 : Nat) ^ 32 = 2 ^ (2 * t) * (4 * 2 ^ (30 - 2 * t)) := by
    rw [show (4 : Nat) = 2 ^ 2 from rfl, ← Nat.pow_add, ← Nat.pow_add]
    congr 1
    omega
  have hp := Nat.two_pow_pos (2 * t)
  unfold inpS
  generalize 2 ^ (2 * t) = P at *
  generalize 2 ^ (30 - 2 * t) = D at *
  have h2 : (4294967296 : Int) = (P : Int) * (4 * (D : Int)) := by rw [← e, h1]; norm_cast
  rw [Int.toNat_of_nonneg (Int.emod_nonneg _ (by decide))]
  rw [h2]
  have h3 : row % ((P : Int) * (4 * (D : Int))) = row - (P : Int) * ((4 * (D : Int)) * (row / ((P : Int) * (4 * (D : Int))))) := by
    rw [Int.emod_def, Int.mul_assoc]
  rw [h3, Int.sub_eq_add_neg, ← Int.mul_neg, Int.add_mul_ediv_left _ _ (show (P : Int) ≠ 0 by omega)]
  generalize row / ((P : Int) * (4 * (D : Int))) = q
  rw [show -(4 * (D : Int) * q) = 4 * (-((D : Int) * q)) by rw [Int.mul_assoc, Int.mul_neg]]
  omega
theorem run2_lt (C : Circ) (row : Int) : ∀ t, t ≤ 16 → (runS C row t).2 < 65536
  | 0, _ => (by decide : (0 : Nat) < 65536)
  | t + 1, ht => by
    have ih := run2_lt C row t (by omega)
    have ho := out_lt C (runS C row t).1 (inpS row t)
    have h3 : 2 ^ t ≤ 2 ^ 15 := Nat.pow_le_pow_right (by decide) (by omega)
    have h4 : outS C (runS C row t).1 (inpS row t) * 2 ^ t ≤ 1 * 2 ^ 15 := Nat.mul_le_mul (by omega) h3
    exact Nat.or_lt_two_pow (n := 16) ih (by omega)
theorem run1_lt {C : Circ} (hC : WF C) (row : Int) : ∀ t, (runS C row t).1 < 16
  | 0 => fst_lt hC
  | t + 1 => nxt_lt C _ _
theorem run_loop {M : Mem} {k : Fin 4} {C : Circ} (hC : WF C) (h : CircT M k C) {row : Int} (hr : Rng row) {n : Nat} (hn : n ≤ 16) {w : Int} (hw : 0 ≤ w ∧ w ≤ 1) {a b : Option Val} : ∀ (m t : Nat) (v : Option Val), t + m = n → Ev ST miX9_run 50 [a, b, some (.inl row), some (.inl (n : Int)), some (.inl w), some (.inr (cC k 0)), some (.inl ((runS C row t).1 : Nat)), some (.inl ((runS C row t).2 : Nat)), some (.inl (t : Int)), v] [] M (Ri (if w = 0 then ((runS C row n).1 : Nat) else ((runS C row n).2 : Nat)) M) := by
  intro m
  induction m with
  | zero =>
    intro t v ht
    rw [show t = n by omega]
    refine ev_iload (np := 52) dX9_run_50 rfl rfl ?_
    refine ev_iload_n (np := 53) dX9_run_52 rfl rfl ?_
    refine ev_icmp_ge (tgt := 106) (np := 56) dX9_run_53 (by decide) rfl (by omega) (by omega) (fun _ => ?_) (fun h => absurd (by omega) h)
    refine ev_iload (np := 108) dX9_run_106 rfl rfl ?_
    refine ev_if_ne (tgt := 116) (np := 111) dX9_run_108 (by decide) rfl (by omega) (fun g => ?_) (fun g => ?_)
    · refine ev_iload (np := 118) dX9_run_116 rfl rfl ?_
      refine ev_iret dX9_run_118 rfl ?_
      exact ⟨by rw [if_neg (by omega)], rfl⟩
    · refine ev_iload (np := 113) dX9_run_111 rfl rfl ?_
      refine ev_goto (np := 118) dX9_run_113 (by decide) ?_
      refine ev_iret dX9_run_118 rfl ?_
      exact ⟨by rw [if_pos (by omega)], rfl⟩
  | succ m ih =>
    intro t v ht
    have l1 := run1_lt hC row t
    have l2 := run2_lt C row t (by omega)
    have l3 := inp_lt row t
    have hb : wbits C (runS C row t).1 (inpS row t) < 65536 := wb_lt hC l1 l3 (cn C) (Nat.le_refl _)
    have ho := hC.2.1
    refine ev_iload (np := 52) dX9_run_50 rfl rfl ?_
    refine ev_iload_n (np := 53) dX9_run_52 rfl rfl ?_
    refine ev_icmp_ge (tgt := 106) (np := 56) dX9_run_53 (by decide) rfl (by omega) (by omega) (fun h => absurd h (by omega)) (fun _ => ?_)
    refine ev_aload (np := 58) dX9_run_56 rfl rfl ?_
    refine ev_iload (np := 60) dX9_run_58 rfl rfl ?_
    refine ev_iload_n (np := 61) dX9_run_60 rfl rfl ?_
    refine ev_iconst (np := 62) dX9_run_61 rfl ?_
    refine ev_iload (np := 64) dX9_run_62 rfl rfl ?_
    refine ev_imul (np := 65) dX9_run_64 rfl ?_
    refine ev_iushrU (np := 66) dX9_run_65 (by omega) rfl ?_
    refine ev_iconst (np := 67) dX9_run_66 rfl ?_
    refine ev_iandm 2 (np := 68) dX9_run_67 (by omega) rfl rfl ?_
    rw [show (((2 : Int) * (t : Int)).toNat) = 2 * t by omega, show ((2 ^ 2 : Nat) : Int) = 4 from rfl, inp_ok row (show t < 16 by omega)]
    refine ev_Vi2 (np := 71) moX1_wireBits sX9_run_68 (sem_wireBits hC h l1 l3) rfl rfl (Nat.le_of_ble_eq_true rfl) rfl ?_
    refine ev_istore (np := 73) dX9_run_71 (by decide) rfl ?_
    refine ev_iload (np := 75) dX9_run_73 rfl rfl ?_
    refine ev_iload (np := 77) dX9_run_75 rfl rfl ?_
    refine ev_aload (np := 79) dX9_run_77 rfl rfl ?_
    refine ev_Vi0 (np := 82) moX1_outputWire sX9_run_79 (sem_outputWire M k) rfl rfl (Nat.le_of_ble_eq_true rfl) rfl ?_
    rw [h.o]
    refine ev_Si2 (np := 85) moX9_bitOf sX9_run_82 (sem_bit M (b := wbits C (runS C row t).1 (inpS row t)) (p := co C) (by omega) (by omega)) (Nat.le_of_ble_eq_true rfl) rfl ?_
    refine ev_iload (np := 87) dX9_run_85 rfl rfl ?_
    refine ev_ishl (np := 88) dX9_run_87 (by omega) rfl ?_
    refine ev_ior (np := 89) dX9_run_88 (by omega) (Int.mul_nonneg (by omega) (Int.natCast_nonneg _)) rfl ?_
    rw [Int.toNat_natCast t, or_sh t]
    refine ev_istore (np := 91) dX9_run_89 (by decide) rfl ?_
    refine ev_aload (np := 93) dX9_run_91 rfl rfl ?_
    refine ev_iload (np := 95) dX9_run_93 rfl rfl ?_
    refine ev_Vi1 (np := 98) moX1_stateAfter sX9_run_95 (sem_stateAfter hC h hb) rfl rfl (Nat.le_of_ble_eq_true rfl) rfl ?_
    refine ev_istore (np := 100) dX9_run_98 (by decide) rfl ?_
    refine ev_iinc (np := 103) dX9_run_100 rfl (by decide) rfl ?_
    refine ev_goto (np := 50) dX9_run_103 (by decide) ?_
    exact ih (t + 1) _ (by omega)
theorem sem_runA {M : Mem} {σ : Sg} (hW : SgW σ) (h : InvT M σ) {c row t w : Int} (hc : Rng c) (hr : Rng row) (ht : Rng t) (hw : Rng w) : Sem ST miX9_run [.inr (cX 0), .inl c, .inl row, .inl t, .inl w] M (Ri (spRun σ c row t w) M) := by
  refine Sem.of (by decide) ST_ok (Nat.le_of_ble_eq_true rfl) (ls0 := [some (.inr (cX 0)), some (.inl c), some (.inl row), some (.inl t), some (.inl w), none, none, none, none, none]) rfl ?_
  have hC := sel_w hW c
  have bad : ¬ ((0 ≤ c ∧ c ≤ 1) ∧ (0 ≤ t ∧ t ≤ 16) ∧ (0 ≤ w ∧ w ≤ 1)) → Ev ST miX9_run 27 [some (.inr (cX 0)), some (.inl c), some (.inl row), some (.inl t), some (.inl w), none, none, none, none, none] [] M (Ri (spRun σ c row t w) M) := by
    intro hh
    refine ev_ldc (np := 29) sX9_run_27 rfl ?_
    refine ev_iret dX9_run_29 rfl ?_
    rw [spRun, if_neg hh]
    exact ⟨rfl, rfl⟩
  refine ev_iload_n (np := 1) dX9_run_0 rfl rfl ?_
  by_cases g1 : 0 ≤ c ∧ c ≤ 1
  · refine ev_Si1 (np := 4) moX9_isCircuit sX9_run_1 (sem_isC_t M hc g1) (Nat.le_of_ble_eq_true rfl) rfl ?_
    refine ev_if_eq (tgt := 27) (np := 7) dX9_run_4 (by decide) rfl (by omega) (fun h => absurd h (by omega)) (fun _ => ?_)
    refine ev_iload_n (np := 8) dX9_run_7 rfl rfl ?_
    refine ev_iconst (np := 9) dX9_run_8 rfl ?_
    refine ev_bipush (np := 11) dX9_run_9 (by decide) rfl ?_
    by_cases g2 : 0 ≤ t ∧ t ≤ 16
    · refine ev_Si3 (np := 14) moX9_isWithin sX9_run_11 (sem_within_t M ht (by omega) (by omega) g2) (Nat.le_of_ble_eq_true rfl) rfl ?_
      refine ev_if_eq (tgt := 27) (np := 17) dX9_run_14 (by decide) rfl (by omega) (fun h => absurd h (by omega)) (fun _ => ?_)
      refine ev_iload (np := 19) dX9_run_17 rfl rfl ?_
      refine ev_iconst (np := 20) dX9_run_19 rfl ?_
      refine ev_iconst (np := 21) dX9_run_20 rfl ?_
      by_cases g3 : 0 ≤ w ∧ w ≤ 1
      · refine ev_Si3 (np := 24) moX9_isWithin sX9_run_21 (sem_within_t M hw (by omega) (by omega) g3) (Nat.le_of_ble_eq_true rfl) rfl ?_
        refine ev_if_ne (tgt := 30) (np := 27) dX9_run_24 (by decide) rfl (by omega) (fun _ => ?_) (fun h => absurd h (by omega))
        rw [spRun, if_pos ⟨g1, g2, g3⟩]
        obtain ⟨n, rfl⟩ := Int.eq_ofNat_of_zero_le g2.1
        rw [Int.toNat_natCast]
        refine ev_aload_n (np := 31) dX9_run_30 rfl rfl ?_
        refine ev_iload_n (np := 32) dX9_run_31 rfl rfl ?_
        refine ev_V1 (np := 35) moX9_circuitAt sX9_run_32 (sem_at M g1 ) rfl rfl (Nat.le_of_ble_eq_true rfl) rfl (fun v N hq => ?_)
        obtain ⟨rfl, rfl⟩ := hq
        refine ev_astore (np := 37) dX9_run_35 (by decide) rfl ?_
        refine ev_aload (np := 39) dX9_run_37 rfl rfl ?_
        refine ev_Vi0 (np := 42) moX1_firstState sX9_run_39 (sem_firstState hC (h.at c)) rfl rfl (Nat.le_of_ble_eq_true rfl) rfl ?_
        refine ev_istore (np := 44) dX9_run_42 (by decide) rfl ?_
        refine ev_iconst (np := 45) dX9_run_44 rfl ?_
        refine ev_istore (np := 47) dX9_run_45 (by decide) rfl ?_
        refine ev_iconst (np := 48) dX9_run_47 rfl ?_
        refine ev_istore (np := 50) dX9_run_48 (by decide) rfl ?_
        exact run_loop hC (h.at c) hr (by omega) g3 n 0 none (by omega)
      · refine ev_Si3 (np := 24) moX9_isWithin sX9_run_21 (sem_within_f M hw (by omega) (by omega) g3) (Nat.le_of_ble_eq_true rfl) rfl ?_
        refine ev_if_ne (tgt := 30) (np := 27) dX9_run_24 (by decide) rfl (by omega) (fun h => absurd (by omega) h) (fun _ => ?_)
        exact bad (fun q => g3 q.2.2)
    · refine ev_Si3 (np := 14) moX9_isWithin sX9_run_11 (sem_within_f M ht (by omega) (by omega) g2) (Nat.le_of_ble_eq_true rfl) rfl ?_
      refine ev_if_eq (tgt := 27) (np := 17) dX9_run_14 (by decide) rfl (by omega) (fun _ => ?_) (fun h => absurd (by omega) h)
      exact bad (fun q => g2 q.2.1)
  · refine ev_Si1 (np := 4) moX9_isCircuit sX9_run_1 (sem_isC_f M hc g1) (Nat.le_of_ble_eq_true rfl) rfl ?_
    refine ev_if_eq (tgt := 27) (np := 7) dX9_run_4 (by decide) rfl (by omega) (fun _ => ?_) (fun h => absurd (by omega) h)
    exact bad (fun q => g1 q.1)
theorem sem_tellStates {M : Mem} {k : Fin 4} {C : Circ} (hC : WF C) (h : CircT M k C) {w : Int} (hw : w = 3 ∨ w = 4 ∨ w = 5) : Sem ST miX9_tellStates [.inr (cX 0), .inr (cC k 0), .inl w] M (fun v N => v = some (.inl (if w = 3 then (sct (tabOf C) 16 : Nat) else if w = 4 then (15 - (15 &&& chg (tabOf C) (sct (tabOf C) 16) 16) : Nat) else (clsS (tabOf C) (sct (tabOf C) 16) : Nat))) ∧ Fx uScr M N) := by
  refine Sem.of (by decide) ST_ok (Nat.le_of_ble_eq_true rfl) (ls0 := [some (.inr (cX 0)), some (.inr (cC k 0)), some (.inl w), none]) rfl ?_
  have hT := tabOf_wf hC
  refine ev_aload_n (np := 1) dX9_tellStates_0 rfl rfl ?_
  refine ev_getR (np := 4) sX9_tellStates_1 rfl rfl rfl ?_
  refine ev_aload_n (np := 5) dX9_tellStates_4 rfl rfl ?_
  refine ev_V1 (np := 8) moX7_fillFrom sX9_tellStates_5 (sem_fillFrom hC h ) rfl rfl (Nat.le_of_ble_eq_true rfl) rfl (fun v N hq => ?_)
  obtain ⟨rfl, t1, f1⟩ := hq
  have f2 : Fx uScr M N := f1.mono (fun c hc => by
    rcases c with n | ⟨k, o⟩ | ⟨t, o⟩ <;> simp [uT] at hc
    rfl)
  refine ev_aload_n (np := 9) dX9_tellStates_8 rfl rfl ?_
  refine ev_getR (np := 12) sX9_tellStates_9 rfl rfl rfl ?_
  refine ev_Vi0 (np := 15) moX7_statesComeTo sX9_tellStates_12 (sem_sct hT t1) rfl rfl (Nat.le_of_ble_eq_true rfl) rfl ?_
  refine ev_istore_n (np := 16) dX9_tellStates_15 (by decide) rfl ?_
  refine ev_iload_n (np := 17) dX9_tellStates_16 rfl rfl ?_
  have hX := sct_lt hT 16
  rcases hw with rfl | rfl | rfl
  · refine ev_lsw (np := 44) dX9_tellStates_17 (by omega) (by decide) (by rfl) (by decide) ?_
    refine ev_iload_n (np := 45) dX9_tellStates_44 rfl rfl ?_
    refine ev_iret dX9_tellStates_45 rfl ?_
    exact ⟨rfl, f2⟩
  · refine ev_lsw (np := 46) dX9_tellStates_17 (by omega) (by decide) (by rfl) (by decide) ?_
    refine ev_aload_n (np := 47) dX9_tellStates_46 rfl rfl ?_
    refine ev_getR (np := 50) sX9_tellStates_47 rfl rfl rfl ?_
    refine ev_iload_n (np := 51) dX9_tellStates_50 rfl rfl ?_
    refine ev_Vi1 (np := 54) moX7_steadyRegisters sX9_tellStates_51 (sem_steadyT hT t1 hX) rfl rfl (Nat.le_of_ble_eq_true rfl) rfl ?_
    refine ev_iret dX9_tellStates_54 rfl ?_
    exact ⟨rfl, f2⟩
  · refine ev_lsw (np := 55) dX9_tellStates_17 (by omega) (by decide) (by rfl) (by decide) ?_
    refine ev_aload_n (np := 56) dX9_tellStates_55 rfl rfl ?_
    refine ev_getR (np := 59) sX9_tellStates_56 rfl rfl rfl ?_
    refine ev_aload_n (np := 60) dX9_tellStates_59 rfl rfl ?_
    refine ev_getR (np := 63) sX9_tellStates_60 rfl rfl rfl ?_
    refine ev_V1 (np := 66) moX0_findUnlike sX9_tellStates_63 (sem_findUnlike hT t1 ) rfl rfl (Nat.le_of_ble_eq_true rfl) rfl (fun v N2 hq => ?_)
    obtain ⟨rfl, hA, f3⟩ := hq
    refine ev_aload_n (np := 67) dX9_tellStates_66 rfl rfl ?_
    refine ev_getR (np := 70) sX9_tellStates_67 rfl rfl rfl ?_
    refine ev_iload_n (np := 71) dX9_tellStates_70 rfl rfl ?_
    refine ev_Vi1 (np := 74) moX0_classesAmong sX9_tellStates_71 (sem_classesAmong hA hX) rfl rfl (Nat.le_of_ble_eq_true rfl) rfl ?_
    refine ev_iret dX9_tellStates_74 rfl ?_
    exact ⟨rfl, f2.tr (f3.mono (fun c hc => by
      rcases c with n | ⟨k, o⟩ | ⟨t, o⟩ <;> simp [uX] at hc
      simp [uScr]; omega))⟩
theorem sem_tellWires {M : Mem} {k : Fin 4} {C : Circ} (hC : WF C) (h : CircT M k C) {w : Int} (hw : w = 0 ∨ w = 1 ∨ w = 2 ∨ w = 6) : Sem ST miX9_tellWires [.inr (cC k 0), .inl w] M (Ri (if w = 0 then (cn C : Nat) else if w = 1 then (co C : Nat) else if w = 2 then (fstS C : Nat) else (depS C 8 (gw (cn C) (co C)) : Nat)) M) := by
  refine Sem.of (by decide) ST_ok (Nat.le_of_ble_eq_true rfl) (ls0 := [some (.inr (cC k 0)), some (.inl w)]) rfl ?_
  refine ev_iload_n (np := 1) dX9_tellWires_0 rfl rfl ?_
  rcases hw with rfl | rfl | rfl | rfl
  · refine ev_swIn (np := 28) dX9_tellWires_1 (by omega) (by omega) (by first | rfl | (simp; done)) (by decide) ?_
    refine ev_aload_n (np := 29) dX9_tellWires_28 rfl rfl ?_
    refine ev_Vi0 (np := 32) moX1_gateCount sX9_tellWires_29 (sem_gateCount M k) rfl rfl (Nat.le_of_ble_eq_true rfl) rfl ?_
    rw [h.n]
    refine ev_iret dX9_tellWires_32 rfl ?_
    exact ⟨rfl, rfl⟩
  · refine ev_swIn (np := 33) dX9_tellWires_1 (by omega) (by omega) (by first | rfl | (simp; done)) (by decide) ?_
    refine ev_aload_n (np := 34) dX9_tellWires_33 rfl rfl ?_
    refine ev_Vi0 (np := 37) moX1_outputWire sX9_tellWires_34 (sem_outputWire M k) rfl rfl (Nat.le_of_ble_eq_true rfl) rfl ?_
    rw [h.o]
    refine ev_iret dX9_tellWires_37 rfl ?_
    exact ⟨rfl, rfl⟩
  · refine ev_swIn (np := 38) dX9_tellWires_1 (by omega) (by omega) (by first | rfl | (simp; done)) (by decide) ?_
    refine ev_aload_n (np := 39) dX9_tellWires_38 rfl rfl ?_
    refine ev_Vi0 (np := 42) moX1_firstState sX9_tellWires_39 (sem_firstState hC h) rfl rfl (Nat.le_of_ble_eq_true rfl) rfl ?_
    refine ev_iret dX9_tellWires_42 rfl ?_
    exact ⟨rfl, rfl⟩
  · refine ev_swOut (np := 43) dX9_tellWires_1 (by omega) (by omega) (by decide) ?_
    refine ev_aload_n (np := 44) dX9_tellWires_43 rfl rfl ?_
    refine ev_Vi0 (np := 47) moX1_gatesBehindOutput sX9_tellWires_44 (sem_gatesBehind hC h) rfl rfl (Nat.le_of_ble_eq_true rfl) rfl ?_
    refine ev_iret dX9_tellWires_47 rfl ?_
    exact ⟨rfl, rfl⟩
theorem sem_tellGate {M : Mem} {k : Fin 4} {C : Circ} (hC : WF C) (h : CircT M k C) {g t : Int} (hg : 0 ≤ g ∧ g < 10) (ht : 1 ≤ t ∧ t ≤ 3) : Sem ST miX9_tellGate [.inr (cC k 0), .inl g, .inl t] M (Ri (if g < cn C then (if t = 1 then (ck C g.toNat : Nat) else if t = 2 then (cf C g.toNat : Nat) else (cs C g.toNat : Nat)) else -1000004) M) := by
  refine Sem.of (by decide) ST_ok (Nat.le_of_ble_eq_true rfl) (ls0 := [some (.inr (cC k 0)), some (.inl g), some (.inl t)]) rfl ?_
  have hn := hC.1
  obtain ⟨G, rfl⟩ := Int.eq_ofNat_of_zero_le hg.1
  rw [Int.toNat_natCast]
  refine ev_iload_n (np := 1) dX9_tellGate_0 rfl rfl ?_
  refine ev_aload_n (np := 2) dX9_tellGate_1 rfl rfl ?_
  refine ev_Vi0 (np := 5) moX1_gateCount sX9_tellGate_2 (sem_gateCount M k) rfl rfl (Nat.le_of_ble_eq_true rfl) rfl ?_
  rw [h.n]
  refine ev_icmp_lt (tgt := 11) (np := 8) dX9_tellGate_5 (by decide) rfl (by omega) (by omega) (fun g1 => ?_) (fun g1 => ?_)
  · rw [if_pos g1]
    refine ev_iload_n (np := 12) dX9_tellGate_11 rfl rfl ?_
    refine ev_iconst (np := 13) dX9_tellGate_12 rfl ?_
    refine ev_icmp_ne (tgt := 22) (np := 16) dX9_tellGate_13 (by decide) rfl (by omega) (by omega) (fun g2 => ?_) (fun g2 => ?_)
    · rw [if_neg (by omega)]
      refine ev_iload_n (np := 23) dX9_tellGate_22 rfl rfl ?_
      refine ev_iconst (np := 24) dX9_tellGate_23 rfl ?_
      refine ev_icmp_ne (tgt := 35) (np := 27) dX9_tellGate_24 (by decide) rfl (by omega) (by omega) (fun g3 => ?_) (fun g3 => ?_)
      · rw [if_neg (by omega)]
        refine ev_aload_n (np := 36) dX9_tellGate_35 rfl rfl ?_
        refine ev_iload_n (np := 37) dX9_tellGate_36 rfl rfl ?_
        refine ev_Vi1 (np := 40) moX1_secondWire sX9_tellGate_37 (sem_secondWire hC h (g := G) (by omega)) rfl rfl (Nat.le_of_ble_eq_true rfl) rfl ?_
        refine ev_iret dX9_tellGate_40 rfl ?_
        exact ⟨rfl, rfl⟩
      · rw [if_pos (by omega)]
        refine ev_aload_n (np := 28) dX9_tellGate_27 rfl rfl ?_
        refine ev_iload_n (np := 29) dX9_tellGate_28 rfl rfl ?_
        refine ev_Vi1 (np := 32) moX1_firstWire sX9_tellGate_29 (sem_firstWire hC h (g := G) (by omega)) rfl rfl (Nat.le_of_ble_eq_true rfl) rfl ?_
        refine ev_goto (np := 40) dX9_tellGate_32 (by decide) ?_
        refine ev_iret dX9_tellGate_40 rfl ?_
        exact ⟨rfl, rfl⟩
    · rw [if_pos (by omega)]
      refine ev_aload_n (np := 17) dX9_tellGate_16 rfl rfl ?_
      refine ev_iload_n (np := 18) dX9_tellGate_17 rfl rfl ?_
      refine ev_Vi1 (np := 21) moX1_kindOf sX9_tellGate_18 (sem_kindOf hC h (g := G) (by omega)) rfl rfl (Nat.le_of_ble_eq_true rfl) rfl ?_
      refine ev_iret dX9_tellGate_21 rfl ?_
      exact ⟨rfl, rfl⟩
  · rw [if_neg g1]
    refine ev_ldc (np := 10) sX9_tellGate_8 rfl ?_
    refine ev_iret dX9_tellGate_10 rfl ?_
    exact ⟨rfl, rfl⟩
theorem sem_circuitOf {M : Mem} {σ : Sg} (hW : SgW σ) (h : InvT M σ) {c w : Int} (hc : Rng c) (hw : Rng w) : Sem ST miX9_circuitOf [.inr (cX 0), .inl c, .inl w] M (fun v N => v = some (.inl (spOf σ c w)) ∧ InvT N σ) := by
  refine Sem.of (by decide) ST_ok (Nat.le_of_ble_eq_true rfl) (ls0 := [some (.inr (cX 0)), some (.inl c), some (.inl w), none]) rfl ?_
  have hC := sel_w hW c
  unfold spOf
  refine ev_iload_n (np := 1) dX9_circuitOf_0 rfl rfl ?_
  by_cases g1 : 0 ≤ c ∧ c ≤ 1
  · rw [if_pos g1]
    refine ev_Si1 (np := 4) moX9_isCircuit sX9_circuitOf_1 (sem_isC_t M hc g1) (Nat.le_of_ble_eq_true rfl) rfl ?_
    refine ev_if_ne (tgt := 10) (np := 7) dX9_circuitOf_4 (by decide) rfl (by omega) (fun _ => ?_) (fun h => absurd h (by omega))
    refine ev_aload_n (np := 11) dX9_circuitOf_10 rfl rfl ?_
    refine ev_iload_n (np := 12) dX9_circuitOf_11 rfl rfl ?_
    refine ev_V1 (np := 15) moX9_circuitAt sX9_circuitOf_12 (sem_at M g1 ) rfl rfl (Nat.le_of_ble_eq_true rfl) rfl (fun v N hq => ?_)
    obtain ⟨rfl, rfl⟩ := hq
    refine ev_astore_n (np := 16) dX9_circuitOf_15 (by decide) rfl ?_
    refine ev_iload_n (np := 17) dX9_circuitOf_16 rfl rfl ?_
    refine ev_iconst (np := 18) dX9_circuitOf_17 rfl ?_
    refine ev_iconst (np := 19) dX9_circuitOf_18 rfl ?_
    by_cases g2 : 3 ≤ w ∧ w ≤ 5
    · refine ev_Si3 (np := 22) moX9_isWithin sX9_circuitOf_19 (sem_within_t N hw (by omega) (by omega) g2) (Nat.le_of_ble_eq_true rfl) rfl ?_
      refine ev_if_eq (tgt := 32) (np := 25) dX9_circuitOf_22 (by decide) rfl (by omega) (fun h => absurd h (by omega)) (fun _ => ?_)
      refine ev_aload_n (np := 26) dX9_circuitOf_25 rfl rfl ?_
      refine ev_aload_n (np := 27) dX9_circuitOf_26 rfl rfl ?_
      refine ev_iload_n (np := 28) dX9_circuitOf_27 rfl rfl ?_
      refine ev_V2 (np := 31) moX9_tellStates sX9_circuitOf_28 (sem_tellStates hC (h.at c) (by omega) ) rfl rfl (Nat.le_of_ble_eq_true rfl) rfl (fun v N2 hq => ?_)
      obtain ⟨rfl, f2⟩ := hq
      refine ev_iret dX9_circuitOf_31 rfl ?_
      refine ⟨?_, h.scr f2⟩
      rcases (show w = 3 ∨ w = 4 ∨ w = 5 by omega) with rfl | rfl | rfl <;> rfl
    · refine ev_Si3 (np := 22) moX9_isWithin sX9_circuitOf_19 (sem_within_f N hw (by omega) (by omega) g2) (Nat.le_of_ble_eq_true rfl) rfl ?_
      refine ev_if_eq (tgt := 32) (np := 25) dX9_circuitOf_22 (by decide) rfl (by omega) (fun _ => ?_) (fun h => absurd (by omega) h)
      refine ev_iload_n (np := 33) dX9_circuitOf_32 rfl rfl ?_
      refine ev_iconst (np := 34) dX9_circuitOf_33 rfl ?_
      refine ev_bipush (np := 36) dX9_circuitOf_34 (by decide) rfl ?_
      by_cases g3 : 0 ≤ w ∧ w ≤ 6
      · refine ev_Si3 (np := 39) moX9_isWithin sX9_circuitOf_36 (sem_within_t N hw (by omega) (by omega) g3) (Nat.le_of_ble_eq_true rfl) rfl ?_
        refine ev_if_eq (tgt := 48) (np := 42) dX9_circuitOf_39 (by decide) rfl (by omega) (fun h => absurd h (by omega)) (fun _ => ?_)
        refine ev_aload_n (np := 43) dX9_circuitOf_42 rfl rfl ?_
        refine ev_iload_n (np := 44) dX9_circuitOf_43 rfl rfl ?_
        refine ev_Si2 (np := 47) moX9_tellWires sX9_circuitOf_44 (sem_tellWires hC (h.at c) (w := w) (by omega)) (Nat.le_of_ble_eq_true rfl) rfl ?_
        refine ev_iret dX9_circuitOf_47 rfl ?_
        refine ⟨?_, h⟩
        rcases (show w = 0 ∨ w = 1 ∨ w = 2 ∨ w = 6 by omega) with rfl | rfl | rfl | rfl <;> rfl
      · rw [if_neg (by omega), if_neg (by omega), if_neg (by omega), if_neg (by omega), if_neg (by omega), if_neg (by omega), if_neg (by omega)]
        refine ev_Si3 (np := 39) moX9_isWithin sX9_circuitOf_36 (sem_within_f N hw (by omega) (by omega) g3) (Nat.le_of_ble_eq_true rfl) rfl ?_
        refine ev_if_eq (tgt := 48) (np := 42) dX9_circuitOf_39 (by decide) rfl (by omega) (fun _ => ?_) (fun h => absurd (by omega) h)
        have gate : (10 ≤ w ∧ w ≤ 17) ∨ (20 ≤ w ∧ w ≤ 27) ∨ (30 ≤ w ∧ w ≤ 37) → Ev ST miX9_circuitOf 81 [some (.inr (cX 0)), some (.inl c), some (.inl w), some (.inr (cC (kk c) 0))] [] N (fun v N => v = some (.inl (if (10 ≤ w ∧ w ≤ 17) ∨ (20 ≤ w ∧ w ≤ 27) ∨ (30 ≤ w ∧ w ≤ 37) then
       (if w % 10 < cn (sel c σ) then (if w / 10 = 1 then (ck (sel c σ) (w % 10).toNat : Nat) else if w / 10 = 2 then (cf (sel c σ) (w % 10).toNat : Nat) else (cs (sel c σ) (w % 10).toNat : Nat)) else -1000004)
     else -1000001)) ∧ InvT N σ) := by
          intro g4
          rw [if_pos g4]
          refine ev_aload_n (np := 82) dX9_circuitOf_81 rfl rfl ?_
          refine ev_iload_n (np := 83) dX9_circuitOf_82 rfl rfl ?_
          refine ev_bipush (np := 85) dX9_circuitOf_83 (by decide) rfl ?_
          refine ev_irem (np := 86) dX9_circuitOf_85 (by omega) (by omega) rfl ?_
          refine ev_iload_n (np := 87) dX9_circuitOf_86 rfl rfl ?_
          refine ev_bipush (np := 89) dX9_circuitOf_87 (by decide) rfl ?_
          refine ev_idiv (np := 90) dX9_circuitOf_89 (by omega) (by omega) rfl ?_
          refine ev_Si3 (np := 93) moX9_tellGate sX9_circuitOf_90 (sem_tellGate hC (h.at c) (g := w % 10) (t := w / 10) (by omega) (by omega)) (Nat.le_of_ble_eq_true rfl) rfl ?_
          refine ev_iret dX9_circuitOf_93 rfl ?_
          exact ⟨rfl, h⟩
        refine ev_iload_n (np := 49) dX9_circuitOf_48 rfl rfl ?_
        refine ev_bipush (np := 51) dX9_circuitOf_49 (by decide) rfl ?_
        refine ev_bipush (np := 53) dX9_circuitOf_51 (by decide) rfl ?_
        by_cases g4 : 10 ≤ w ∧ w ≤ 17
        · refine ev_Si3 (np := 56) moX9_isWithin sX9_circuitOf_53 (sem_within_t N hw (by omega) (by omega) g4) (Nat.le_of_ble_eq_true rfl) rfl ?_
          refine ev_if_ne (tgt := 81) (np := 59) dX9_circuitOf_56 (by decide) rfl (by omega) (fun _ => ?_) (fun h => absurd h (by omega))
          exact gate (Or.inl g4)
        · refine ev_Si3 (np := 56) moX9_isWithin sX9_circuitOf_53 (sem_within_f N hw (by omega) (by omega) g4) (Nat.le_of_ble_eq_true rfl) rfl ?_
          refine ev_if_ne (tgt := 81) (np := 59) dX9_circuitOf_56 (by decide) rfl (by omega) (fun h => absurd (by omega) h) (fun _ => ?_)
          refine ev_iload_n (np := 60) dX9_circuitOf_59 rfl rfl ?_
          refine ev_bipush (np := 62) dX9_circuitOf_60 (by decide) rfl ?_
          refine ev_bipush (np := 64) dX9_circuitOf_62 (by decide) rfl ?_
          by_cases g5 : 20 ≤ w ∧ w ≤ 27
          · refine ev_Si3 (np := 67) moX9_isWithin sX9_circuitOf_64 (sem_within_t N hw (by omega) (by omega) g5) (Nat.le_of_ble_eq_true rfl) rfl ?_
            refine ev_if_ne (tgt := 81) (np := 70) dX9_circuitOf_67 (by decide) rfl (by omega) (fun _ => ?_) (fun h => absurd h (by omega))
            exact gate (Or.inr (Or.inl g5))
          · refine ev_Si3 (np := 67) moX9_isWithin sX9_circuitOf_64 (sem_within_f N hw (by omega) (by omega) g5) (Nat.le_of_ble_eq_true rfl) rfl ?_
            refine ev_if_ne (tgt := 81) (np := 70) dX9_circuitOf_67 (by decide) rfl (by omega) (fun h => absurd (by omega) h) (fun _ => ?_)
            refine ev_iload_n (np := 71) dX9_circuitOf_70 rfl rfl ?_
            refine ev_bipush (np := 73) dX9_circuitOf_71 (by decide) rfl ?_
            refine ev_bipush (np := 75) dX9_circuitOf_73 (by decide) rfl ?_
            by_cases g6 : 30 ≤ w ∧ w ≤ 37
            · refine ev_Si3 (np := 78) moX9_isWithin sX9_circuitOf_75 (sem_within_t N hw (by omega) (by omega) g6) (Nat.le_of_ble_eq_true rfl) rfl ?_
              refine ev_if_eq (tgt := 94) (np := 81) dX9_circuitOf_78 (by decide) rfl (by omega) (fun h => absurd h (by omega)) (fun _ => ?_)
              exact gate (Or.inr (Or.inr g6))
            · refine ev_Si3 (np := 78) moX9_isWithin sX9_circuitOf_75 (sem_within_f N hw (by omega) (by omega) g6) (Nat.le_of_ble_eq_true rfl) rfl ?_
              refine ev_if_eq (tgt := 94) (np := 81) dX9_circuitOf_78 (by decide) rfl (by omega) (fun _ => ?_) (fun h => absurd (by omega) h)
              refine ev_ldc (np := 96) sX9_circuitOf_94 rfl ?_
              refine ev_iret dX9_circuitOf_96 rfl ?_
              refine ⟨?_, h⟩
              rw [if_neg (by omega)]
  · rw [if_neg g1]
    refine ev_Si1 (np := 4) moX9_isCircuit sX9_circuitOf_1 (sem_isC_f M hc g1) (Nat.le_of_ble_eq_true rfl) rfl ?_
    refine ev_if_ne (tgt := 10) (np := 7) dX9_circuitOf_4 (by decide) rfl (by omega) (fun h => absurd (by omega) h) (fun _ => ?_)
    refine ev_ldc (np := 9) sX9_circuitOf_7 rfl ?_
    refine ev_iret dX9_circuitOf_9 rfl ?_
    exact ⟨rfl, h⟩
