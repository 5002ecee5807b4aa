/-! THE CLASS'S CALLS -/
theorem InvT.keep {M N : Mem} {σ : Sg} (h : InvT M σ) (hh : HistT N (rec1 σ).2.2.1) (f : Fx (uX 22 25) M N) : InvT N (rec1 σ) := by
  obtain ⟨a, b, c, d, e⟩ := h
  exact ⟨f.circ (fun o => rfl) a, f.circ (fun o => rfl) b, hh, f.txt rfl rfl d, fun q hq => by rw [f (cX 16) rfl]; exact e q hq⟩
theorem InvT.put {M N : Mem} {σ : Sg} (h : InvT M σ) {c : Int} {C : Circ} (hC : CircT N (kk c) C) (f : Fr (kk c) M N) : InvT N (put c C σ) := by
  obtain ⟨a, b, x, d, e⟩ := h
  have g := f.fx
  unfold kk at hC f g
  unfold _root_.Jvm.Pilot.@@N@@.put
  by_cases h0 : c = 0
  · rw [if_pos h0] at hC f g ⊢
    exact ⟨hC, g.circ (fun o => rfl) b, g.hist rfl rfl x, g.txt rfl rfl d, fun q hq => by rw [g (cX 16) rfl]; exact e q hq⟩
  · rw [if_neg h0] at hC f g ⊢
    exact ⟨g.circ (fun o => rfl) a, hC, g.hist rfl rfl x, g.txt rfl rfl d, fun q hq => by rw [g (cX 16) rfl]; exact e q hq⟩
theorem sel_rec (c : Int) (σ : Sg) : sel c (rec1 σ) = sel c σ := by unfold sel rec1; rfl
theorem kk_ne (c : Int) (h : 0 ≤ c ∧ c ≤ 1) : kk (1 - c) ≠ kk c ∧ kk c ≠ kk (1 - c) ∧ kk c ≠ 2 ∧ (3 : Fin 4) ≠ kk c := by
  rcases (show c = 0 ∨ c = 1 by omega) with rfl | rfl <;> decide
theorem sem_at (M : Mem) {c : Int} (h : 0 ≤ c ∧ c ≤ 1) : Sem ST miX9_circuitAt [.inr (cX 0), .inl c] M (fun v N => v = some (.inr (cC (kk c) 0)) ∧ N = M) := by
  rcases (show c = 0 ∨ c = 1 by omega) with rfl | rfl
  · exact sem_at0 M
  · exact sem_at1 M
theorem sem_keepA {M : Mem} {σ : Sg} (hW : SgW σ) (h : InvT M σ) : Sem ST miX2_keep [.inr (cX 22), .inr (cC 0 0), .inr (cC 1 0)] M (fun v N => v = none ∧ InvT N (rec1 σ)) :=
  (sem_keep hW.2.2.1 hW.1 hW.2.1 h.2.2.1 h.1 h.2.1).imp (fun v N ⟨a, b, c⟩ => ⟨a, h.keep b c⟩)
theorem sem_gate {M : Mem} {σ : Sg} (hW : SgW σ) (h : InvT M σ) {c g k a b : Int} (hc : Rng c) (hg : Rng g) (hk : Rng k) (ha : Rng a) (hb : Rng b) : Sem ST miX9_gate [.inr (cX 0), .inl c, .inl g, .inl k, .inl a, .inl b] M (fun v N => v = some (.inl (spGate σ c g k a b).1) ∧ InvT N (spGate σ c g k a b).2) := by
  refine Sem.of (by decide) ST_ok (Nat.le_of_ble_eq_true rfl) (ls0 := [some (.inr (cX 0)), some (.inl c), some (.inl g), some (.inl k), some (.inl a), some (.inl b), none]) rfl ?_
  have hs := sel_w hW c
  have hn := hs.1
  have bad : ¬ ((0 ≤ c ∧ c ≤ 1) ∧ (0 ≤ k ∧ k ≤ 5) ∧ (0 ≤ g ∧ g ≤ cn (sel c σ)) ∧ FdI g a = true ∧ FdI g b = true) → (-1000001, σ) = spGate σ c g k a b := fun hh => by rw [spGate, if_neg hh]
  refine ev_iload_n (np := 1) dX9_gate_0 rfl rfl ?_
  by_cases g1 : 0 ≤ c ∧ c ≤ 1
  · refine ev_Si1 (np := 4) moX9_isCircuit sX9_gate_1 (sem_isC_t M hc g1) (Nat.le_of_ble_eq_true rfl) rfl ?_
    refine ev_if_eq (tgt := 16) (np := 7) dX9_gate_4 (by decide) rfl (by omega) (fun h => absurd h (by omega)) (fun _ => ?_)
    refine ev_iload_n (np := 8) dX9_gate_7 rfl rfl ?_
    refine ev_iconst (np := 9) dX9_gate_8 rfl ?_
    refine ev_iconst (np := 10) dX9_gate_9 rfl ?_
    by_cases g2 : 0 ≤ k ∧ k ≤ 5
    · refine ev_Si3 (np := 13) moX9_isWithin sX9_gate_10 (sem_within_t M hk (by omega) (by omega) g2) (Nat.le_of_ble_eq_true rfl) rfl ?_
      refine ev_if_ne (tgt := 19) (np := 16) dX9_gate_13 (by decide) rfl (by omega) (fun _ => ?_) (fun h => absurd h (by omega))
      refine ev_aload_n (np := 20) dX9_gate_19 rfl rfl ?_
      refine ev_iload_n (np := 21) dX9_gate_20 rfl rfl ?_
      refine ev_V1 (np := 24) moX9_circuitAt sX9_gate_21 (sem_at M g1 ) rfl rfl (Nat.le_of_ble_eq_true rfl) rfl (fun v N hq => ?_)
      obtain ⟨rfl, rfl⟩ := hq
      refine ev_astore (np := 26) dX9_gate_24 (by decide) rfl ?_
      refine ev_iload_n (np := 27) dX9_gate_26 rfl rfl ?_
      refine ev_iconst (np := 28) dX9_gate_27 rfl ?_
      refine ev_aload (np := 30) dX9_gate_28 rfl rfl ?_
      refine ev_Vi0 (np := 33) moX1_gateCount sX9_gate_30 (sem_gateCount N (kk c)) rfl rfl (Nat.le_of_ble_eq_true rfl) rfl ?_
      rw [(h.at c).n]
      by_cases g3 : 0 ≤ g ∧ g ≤ cn (sel c σ)
      · refine ev_Si3 (np := 36) moX9_isWithin sX9_gate_33 (sem_within_t N hg (by omega) (by omega) g3) (Nat.le_of_ble_eq_true rfl) rfl ?_
        refine ev_if_eq (tgt := 57) (np := 39) dX9_gate_36 (by decide) rfl (by omega) (fun h => absurd h (by omega)) (fun _ => ?_)
        refine ev_iload_n (np := 40) dX9_gate_39 rfl rfl ?_
        refine ev_iload (np := 42) dX9_gate_40 rfl rfl ?_
        by_cases g4 : FdI g a = true
        · refine ev_Si2 (np := 45) moX9_mayFeed sX9_gate_42 (sem_feed_t N (by omega) ha (FdI_iff.mp g4)) (Nat.le_of_ble_eq_true rfl) rfl ?_
          refine ev_if_eq (tgt := 57) (np := 48) dX9_gate_45 (by decide) rfl (by omega) (fun h => absurd h (by omega)) (fun _ => ?_)
          refine ev_iload_n (np := 49) dX9_gate_48 rfl rfl ?_
          refine ev_iload (np := 51) dX9_gate_49 rfl rfl ?_
          by_cases g5 : FdI g b = true
          · refine ev_Si2 (np := 54) moX9_mayFeed sX9_gate_51 (sem_feed_t N (by omega) hb (FdI_iff.mp g5)) (Nat.le_of_ble_eq_true rfl) rfl ?_
            refine ev_if_ne (tgt := 60) (np := 57) dX9_gate_54 (by decide) rfl (by omega) (fun _ => ?_) (fun h => absurd h (by omega))
            refine ev_iload_n (np := 61) dX9_gate_60 rfl rfl ?_
            refine ev_bipush (np := 63) dX9_gate_61 (by decide) rfl ?_
            have ok : (0 ≤ c ∧ c ≤ 1) ∧ (0 ≤ k ∧ k ≤ 5) ∧ (0 ≤ g ∧ g ≤ cn (sel c σ)) ∧ FdI g a = true ∧ FdI g b = true := ⟨g1, g2, g3, g4, g5⟩
            unfold spGate
            rw [if_pos ok]
            refine ev_icmp_lt (tgt := 69) (np := 66) dX9_gate_63 (by decide) rfl (by omega) (by omega) (fun g6 => ?_) (fun g6 => ?_)
            · refine ev_aload_n (np := 70) dX9_gate_69 rfl rfl ?_
              refine ev_getR (np := 73) sX9_gate_70 rfl rfl rfl ?_
              refine ev_aload_n (np := 74) dX9_gate_73 rfl rfl ?_
              refine ev_getR (np := 77) sX9_gate_74 rfl rfl rfl ?_
              refine ev_aload_n (np := 78) dX9_gate_77 rfl rfl ?_
              refine ev_getR (np := 81) sX9_gate_78 rfl rfl rfl ?_
              refine ev_V2 (np := 84) moX2_keep sX9_gate_81 (sem_keepA hW h ) rfl rfl (Nat.le_of_ble_eq_true rfl) rfl (fun v N2 hq => ?_)
              obtain ⟨rfl, i2⟩ := hq
              have c2 := i2.at c
              rw [sel_rec] at c2
              obtain ⟨fa, a0⟩ := Feed_n g3.1 (FdI_iff.mp g4)
              obtain ⟨fb, b0⟩ := Feed_n g3.1 (FdI_iff.mp g5)
              have la := fa.lt (by omega)
              have lb := fb.lt (by omega)
              rw [if_neg (by omega)]
              obtain ⟨G, rfl⟩ := Int.eq_ofNat_of_zero_le g3.1
              obtain ⟨K, rfl⟩ := Int.eq_ofNat_of_zero_le g2.1
              obtain ⟨A, rfl⟩ := Int.eq_ofNat_of_zero_le a0
              obtain ⟨B, rfl⟩ := Int.eq_ofNat_of_zero_le b0
              rw [Int.toNat_natCast, Int.toNat_natCast, Int.toNat_natCast, Int.toNat_natCast] at *
              refine ev_aload (np := 86) dX9_gate_84 rfl rfl ?_
              refine ev_iload_n (np := 87) dX9_gate_86 rfl rfl ?_
              refine ev_iload_n (np := 88) dX9_gate_87 rfl rfl ?_
              refine ev_iload (np := 90) dX9_gate_88 rfl rfl ?_
              refine ev_iload (np := 92) dX9_gate_90 rfl rfl ?_
              refine ev_V4 (np := 95) moX1_setGate sX9_gate_92 (sem_setGate hs c2 (g := G) (a := K) (b := A) (c := B) (by omega) (by omega) (by omega) la lb ) rfl rfl (Nat.le_of_ble_eq_true rfl) rfl (fun v N3 hq => ?_)
              obtain ⟨rfl, c3, f3⟩ := hq
              refine ev_aload (np := 97) dX9_gate_95 rfl rfl ?_
              refine ev_Vi0 (np := 100) moX1_gateCount sX9_gate_97 (sem_gateCount N3 (kk c)) rfl rfl (Nat.le_of_ble_eq_true rfl) rfl ?_
              rw [c3.n]
              refine ev_iret dX9_gate_100 rfl ?_
              exact ⟨rfl, i2.put c3 f3⟩
            · refine ev_ldc (np := 68) sX9_gate_66 rfl ?_
              refine ev_iret dX9_gate_68 rfl ?_
              rw [if_pos (by omega)]
              exact ⟨rfl, h⟩
          · refine ev_Si2 (np := 54) moX9_mayFeed sX9_gate_51 (sem_feed_f N (by omega) hb (fun q => g5 (FdI_iff.mpr q))) (Nat.le_of_ble_eq_true rfl) rfl ?_
            refine ev_if_ne (tgt := 60) (np := 57) dX9_gate_54 (by decide) rfl (by omega) (fun h => absurd (by omega) h) (fun _ => ?_)
            refine ev_ldc (np := 59) sX9_gate_57 rfl ?_
            refine ev_iret dX9_gate_59 rfl ?_
            rw [← bad (fun q => g5 q.2.2.2.2)]
            exact ⟨rfl, h⟩
        · refine ev_Si2 (np := 45) moX9_mayFeed sX9_gate_42 (sem_feed_f N (by omega) ha (fun q => g4 (FdI_iff.mpr q))) (Nat.le_of_ble_eq_true rfl) rfl ?_
          refine ev_if_eq (tgt := 57) (np := 48) dX9_gate_45 (by decide) rfl (by omega) (fun _ => ?_) (fun h => absurd (by omega) h)
          refine ev_ldc (np := 59) sX9_gate_57 rfl ?_
          refine ev_iret dX9_gate_59 rfl ?_
          rw [← bad (fun q => g4 q.2.2.2.1)]
          exact ⟨rfl, h⟩
      · refine ev_Si3 (np := 36) moX9_isWithin sX9_gate_33 (sem_within_f N hg (by omega) (by omega) g3) (Nat.le_of_ble_eq_true rfl) rfl ?_
        refine ev_if_eq (tgt := 57) (np := 39) dX9_gate_36 (by decide) rfl (by omega) (fun _ => ?_) (fun h => absurd (by omega) h)
        refine ev_ldc (np := 59) sX9_gate_57 rfl ?_
        refine ev_iret dX9_gate_59 rfl ?_
        rw [← bad (fun q => g3 q.2.2.1)]
        exact ⟨rfl, h⟩
    · refine ev_Si3 (np := 13) moX9_isWithin sX9_gate_10 (sem_within_f M hk (by omega) (by omega) g2) (Nat.le_of_ble_eq_true rfl) rfl ?_
      refine ev_if_ne (tgt := 19) (np := 16) dX9_gate_13 (by decide) rfl (by omega) (fun h => absurd (by omega) h) (fun _ => ?_)
      refine ev_ldc (np := 18) sX9_gate_16 rfl ?_
      refine ev_iret dX9_gate_18 rfl ?_
      rw [← bad (fun q => g2 q.2.1)]
      exact ⟨rfl, h⟩
  · refine ev_Si1 (np := 4) moX9_isCircuit sX9_gate_1 (sem_isC_f M hc g1) (Nat.le_of_ble_eq_true rfl) rfl ?_
    refine ev_if_eq (tgt := 16) (np := 7) dX9_gate_4 (by decide) rfl (by omega) (fun _ => ?_) (fun h => absurd (by omega) h)
    refine ev_ldc (np := 18) sX9_gate_16 rfl ?_
    refine ev_iret dX9_gate_18 rfl ?_
    rw [← bad (fun q => g1 q.1)]
    exact ⟨rfl, h⟩
theorem sem_register {M : Mem} {σ : Sg} (hW : SgW σ) (h : InvT M σ) {c r x b : Int} (hc : Rng c) (hr : Rng r) (hx : Rng x) (hb : Rng b) : Sem ST miX9_register [.inr (cX 0), .inl c, .inl r, .inl x, .inl b] M (fun v N => v = some (.inl (spReg σ c r x b).1) ∧ InvT N (spReg σ c r x b).2) := by
  refine Sem.of (by decide) ST_ok (Nat.le_of_ble_eq_true rfl) (ls0 := [some (.inr (cX 0)), some (.inl c), some (.inl r), some (.inl x), some (.inl b), none, none]) rfl ?_
  have hs := sel_w hW c
  have bad : ¬ ((0 ≤ c ∧ c ≤ 1) ∧ (0 ≤ r ∧ r ≤ 3) ∧ (0 ≤ x ∧ x ≤ 15) ∧ (0 ≤ b ∧ b ≤ 1)) → Ev ST miX9_register 31 [some (.inr (cX 0)), some (.inl c), some (.inl r), some (.inl x), some (.inl b), none, none] [] M (fun v N => v = some (.inl (spReg σ c r x b).1) ∧ InvT N (spReg σ c r x b).2) := by
    intro hh
    refine ev_ldc (np := 33) sX9_register_31 rfl ?_
    refine ev_iret dX9_register_33 rfl ?_
    rw [spReg, if_neg hh]
    exact ⟨rfl, h⟩
  refine ev_iload_n (np := 1) dX9_register_0 rfl rfl ?_
  by_cases g1 : 0 ≤ c ∧ c ≤ 1
  · refine ev_Si1 (np := 4) moX9_isCircuit sX9_register_1 (sem_isC_t M hc g1) (Nat.le_of_ble_eq_true rfl) rfl ?_
    refine ev_if_eq (tgt := 31) (np := 7) dX9_register_4 (by decide) rfl (by omega) (fun h => absurd h (by omega)) (fun _ => ?_)
    refine ev_iload_n (np := 8) dX9_register_7 rfl rfl ?_
    by_cases g2 : 0 ≤ r ∧ r ≤ 3
    · refine ev_Si1 (np := 11) moX9_isRegister sX9_register_8 (sem_isReg_t M hr g2) (Nat.le_of_ble_eq_true rfl) rfl ?_
      refine ev_if_eq (tgt := 31) (np := 14) dX9_register_11 (by decide) rfl (by omega) (fun h => absurd h (by omega)) (fun _ => ?_)
      refine ev_iload_n (np := 15) dX9_register_14 rfl rfl ?_
      by_cases g3 : 0 ≤ x ∧ x ≤ 15
      · refine ev_Si1 (np := 18) moX9_isWire sX9_register_15 (sem_isWire_t M hx g3) (Nat.le_of_ble_eq_true rfl) rfl ?_
        refine ev_if_eq (tgt := 31) (np := 21) dX9_register_18 (by decide) rfl (by omega) (fun h => absurd h (by omega)) (fun _ => ?_)
        refine ev_iload (np := 23) dX9_register_21 rfl rfl ?_
        refine ev_iconst (np := 24) dX9_register_23 rfl ?_
        refine ev_iconst (np := 25) dX9_register_24 rfl ?_
        by_cases g4 : 0 ≤ b ∧ b ≤ 1
        · refine ev_Si3 (np := 28) moX9_isWithin sX9_register_25 (sem_within_t M hb (by omega) (by omega) g4) (Nat.le_of_ble_eq_true rfl) rfl ?_
          refine ev_if_ne (tgt := 34) (np := 31) dX9_register_28 (by decide) rfl (by omega) (fun _ => ?_) (fun h => absurd h (by omega))
          unfold spReg
          rw [if_pos ⟨g1, g2, g3, g4⟩]
          obtain ⟨R, rfl⟩ := Int.eq_ofNat_of_zero_le g2.1
          obtain ⟨X, rfl⟩ := Int.eq_ofNat_of_zero_le g3.1
          obtain ⟨B, rfl⟩ := Int.eq_ofNat_of_zero_le g4.1
          rw [Int.toNat_natCast, Int.toNat_natCast, Int.toNat_natCast]
          refine ev_aload_n (np := 35) dX9_register_34 rfl rfl ?_
          refine ev_iload_n (np := 36) dX9_register_35 rfl rfl ?_
          refine ev_V1 (np := 39) moX9_circuitAt sX9_register_36 (sem_at M g1 ) rfl rfl (Nat.le_of_ble_eq_true rfl) rfl (fun v N hq => ?_)
          obtain ⟨rfl, rfl⟩ := hq
          refine ev_astore (np := 41) dX9_register_39 (by decide) rfl ?_
          refine ev_iconst (np := 42) dX9_register_41 rfl ?_
          refine ev_aload (np := 44) dX9_register_42 rfl rfl ?_
          refine ev_iload_n (np := 45) dX9_register_44 rfl rfl ?_
          refine ev_Vi1 (np := 48) moX1_nextWire sX9_register_45 (sem_nextWire hs (h.at c) (r := R) (by omega)) rfl rfl (Nat.le_of_ble_eq_true rfl) rfl ?_
          refine ev_imul (np := 49) dX9_register_48 rfl ?_
          refine ev_aload (np := 51) dX9_register_49 rfl rfl ?_
          refine ev_iload_n (np := 52) dX9_register_51 rfl rfl ?_
          refine ev_Vi1 (np := 55) moX1_firstBit sX9_register_52 (sem_firstBit hs (h.at c) (r := R) (by omega)) rfl rfl (Nat.le_of_ble_eq_true rfl) rfl ?_
          refine ev_iadd (np := 56) dX9_register_55 rfl ?_
          refine ev_istore (np := 58) dX9_register_56 (by decide) rfl ?_
          refine ev_aload_n (np := 59) dX9_register_58 rfl rfl ?_
          refine ev_getR (np := 62) sX9_register_59 rfl rfl rfl ?_
          refine ev_aload_n (np := 63) dX9_register_62 rfl rfl ?_
          refine ev_getR (np := 66) sX9_register_63 rfl rfl rfl ?_
          refine ev_aload_n (np := 67) dX9_register_66 rfl rfl ?_
          refine ev_getR (np := 70) sX9_register_67 rfl rfl rfl ?_
          refine ev_V2 (np := 73) moX2_keep sX9_register_70 (sem_keepA hW h ) rfl rfl (Nat.le_of_ble_eq_true rfl) rfl (fun v N2 hq => ?_)
          obtain ⟨rfl, i2⟩ := hq
          have c2 := i2.at c
          rw [sel_rec] at c2
          refine ev_aload (np := 75) dX9_register_73 rfl rfl ?_
          refine ev_iload_n (np := 76) dX9_register_75 rfl rfl ?_
          refine ev_iload_n (np := 77) dX9_register_76 rfl rfl ?_
          refine ev_iload (np := 79) dX9_register_77 rfl rfl ?_
          refine ev_V3 (np := 82) moX1_setRegister sX9_register_79 (sem_setReg c2 (r := R) (x := X) (b := B) (by omega) ) rfl rfl (Nat.le_of_ble_eq_true rfl) rfl (fun v N3 hq => ?_)
          obtain ⟨rfl, c3, f3⟩ := hq
          refine ev_iload (np := 84) dX9_register_82 rfl rfl ?_
          rw [show (2 : Int) * (cx (sel c σ) R : Int) + (cb (sel c σ) R : Int) = ((2 * cx (sel c σ) R + cb (sel c σ) R : Nat) : Int) by omega]
          refine ev_iret dX9_register_84 rfl ?_
          exact ⟨rfl, i2.put c3 f3⟩
        · refine ev_Si3 (np := 28) moX9_isWithin sX9_register_25 (sem_within_f M hb (by omega) (by omega) g4) (Nat.le_of_ble_eq_true rfl) rfl ?_
          refine ev_if_ne (tgt := 34) (np := 31) dX9_register_28 (by decide) rfl (by omega) (fun h => absurd (by omega) h) (fun _ => ?_)
          exact bad (fun q => g4 q.2.2.2)
      · refine ev_Si1 (np := 18) moX9_isWire sX9_register_15 (sem_isWire_f M hx g3) (Nat.le_of_ble_eq_true rfl) rfl ?_
        refine ev_if_eq (tgt := 31) (np := 21) dX9_register_18 (by decide) rfl (by omega) (fun _ => ?_) (fun h => absurd (by omega) h)
        exact bad (fun q => g3 q.2.2.1)
    · refine ev_Si1 (np := 11) moX9_isRegister sX9_register_8 (sem_isReg_f M hr g2) (Nat.le_of_ble_eq_true rfl) rfl ?_
      refine ev_if_eq (tgt := 31) (np := 14) dX9_register_11 (by decide) rfl (by omega) (fun _ => ?_) (fun h => absurd (by omega) h)
      exact bad (fun q => g2 q.2.1)
  · refine ev_Si1 (np := 4) moX9_isCircuit sX9_register_1 (sem_isC_f M hc g1) (Nat.le_of_ble_eq_true rfl) rfl ?_
    refine ev_if_eq (tgt := 31) (np := 7) dX9_register_4 (by decide) rfl (by omega) (fun _ => ?_) (fun h => absurd (by omega) h)
    exact bad (fun q => g1 q.1)
theorem sem_output {M : Mem} {σ : Sg} (hW : SgW σ) (h : InvT M σ) {c w : Int} (hc : Rng c) (hw : Rng w) : Sem ST miX9_output [.inr (cX 0), .inl c, .inl w] M (fun v N => v = some (.inl (spOut σ c w).1) ∧ InvT N (spOut σ c w).2) := by
  refine Sem.of (by decide) ST_ok (Nat.le_of_ble_eq_true rfl) (ls0 := [some (.inr (cX 0)), some (.inl c), some (.inl w), none, none]) rfl ?_
  have hs := sel_w hW c
  have bad : ¬ ((0 ≤ c ∧ c ≤ 1) ∧ (0 ≤ w ∧ w ≤ 15)) → Ev ST miX9_output 14 [some (.inr (cX 0)), some (.inl c), some (.inl w), none, none] [] M (fun v N => v = some (.inl (spOut σ c w).1) ∧ InvT N (spOut σ c w).2) := by
    intro hh
    refine ev_ldc (np := 16) sX9_output_14 rfl ?_
    refine ev_iret dX9_output_16 rfl ?_
    rw [spOut, if_neg hh]
    exact ⟨rfl, h⟩
  refine ev_iload_n (np := 1) dX9_output_0 rfl rfl ?_
  by_cases g1 : 0 ≤ c ∧ c ≤ 1
  · refine ev_Si1 (np := 4) moX9_isCircuit sX9_output_1 (sem_isC_t M hc g1) (Nat.le_of_ble_eq_true rfl) rfl ?_
    refine ev_if_eq (tgt := 14) (np := 7) dX9_output_4 (by decide) rfl (by omega) (fun h => absurd h (by omega)) (fun _ => ?_)
    refine ev_iload_n (np := 8) dX9_output_7 rfl rfl ?_
    by_cases g2 : 0 ≤ w ∧ w ≤ 15
    · refine ev_Si1 (np := 11) moX9_isWire sX9_output_8 (sem_isWire_t M hw g2) (Nat.le_of_ble_eq_true rfl) rfl ?_
      refine ev_if_ne (tgt := 17) (np := 14) dX9_output_11 (by decide) rfl (by omega) (fun _ => ?_) (fun h => absurd h (by omega))
      unfold spOut
      rw [if_pos ⟨g1, g2⟩]
      obtain ⟨W1, rfl⟩ := Int.eq_ofNat_of_zero_le g2.1
      rw [Int.toNat_natCast]
      refine ev_aload_n (np := 18) dX9_output_17 rfl rfl ?_
      refine ev_iload_n (np := 19) dX9_output_18 rfl rfl ?_
      refine ev_V1 (np := 22) moX9_circuitAt sX9_output_19 (sem_at M g1 ) rfl rfl (Nat.le_of_ble_eq_true rfl) rfl (fun v N hq => ?_)
      obtain ⟨rfl, rfl⟩ := hq
      refine ev_astore_n (np := 23) dX9_output_22 (by decide) rfl ?_
      refine ev_aload_n (np := 24) dX9_output_23 rfl rfl ?_
      refine ev_Vi0 (np := 27) moX1_outputWire sX9_output_24 (sem_outputWire N (kk c)) rfl rfl (Nat.le_of_ble_eq_true rfl) rfl ?_
      rw [(h.at c).o]
      refine ev_istore (np := 29) dX9_output_27 (by decide) rfl ?_
      refine ev_aload_n (np := 30) dX9_output_29 rfl rfl ?_
      refine ev_getR (np := 33) sX9_output_30 rfl rfl rfl ?_
      refine ev_aload_n (np := 34) dX9_output_33 rfl rfl ?_
      refine ev_getR (np := 37) sX9_output_34 rfl rfl rfl ?_
      refine ev_aload_n (np := 38) dX9_output_37 rfl rfl ?_
      refine ev_getR (np := 41) sX9_output_38 rfl rfl rfl ?_
      refine ev_V2 (np := 44) moX2_keep sX9_output_41 (sem_keepA hW h ) rfl rfl (Nat.le_of_ble_eq_true rfl) rfl (fun v N2 hq => ?_)
      obtain ⟨rfl, i2⟩ := hq
      have c2 := i2.at c
      rw [sel_rec] at c2
      refine ev_aload_n (np := 45) dX9_output_44 rfl rfl ?_
      refine ev_iload_n (np := 46) dX9_output_45 rfl rfl ?_
      refine ev_V1 (np := 49) moX1_setOutputWire sX9_output_46 (sem_setOut c2 (w := W1) ) rfl rfl (Nat.le_of_ble_eq_true rfl) rfl (fun v N3 hq => ?_)
      obtain ⟨rfl, c3, f3⟩ := hq
      refine ev_iload (np := 51) dX9_output_49 rfl rfl ?_
      refine ev_iret dX9_output_51 rfl ?_
      exact ⟨rfl, i2.put c3 f3⟩
    · refine ev_Si1 (np := 11) moX9_isWire sX9_output_8 (sem_isWire_f M hw g2) (Nat.le_of_ble_eq_true rfl) rfl ?_
      refine ev_if_ne (tgt := 17) (np := 14) dX9_output_11 (by decide) rfl (by omega) (fun h => absurd (by omega) h) (fun _ => ?_)
      exact bad (fun q => g2 q.2)
  · refine ev_Si1 (np := 4) moX9_isCircuit sX9_output_1 (sem_isC_f M hc g1) (Nat.le_of_ble_eq_true rfl) rfl ?_
    refine ev_if_eq (tgt := 14) (np := 7) dX9_output_4 (by decide) rfl (by omega) (fun _ => ?_) (fun h => absurd (by omega) h)
    exact bad (fun q => g1 q.1)
theorem sem_copy {M : Mem} {σ : Sg} (hW : SgW σ) (h : InvT M σ) {c : Int} (hc : Rng c) : Sem ST miX9_copy [.inr (cX 0), .inl c] M (fun v N => v = some (.inl (spCopy σ c).1) ∧ InvT N (spCopy σ c).2) := by
  refine Sem.of (by decide) ST_ok (Nat.le_of_ble_eq_true rfl) (ls0 := [some (.inr (cX 0)), some (.inl c), none]) rfl ?_
  have hs := sel_w hW c
  unfold spCopy
  refine ev_iload_n (np := 1) dX9_copy_0 rfl rfl ?_
  by_cases g1 : 0 ≤ c ∧ c ≤ 1
  · rw [if_pos g1]
    obtain ⟨n1, n2, -, -⟩ := kk_ne c g1
    refine ev_Si1 (np := 4) moX9_isCircuit sX9_copy_1 (sem_isC_t M hc g1) (Nat.le_of_ble_eq_true rfl) rfl ?_
    refine ev_if_ne (tgt := 10) (np := 7) dX9_copy_4 (by decide) rfl (by omega) (fun _ => ?_) (fun h => absurd h (by omega))
    refine ev_aload_n (np := 11) dX9_copy_10 rfl rfl ?_
    refine ev_iload_n (np := 12) dX9_copy_11 rfl rfl ?_
    refine ev_V1 (np := 15) moX9_circuitAt sX9_copy_12 (sem_at M g1 ) rfl rfl (Nat.le_of_ble_eq_true rfl) rfl (fun v N hq => ?_)
    obtain ⟨rfl, rfl⟩ := hq
    refine ev_astore_n (np := 16) dX9_copy_15 (by decide) rfl ?_
    refine ev_aload_n (np := 17) dX9_copy_16 rfl rfl ?_
    refine ev_getR (np := 20) sX9_copy_17 rfl rfl rfl ?_
    refine ev_aload_n (np := 21) dX9_copy_20 rfl rfl ?_
    refine ev_getR (np := 24) sX9_copy_21 rfl rfl rfl ?_
    refine ev_aload_n (np := 25) dX9_copy_24 rfl rfl ?_
    refine ev_getR (np := 28) sX9_copy_25 rfl rfl rfl ?_
    refine ev_V2 (np := 31) moX2_keep sX9_copy_28 (sem_keepA hW h ) rfl rfl (Nat.le_of_ble_eq_true rfl) rfl (fun v N2 hq => ?_)
    obtain ⟨rfl, i2⟩ := hq
    have c2 := i2.at c
    rw [sel_rec] at c2
    refine ev_aload_n (np := 32) dX9_copy_31 rfl rfl ?_
    refine ev_iconst (np := 33) dX9_copy_32 rfl ?_
    refine ev_iload_n (np := 34) dX9_copy_33 rfl rfl ?_
    refine ev_isub (np := 35) dX9_copy_34 rfl ?_
    refine ev_V1 (np := 38) moX9_circuitAt sX9_copy_35 (sem_at N2 (c := 1 - c) (by omega) ) rfl rfl (Nat.le_of_ble_eq_true rfl) rfl (fun v N3 hq => ?_)
    obtain ⟨rfl, rfl⟩ := hq
    refine ev_aload_n (np := 39) dX9_copy_38 rfl rfl ?_
    refine ev_V1 (np := 42) moX1_takeFrom sX9_copy_39 (sem_takeFrom n2 N3 ) rfl rfl (Nat.le_of_ble_eq_true rfl) rfl (fun v N4 hq => ?_)
    obtain ⟨rfl, t4⟩ := hq
    refine ev_aload_n (np := 43) dX9_copy_42 rfl rfl ?_
    refine ev_Vi0 (np := 46) moX1_gateCount sX9_copy_43 (sem_gateCount N4 (kk c)) rfl rfl (Nat.le_of_ble_eq_true rfl) rfl ?_
    have c5 : CircT N4 (kk c) (sel c σ) := by
      show CircS (scell N4 (kk c)) _
      rw [t4.2.sc n2]
      exact c2
    rw [c5.n]
    refine ev_iret dX9_copy_46 rfl ?_
    exact ⟨rfl, i2.put (t4.circ hs c2) t4.2⟩
  · rw [if_neg g1]
    refine ev_Si1 (np := 4) moX9_isCircuit sX9_copy_1 (sem_isC_f M hc g1) (Nat.le_of_ble_eq_true rfl) rfl ?_
    refine ev_if_ne (tgt := 10) (np := 7) dX9_copy_4 (by decide) rfl (by omega) (fun h => absurd (by omega) h) (fun _ => ?_)
    refine ev_ldc (np := 9) sX9_copy_7 rfl ?_
    refine ev_iret dX9_copy_9 rfl ?_
    exact ⟨rfl, h⟩
