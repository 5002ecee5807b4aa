theorem sem_readReg {M : Mem} {x : Txt} {s : Pst} (hw : XW x) (hx : TxT M x) (hs : PsT M s) (hi : PI x s) : Sem ST miX5_readRegister [.inr (cX 28), .inr (cX 25)] M (fun v N => v = none ∧ PsT N (pReg x s) ∧ Fx uRd M N) := by
  refine Sem.of (by decide) ST_ok (Nat.le_of_ble_eq_true rfl) (ls0 := [some (.inr (cX 28)), some (.inr (cX 25)), none, none, none]) rfl ?_
  obtain ⟨a1, a2, a3, a4⟩ := id hi
  have l1 := hw.1
  have r1 := dgI_rng (chr x (s.1 + 1))
  have r2 := dgI_rng (chr x (s.1 + 2))
  have r3 := dgI_rng (chr x (s.1 + 3))
  have bad : pReg x s = (s.1, 1, s.2.2.1, s.2.2.2) → ∀ u v w : Option Val, Ev ST miX5_readRegister 52 [some (.inr (cX 28)), some (.inr (cX 25)), u, v, w] [] M (fun v N => v = none ∧ PsT N (pReg x s) ∧ Fx uRd M N) := by
    intro e u v w
    refine ev_aload_n (np := 53) dX5_readRegister_52 rfl rfl ?_
    refine ev_iconst (np := 54) dX5_readRegister_53 rfl ?_
    refine ev_put (np := 57) sX5_readRegister_54 rfl rfl rfl ?_
    refine ev_goto (np := 113) dX5_readRegister_57 (by decide) ?_
    refine ev_vret dX5_readRegister_113 rfl ?_
    rw [e]
    have := ps_fault hs 1
    exact ⟨rfl, this.1, this.2⟩
  refine ev_aload_n (np := 1) dX5_readRegister_0 rfl rfl ?_
  refine ev_aload_n (np := 2) dX5_readRegister_1 rfl rfl ?_
  refine ev_iconst (np := 3) dX5_readRegister_2 rfl ?_
  refine ev_Vi2 (np := 6) moX5_digitAt sX5_readRegister_3 (sem_dig hw hx hs a1 (d := 1) (by decide)) rfl rfl (Nat.le_of_ble_eq_true rfl) rfl ?_
  refine ev_istore_n (np := 7) dX5_readRegister_6 (by decide) rfl ?_
  refine ev_aload_n (np := 8) dX5_readRegister_7 rfl rfl ?_
  refine ev_aload_n (np := 9) dX5_readRegister_8 rfl rfl ?_
  refine ev_iconst (np := 10) dX5_readRegister_9 rfl ?_
  refine ev_Vi2 (np := 13) moX5_digitAt sX5_readRegister_10 (sem_dig hw hx hs a1 (d := 2) (by decide)) rfl rfl (Nat.le_of_ble_eq_true rfl) rfl ?_
  refine ev_istore_n (np := 14) dX5_readRegister_13 (by decide) rfl ?_
  refine ev_aload_n (np := 15) dX5_readRegister_14 rfl rfl ?_
  refine ev_aload_n (np := 16) dX5_readRegister_15 rfl rfl ?_
  refine ev_iconst (np := 17) dX5_readRegister_16 rfl ?_
  refine ev_Vi2 (np := 20) moX5_digitAt sX5_readRegister_17 (sem_dig hw hx hs a1 (d := 3) (by decide)) rfl rfl (Nat.le_of_ble_eq_true rfl) rfl ?_
  refine ev_istore (np := 22) dX5_readRegister_20 (by decide) rfl ?_
  refine ev_iload_n (np := 23) dX5_readRegister_22 rfl rfl ?_
  by_cases g1 : 0 ≤ dgI (chr x (s.1 + 1)) ∧ dgI (chr x (s.1 + 1)) ≤ 3
  · refine ev_Ni1 (np := 26) moX9_isRegister sX5_readRegister_23 (sem_isReg_t M (by omega) g1) (Nat.le_of_ble_eq_true rfl) rfl ?_
    refine ev_if_eq (tgt := 52) (np := 29) dX5_readRegister_26 (by decide) rfl (by omega) (fun h => absurd h (by omega)) (fun _ => ?_)
    refine ev_iload_n (np := 30) dX5_readRegister_29 rfl rfl ?_
    refine ev_if_lt (tgt := 52) (np := 33) dX5_readRegister_30 (by decide) rfl (by omega) (fun g2 => ?_) (fun g2 => ?_)
    · exact bad (by rw [pReg, if_neg (fun h => by omega)]) _ _ _
    · refine ev_iload (np := 35) dX5_readRegister_33 rfl rfl ?_
      refine ev_iconst (np := 36) dX5_readRegister_35 rfl ?_
      refine ev_iconst (np := 37) dX5_readRegister_36 rfl ?_
      by_cases g3 : 0 ≤ dgI (chr x (s.1 + 3)) ∧ dgI (chr x (s.1 + 3)) ≤ 1
      · refine ev_Ni3 (np := 40) moX9_isWithin sX5_readRegister_37 (sem_within_t M (by omega) (by omega) (by omega) g3) (Nat.le_of_ble_eq_true rfl) rfl ?_
        refine ev_if_eq (tgt := 52) (np := 43) dX5_readRegister_40 (by decide) rfl (by omega) (fun h => absurd h (by omega)) (fun _ => ?_)
        refine ev_aload_n (np := 44) dX5_readRegister_43 rfl rfl ?_
        refine ev_aload_n (np := 45) dX5_readRegister_44 rfl rfl ?_
        refine ev_iconst (np := 46) dX5_readRegister_45 rfl ?_
        refine ev_Vi2 (np := 49) moX5_partEndsAt sX5_readRegister_46 (sem_ends hw hx hs a1 (d := 4) (by decide)) rfl rfl (Nat.le_of_ble_eq_true rfl) rfl ?_
        by_cases g4 : chr x (s.1 + 4) = 59
        · rw [if_pos g4]
          refine ev_if_ne (tgt := 60) (np := 52) dX5_readRegister_49 (by decide) rfl (by omega) (fun _ => ?_) (fun h => absurd h (by omega))
          have hc : (0 ≤ dgI (chr x (s.1 + 1)) ∧ dgI (chr x (s.1 + 1)) ≤ 3) ∧ 0 ≤ dgI (chr x (s.1 + 2)) ∧ (0 ≤ dgI (chr x (s.1 + 3)) ∧ dgI (chr x (s.1 + 3)) ≤ 1) ∧ chr x (s.1 + 4) = 59 := ⟨g1, by omega, g3, g4⟩
          unfold pReg
          rw [if_pos hc]
          obtain ⟨r, hr⟩ := Int.eq_ofNat_of_zero_le g1.1
          obtain ⟨y, hy⟩ := Int.eq_ofNat_of_zero_le (show 0 ≤ dgI (chr x (s.1 + 2)) by omega)
          obtain ⟨b, hb⟩ := Int.eq_ofNat_of_zero_le g3.1
          rw [hr, hy, hb, Int.toNat_natCast, Int.toNat_natCast, Int.toNat_natCast]
          have hbt := bt_lt s.2.2.1 r
          refine ev_aload_n (np := 61) dX5_readRegister_60 rfl rfl ?_
          refine ev_getI (np := 64) sX5_readRegister_61 rfl rfl rfl ?_
          rw [hs.2.2.1]
          refine ev_iload_n (np := 65) dX5_readRegister_64 rfl rfl ?_
          refine ev_Ni2 (np := 68) moX9_bitOf sX5_readRegister_65 (sem_bit M (b := s.2.2.1) (p := r) (by omega) (by omega)) (Nat.le_of_ble_eq_true rfl) rfl ?_
          refine ev_iconst (np := 69) dX5_readRegister_68 rfl ?_
          refine ev_icmp_ne (tgt := 80) (np := 72) dX5_readRegister_69 (by decide) rfl (by omega) (by omega) (fun g5 => ?_) (fun g5 => ?_)
          · refine ev_aload_n (np := 81) dX5_readRegister_80 rfl rfl ?_
            refine ev_dup (np := 82) dX5_readRegister_81 rfl ?_
            refine ev_getI (np := 85) sX5_readRegister_82 rfl rfl rfl ?_
            rw [hs.2.2.1]
            refine ev_iconst (np := 86) dX5_readRegister_85 rfl ?_
            refine ev_iload_n (np := 87) dX5_readRegister_86 rfl rfl ?_
            refine ev_ishl (np := 88) dX5_readRegister_87 (by omega) rfl ?_
            refine ev_ior (np := 89) dX5_readRegister_88 (by omega) (Int.mul_nonneg (by omega) (Int.natCast_nonneg _)) rfl ?_
            rw [Int.toNat_natCast r, Int.one_mul, Int.toNat_natCast, Int.toNat_natCast]
            refine ev_put (np := 92) sX5_readRegister_89 rfl rfl rfl ?_
            refine ev_aload_n (np := 93) dX5_readRegister_92 rfl rfl ?_
            refine ev_getR (np := 96) sX5_readRegister_93 rfl rfl rfl ?_
            refine ev_iload_n (np := 97) dX5_readRegister_96 rfl rfl ?_
            refine ev_iload_n (np := 98) dX5_readRegister_97 rfl rfl ?_
            refine ev_iload (np := 100) dX5_readRegister_98 rfl rfl ?_
            generalize hN1 : updM M (cX 28) 3 ((s.2.2.1 ||| 2 ^ r : Nat) : Int) = N1
            have f1 : Fx uRd M N1 := by rw [← hN1]; exact Fx.upd rfl
            have c1 : CircT N1 3 s.2.2.2 := by rw [← hN1]; exact (Fx.upd (U := uX 28 29) rfl).circ (fun o => rfl) hs.2.2.2
            refine ev_V3 (np := 103) moX1_setRegister sX5_readRegister_100 (sem_setReg c1 (r := r) (x := y) (b := b) (by omega) ) rfl rfl (Nat.le_of_ble_eq_true rfl) rfl (fun v N2 hq => ?_)
            obtain ⟨rfl, c2, f2⟩ := hq
            refine ev_aload_n (np := 104) dX5_readRegister_103 rfl rfl ?_
            refine ev_dup (np := 105) dX5_readRegister_104 rfl ?_
            refine ev_getI (np := 108) sX5_readRegister_105 rfl rfl rfl ?_
            rw [f2 _ (fun o e => by cases e), show N1 (cX 28) 1 = (s.1 : Int) by rw [← hN1, ← hs.1]; simp [updM]]
            refine ev_iconst (np := 109) dX5_readRegister_108 rfl ?_
            refine ev_iadd (np := 110) dX5_readRegister_109 rfl ?_
            refine ev_put (np := 113) sX5_readRegister_110 rfl rfl rfl ?_
            refine ev_vret dX5_readRegister_113 rfl ?_
            rw [if_neg (by omega)]
            refine ⟨rfl, ⟨updM_same _ _ _ _, ?_, ?_, ?_⟩, (f1.tr (f2.fx.mono (fun c hc => by simp [uRd, hc]))).tr (Fx.upd rfl)⟩
            · show updM N2 (cX 28) 1 ((s.1 : Int) + 5) (cX 28) 2 = (s.2.1 : Int)
              rw [show updM N2 (cX 28) 1 ((s.1 : Int) + 5) (cX 28) 2 = N2 (cX 28) 2 by simp [updM], f2 _ (fun o e => by cases e), ← hN1, ← hs.2.1]; simp [updM]
            · show updM N2 (cX 28) 1 ((s.1 : Int) + 5) (cX 28) 3 = ((s.2.2.1 ||| 2 ^ r : Nat) : Int)
              rw [show updM N2 (cX 28) 1 ((s.1 : Int) + 5) (cX 28) 3 = N2 (cX 28) 3 by simp [updM], f2 _ (fun o e => by cases e), ← hN1, updM_same]
            · exact (Fx.upd (U := uX 28 29) rfl).circ (fun o => rfl) c2
          · refine ev_aload_n (np := 73) dX5_readRegister_72 rfl rfl ?_
            refine ev_iconst (np := 74) dX5_readRegister_73 rfl ?_
            refine ev_put (np := 77) sX5_readRegister_74 rfl rfl rfl ?_
            refine ev_goto (np := 113) dX5_readRegister_77 (by decide) ?_
            refine ev_vret dX5_readRegister_113 rfl ?_
            rw [if_pos (by omega)]
            have := ps_fault hs 4
            exact ⟨rfl, this.1, this.2⟩
        · rw [if_neg g4]
          refine ev_if_ne (tgt := 60) (np := 52) dX5_readRegister_49 (by decide) rfl (by omega) (fun h => absurd (by omega) h) (fun _ => ?_)
          exact bad (by rw [pReg, if_neg (fun h => g4 h.2.2.2)]) _ _ _
      · refine ev_Ni3 (np := 40) moX9_isWithin sX5_readRegister_37 (sem_within_f M (by omega) (by omega) (by omega) g3) (Nat.le_of_ble_eq_true rfl) rfl ?_
        refine ev_if_eq (tgt := 52) (np := 43) dX5_readRegister_40 (by decide) rfl (by omega) (fun _ => ?_) (fun h => absurd (by omega) h)
        exact bad (by rw [pReg, if_neg (fun h => g3 h.2.2.1)]) _ _ _
  · refine ev_Ni1 (np := 26) moX9_isRegister sX5_readRegister_23 (sem_isReg_f M (by omega) g1) (Nat.le_of_ble_eq_true rfl) rfl ?_
    refine ev_if_eq (tgt := 52) (np := 29) dX5_readRegister_26 (by decide) rfl (by omega) (fun _ => ?_) (fun h => absurd (by omega) h)
    exact bad (by rw [pReg, if_neg (fun h => g1 h.1)]) _ _ _
theorem feed_iff {g w : Nat} (hw : w ≤ 15) : Feed (g : Int) (w : Int) ↔ FeedD g w = true := by
  rw [FeedD_iff]
  unfold Feed FeedN
  omega
theorem sem_readGate {M : Mem} {x : Txt} {s : Pst} (hw : XW x) (hx : TxT M x) (hs : PsT M s) (hi : PI x s) : Sem ST miX5_readGate [.inr (cX 28), .inr (cX 25)] M (fun v N => v = none ∧ PsT N (pGate x s) ∧ Fx uRd M N) := by
  refine Sem.of (by decide) ST_ok (Nat.le_of_ble_eq_true rfl) (ls0 := [some (.inr (cX 28)), some (.inr (cX 25)), none, none, none, none]) rfl ?_
  obtain ⟨a1, a2, a3, a4⟩ := id hi
  have l1 := hw.1
  have hn8 := a4.1
  have r0 := dgI_rng (chr x s.1)
  have r1 := dgI_rng (chr x (s.1 + 1))
  have r2 := dgI_rng (chr x (s.1 + 2))
  have bad : pGate x s = (s.1, 1, s.2.2.1, s.2.2.2) → ∀ u v w z : Option Val, Ev ST miX5_readGate 58 [some (.inr (cX 28)), some (.inr (cX 25)), u, v, w, z] [] M (fun v N => v = none ∧ PsT N (pGate x s) ∧ Fx uRd M N) := by
    intro e u v w z
    refine ev_aload_n (np := 59) dX5_readGate_58 rfl rfl ?_
    refine ev_iconst (np := 60) dX5_readGate_59 rfl ?_
    refine ev_put (np := 63) sX5_readGate_60 rfl rfl rfl ?_
    refine ev_goto (np := 131) dX5_readGate_63 (by decide) ?_
    refine ev_vret dX5_readGate_131 rfl ?_
    rw [e]
    have := ps_fault hs 1
    exact ⟨rfl, this.1, this.2⟩
  refine ev_aload_n (np := 1) dX5_readGate_0 rfl rfl ?_
  refine ev_aload_n (np := 2) dX5_readGate_1 rfl rfl ?_
  refine ev_iconst (np := 3) dX5_readGate_2 rfl ?_
  refine ev_Vi2 (np := 6) moX5_digitAt sX5_readGate_3 (sem_dig hw hx hs a1 (d := 0) (by decide)) rfl rfl (Nat.le_of_ble_eq_true rfl) rfl ?_
  rw [Nat.add_zero]
  refine ev_istore_n (np := 7) dX5_readGate_6 (by decide) rfl ?_
  refine ev_aload_n (np := 8) dX5_readGate_7 rfl rfl ?_
  refine ev_aload_n (np := 9) dX5_readGate_8 rfl rfl ?_
  refine ev_iconst (np := 10) dX5_readGate_9 rfl ?_
  refine ev_Vi2 (np := 13) moX5_digitAt sX5_readGate_10 (sem_dig hw hx hs a1 (d := 1) (by decide)) rfl rfl (Nat.le_of_ble_eq_true rfl) rfl ?_
  refine ev_istore_n (np := 14) dX5_readGate_13 (by decide) rfl ?_
  refine ev_aload_n (np := 15) dX5_readGate_14 rfl rfl ?_
  refine ev_aload_n (np := 16) dX5_readGate_15 rfl rfl ?_
  refine ev_iconst (np := 17) dX5_readGate_16 rfl ?_
  refine ev_Vi2 (np := 20) moX5_digitAt sX5_readGate_17 (sem_dig hw hx hs a1 (d := 2) (by decide)) rfl rfl (Nat.le_of_ble_eq_true rfl) rfl ?_
  refine ev_istore (np := 22) dX5_readGate_20 (by decide) rfl ?_
  refine ev_aload_n (np := 23) dX5_readGate_22 rfl rfl ?_
  refine ev_getR (np := 26) sX5_readGate_23 rfl rfl rfl ?_
  refine ev_Vi0 (np := 29) moX1_gateCount sX5_readGate_26 (sem_gateCount M 3) rfl rfl (Nat.le_of_ble_eq_true rfl) rfl ?_
  rw [hs.2.2.2.n]
  refine ev_istore (np := 31) dX5_readGate_29 (by decide) rfl ?_
  refine ev_iload_n (np := 32) dX5_readGate_31 rfl rfl ?_
  refine ev_iconst (np := 33) dX5_readGate_32 rfl ?_
  refine ev_iconst (np := 34) dX5_readGate_33 rfl ?_
  by_cases g1 : 0 ≤ dgI (chr x s.1) ∧ dgI (chr x s.1) ≤ 5
  · refine ev_Ni3 (np := 37) moX9_isWithin sX5_readGate_34 (sem_within_t M (by omega) (by omega) (by omega) g1) (Nat.le_of_ble_eq_true rfl) rfl ?_
    refine ev_if_eq (tgt := 58) (np := 40) dX5_readGate_37 (by decide) rfl (by omega) (fun h => absurd h (by omega)) (fun _ => ?_)
    refine ev_iload_n (np := 41) dX5_readGate_40 rfl rfl ?_
    refine ev_if_lt (tgt := 58) (np := 44) dX5_readGate_41 (by decide) rfl (by omega) (fun g2 => ?_) (fun g2 => ?_)
    · exact bad (by rw [pGate, if_neg (fun h => by omega)]) _ _ _ _
    · refine ev_iload (np := 46) dX5_readGate_44 rfl rfl ?_
      refine ev_if_lt (tgt := 58) (np := 49) dX5_readGate_46 (by decide) rfl (by omega) (fun g3 => ?_) (fun g3 => ?_)
      · exact bad (by rw [pGate, if_neg (fun h => by omega)]) _ _ _ _
      · refine ev_aload_n (np := 50) dX5_readGate_49 rfl rfl ?_
        refine ev_aload_n (np := 51) dX5_readGate_50 rfl rfl ?_
        refine ev_iconst (np := 52) dX5_readGate_51 rfl ?_
        refine ev_Vi2 (np := 55) moX5_partEndsAt sX5_readGate_52 (sem_ends hw hx hs a1 (d := 3) (by decide)) rfl rfl (Nat.le_of_ble_eq_true rfl) rfl ?_
        by_cases g4 : chr x (s.1 + 3) = 59
        · rw [if_pos g4]
          refine ev_if_ne (tgt := 66) (np := 58) dX5_readGate_55 (by decide) rfl (by omega) (fun _ => ?_) (fun h => absurd h (by omega))
          unfold pGate
          rw [if_pos ⟨g1, by omega, by omega, g4⟩]
          obtain ⟨k, hk⟩ := Int.eq_ofNat_of_zero_le g1.1
          obtain ⟨y, hy⟩ := Int.eq_ofNat_of_zero_le (show 0 ≤ dgI (chr x (s.1 + 1)) by omega)
          obtain ⟨z, hz⟩ := Int.eq_ofNat_of_zero_le (show 0 ≤ dgI (chr x (s.1 + 2)) by omega)
          rw [hk, hy, hz, Int.toNat_natCast, Int.toNat_natCast, Int.toNat_natCast]
          refine ev_iload (np := 68) dX5_readGate_66 rfl rfl ?_
          refine ev_bipush (np := 70) dX5_readGate_68 (by decide) rfl ?_
          refine ev_icmp_lt (tgt := 81) (np := 73) dX5_readGate_70 (by decide) rfl (by omega) (by omega) (fun g5 => ?_) (fun g5 => ?_)
          · have fe := feed_iff (g := cn s.2.2.2) (w := y) (by omega)
            have fz := feed_iff (g := cn s.2.2.2) (w := z) (by omega)
            have wrong : ¬ (FeedD (cn s.2.2.2) y = true ∧ FeedD (cn s.2.2.2) z = true) → ∀ u v w z1 : Option Val, Ev ST miX5_readGate 100 [some (.inr (cX 28)), some (.inr (cX 25)), u, v, w, z1] [] M (fun v N => v = none ∧ PsT N (if 8 ≤ cn s.2.2.2 then (s.1, 2, s.2.2.1, s.2.2.2) else if FeedD (cn s.2.2.2) y = true ∧ FeedD (cn s.2.2.2) z = true then (s.1 + 4, s.2.1, s.2.2.1, setG s.2.2.2 (cn s.2.2.2) (k, y, z)) else (s.1, 3, s.2.2.1, s.2.2.2)) ∧ Fx uRd M N) := by
              intro hh u v w z1
              refine ev_aload_n (np := 101) dX5_readGate_100 rfl rfl ?_
              refine ev_iconst (np := 102) dX5_readGate_101 rfl ?_
              refine ev_put (np := 105) sX5_readGate_102 rfl rfl rfl ?_
              refine ev_goto (np := 131) dX5_readGate_105 (by decide) ?_
              refine ev_vret dX5_readGate_131 rfl ?_
              rw [if_neg (by omega), if_neg hh]
              have := ps_fault hs 3
              exact ⟨rfl, this.1, this.2⟩
            refine ev_iload (np := 83) dX5_readGate_81 rfl rfl ?_
            refine ev_iload_n (np := 84) dX5_readGate_83 rfl rfl ?_
            by_cases g6 : FeedD (cn s.2.2.2) y = true
            · refine ev_Ni2 (np := 87) moX9_mayFeed sX5_readGate_84 (sem_feed_t M (by omega) (by omega) (fe.mpr g6)) (Nat.le_of_ble_eq_true rfl) rfl ?_
              refine ev_if_eq (tgt := 100) (np := 90) dX5_readGate_87 (by decide) rfl (by omega) (fun h => absurd h (by omega)) (fun _ => ?_)
              refine ev_iload (np := 92) dX5_readGate_90 rfl rfl ?_
              refine ev_iload (np := 94) dX5_readGate_92 rfl rfl ?_
              by_cases g7 : FeedD (cn s.2.2.2) z = true
              · refine ev_Ni2 (np := 97) moX9_mayFeed sX5_readGate_94 (sem_feed_t M (by omega) (by omega) (fz.mpr g7)) (Nat.le_of_ble_eq_true rfl) rfl ?_
                refine ev_if_ne (tgt := 108) (np := 100) dX5_readGate_97 (by decide) rfl (by omega) (fun _ => ?_) (fun h => absurd h (by omega))
                refine ev_aload_n (np := 109) dX5_readGate_108 rfl rfl ?_
                refine ev_getR (np := 112) sX5_readGate_109 rfl rfl rfl ?_
                refine ev_iload (np := 114) dX5_readGate_112 rfl rfl ?_
                refine ev_iload_n (np := 115) dX5_readGate_114 rfl rfl ?_
                refine ev_iload_n (np := 116) dX5_readGate_115 rfl rfl ?_
                refine ev_iload (np := 118) dX5_readGate_116 rfl rfl ?_
                refine ev_V4 (np := 121) moX1_setGate sX5_readGate_118 (sem_setGate a4 hs.2.2.2 (g := cn s.2.2.2) (a := k) (b := y) (c := z) (Nat.le_refl _) (by omega) (by omega) (by omega) (by omega) ) rfl rfl (Nat.le_of_ble_eq_true rfl) rfl (fun v N2 hq => ?_)
                obtain ⟨rfl, c2, f2⟩ := hq
                refine ev_aload_n (np := 122) dX5_readGate_121 rfl rfl ?_
                refine ev_dup (np := 123) dX5_readGate_122 rfl ?_
                refine ev_getI (np := 126) sX5_readGate_123 rfl rfl rfl ?_
                rw [f2 _ (fun o e => by cases e), hs.1]
                refine ev_iconst (np := 127) dX5_readGate_126 rfl ?_
                refine ev_iadd (np := 128) dX5_readGate_127 rfl ?_
                refine ev_put (np := 131) sX5_readGate_128 rfl rfl rfl ?_
                refine ev_vret dX5_readGate_131 rfl ?_
                rw [if_neg (by omega), if_pos ⟨g6, g7⟩]
                refine ⟨rfl, ⟨updM_same _ _ _ _, ?_, ?_, ?_⟩, (f2.fx.mono (fun c hc => by simp [uRd, hc])).tr (Fx.upd rfl)⟩
                · show updM N2 (cX 28) 1 ((s.1 : Int) + 4) (cX 28) 2 = (s.2.1 : Int)
                  rw [show updM N2 (cX 28) 1 ((s.1 : Int) + 4) (cX 28) 2 = N2 (cX 28) 2 by simp [updM], f2 _ (fun o e => by cases e), ← hs.2.1]
                · show updM N2 (cX 28) 1 ((s.1 : Int) + 4) (cX 28) 3 = (s.2.2.1 : Int)
                  rw [show updM N2 (cX 28) 1 ((s.1 : Int) + 4) (cX 28) 3 = N2 (cX 28) 3 by simp [updM], f2 _ (fun o e => by cases e), hs.2.2.1]
                · exact (Fx.upd (U := uX 28 29) rfl).circ (fun o => rfl) c2
              · refine ev_Ni2 (np := 97) moX9_mayFeed sX5_readGate_94 (sem_feed_f M (by omega) (by omega) (fun h => g7 (fz.mp h))) (Nat.le_of_ble_eq_true rfl) rfl ?_
                refine ev_if_ne (tgt := 108) (np := 100) dX5_readGate_97 (by decide) rfl (by omega) (fun h => absurd (by omega) h) (fun _ => ?_)
                exact wrong (fun h => g7 h.2) _ _ _ _
            · refine ev_Ni2 (np := 87) moX9_mayFeed sX5_readGate_84 (sem_feed_f M (by omega) (by omega) (fun h => g6 (fe.mp h))) (Nat.le_of_ble_eq_true rfl) rfl ?_
              refine ev_if_eq (tgt := 100) (np := 90) dX5_readGate_87 (by decide) rfl (by omega) (fun _ => ?_) (fun h => absurd (by omega) h)
              exact wrong (fun h => g6 h.1) _ _ _ _
          · refine ev_aload_n (np := 74) dX5_readGate_73 rfl rfl ?_
            refine ev_iconst (np := 75) dX5_readGate_74 rfl ?_
            refine ev_put (np := 78) sX5_readGate_75 rfl rfl rfl ?_
            refine ev_goto (np := 131) dX5_readGate_78 (by decide) ?_
            refine ev_vret dX5_readGate_131 rfl ?_
            rw [if_pos (by omega)]
            have := ps_fault hs 2
            exact ⟨rfl, this.1, this.2⟩
        · rw [if_neg g4]
          refine ev_if_ne (tgt := 66) (np := 58) dX5_readGate_55 (by decide) rfl (by omega) (fun h => absurd (by omega) h) (fun _ => ?_)
          exact bad (by rw [pGate, if_neg (fun h => g4 h.2.2.2)]) _ _ _ _
  · refine ev_Ni3 (np := 37) moX9_isWithin sX5_readGate_34 (sem_within_f M (by omega) (by omega) (by omega) g1) (Nat.le_of_ble_eq_true rfl) rfl ?_
    refine ev_if_eq (tgt := 58) (np := 40) dX5_readGate_37 (by decide) rfl (by omega) (fun _ => ?_) (fun h => absurd (by omega) h)
    exact bad (by rw [pGate, if_neg (fun h => g1 h.1)]) _ _ _ _
theorem sem_readPart {M : Mem} {x : Txt} {s : Pst} (hw : XW x) (hx : TxT M x) (hs : PsT M s) (hi : PI x s) : Sem ST miX5_readPart [.inr (cX 28), .inr (cX 25)] M (fun v N => v = none ∧ PsT N (pStep x s) ∧ Fx uRd M N) := by
  refine Sem.of (by decide) ST_ok (Nat.le_of_ble_eq_true rfl) (ls0 := [some (.inr (cX 28)), some (.inr (cX 25)), none]) rfl ?_
  obtain ⟨a1, a2, a3, a4⟩ := id hi
  have l1 := hw.1
  have hc := chr_lt hw s.1
  refine ev_aload_n (np := 1) dX5_readPart_0 rfl rfl ?_
  refine ev_aload_n (np := 2) dX5_readPart_1 rfl rfl ?_
  refine ev_getI (np := 5) sX5_readPart_2 rfl rfl rfl ?_
  rw [hs.1]
  refine ev_Vi1 (np := 8) moX8_characterAt sX5_readPart_5 (sem_charAt hw hx (p := s.1) (by omega)) rfl rfl (Nat.le_of_ble_eq_true rfl) rfl ?_
  refine ev_istore_n (np := 9) dX5_readPart_8 (by decide) rfl ?_
  refine ev_iload_n (np := 10) dX5_readPart_9 rfl rfl ?_
  refine ev_bipush (np := 12) dX5_readPart_10 (by decide) rfl ?_
  unfold pStep
  refine ev_icmp_ne (tgt := 23) (np := 15) dX5_readPart_12 (by decide) rfl (by omega) (by omega) (fun g1 => ?_) (fun g1 => ?_)
  · rw [if_neg (by omega)]
    refine ev_iload_n (np := 24) dX5_readPart_23 rfl rfl ?_
    refine ev_bipush (np := 26) dX5_readPart_24 (by decide) rfl ?_
    refine ev_icmp_ne (tgt := 37) (np := 29) dX5_readPart_26 (by decide) rfl (by omega) (by omega) (fun g2 => ?_) (fun g2 => ?_)
    · rw [if_neg (by omega)]
      refine ev_aload_n (np := 38) dX5_readPart_37 rfl rfl ?_
      refine ev_aload_n (np := 39) dX5_readPart_38 rfl rfl ?_
      refine ev_V1 (np := 42) moX5_readGate sX5_readPart_39 (sem_readGate hw hx hs hi ) rfl rfl (Nat.le_of_ble_eq_true rfl) rfl (fun v N hq => ?_)
      obtain ⟨rfl, q1, q2⟩ := hq
      refine ev_vret dX5_readPart_42 rfl ?_
      exact ⟨rfl, q1, q2⟩
    · rw [if_pos (by omega)]
      refine ev_aload_n (np := 30) dX5_readPart_29 rfl rfl ?_
      refine ev_aload_n (np := 31) dX5_readPart_30 rfl rfl ?_
      refine ev_V1 (np := 34) moX5_readOutput sX5_readPart_31 (sem_readOut hw hx hs hi ) rfl rfl (Nat.le_of_ble_eq_true rfl) rfl (fun v N hq => ?_)
      obtain ⟨rfl, q1, q2⟩ := hq
      refine ev_goto (np := 42) dX5_readPart_34 (by decide) ?_
      refine ev_vret dX5_readPart_42 rfl ?_
      exact ⟨rfl, q1, q2⟩
  · rw [if_pos (by omega)]
    refine ev_aload_n (np := 16) dX5_readPart_15 rfl rfl ?_
    refine ev_aload_n (np := 17) dX5_readPart_16 rfl rfl ?_
    refine ev_V1 (np := 20) moX5_readRegister sX5_readPart_17 (sem_readReg hw hx hs hi ) rfl rfl (Nat.le_of_ble_eq_true rfl) rfl (fun v N hq => ?_)
    obtain ⟨rfl, q1, q2⟩ := hq
    refine ev_goto (np := 42) dX5_readPart_20 (by decide) ?_
    refine ev_vret dX5_readPart_42 rfl ?_
    exact ⟨rfl, q1, q2⟩
theorem uRd_txt {M N : Mem} (h : Fx uRd M N) {x : Txt} (hx : TxT M x) : TxT N x := h.txt rfl rfl hx
theorem whole_loop {M : Mem} {x : Txt} (hw : XW x) (hx : TxT M x) : ∀ (m j : Nat) (N : Mem) (s : Pst), j + m = 80 → PI x s → PsT N s → Fx uRd M N → Ev ST miX5_readWhole 24 [some (.inr (cX 28)), some (.inr (cX 25)), some (.inl (j : Int))] [] N (fun v N => v = none ∧ PsT N (pAll x m s) ∧ Fx uRd M N) := by
  have l1 := hw.1
  have stay : ∀ f s, ¬ (s.2.1 = 0 ∧ s.1 < x.1) → pAll x f s = s := by
    intro f s h
    cases f with
    | zero => rfl
    | succ f => unfold pAll; rw [if_neg h]
  intro m
  induction m with
  | zero =>
    intro j N s hj hi hs hf
    refine ev_iload_n (np := 25) dX5_readWhole_24 rfl rfl ?_
    refine ev_bipush (np := 27) dX5_readWhole_25 (by decide) rfl ?_
    refine ev_icmp_ge (tgt := 59) (np := 30) dX5_readWhole_27 (by decide) rfl (by omega) (by omega) (fun _ => ?_) (fun h => absurd (by omega) h)
    refine ev_vret dX5_readWhole_59 rfl ?_
    exact ⟨rfl, hs, hf⟩
  | succ m ih =>
    intro j N s hj hi hs hf
    obtain ⟨a1, a2, a3, a4⟩ := id hi
    refine ev_iload_n (np := 25) dX5_readWhole_24 rfl rfl ?_
    refine ev_bipush (np := 27) dX5_readWhole_25 (by decide) rfl ?_
    refine ev_icmp_ge (tgt := 59) (np := 30) dX5_readWhole_27 (by decide) rfl (by omega) (by omega) (fun h => absurd h (by omega)) (fun _ => ?_)
    refine ev_aload_n (np := 31) dX5_readWhole_30 rfl rfl ?_
    refine ev_getI (np := 34) sX5_readWhole_31 rfl rfl rfl ?_
    rw [hs.2.1]
    refine ev_if_ne (tgt := 59) (np := 37) dX5_readWhole_34 (by decide) rfl (by omega) (fun g1 => ?_) (fun g1 => ?_)
    · refine ev_vret dX5_readWhole_59 rfl ?_
      rw [stay _ _ (by omega)]
      exact ⟨rfl, hs, hf⟩
    · refine ev_aload_n (np := 38) dX5_readWhole_37 rfl rfl ?_
      refine ev_getI (np := 41) sX5_readWhole_38 rfl rfl rfl ?_
      rw [hs.1]
      refine ev_aload_n (np := 42) dX5_readWhole_41 rfl rfl ?_
      refine ev_Vi0 (np := 45) moX8_length sX5_readWhole_42 (sem_xlen (uRd_txt hf hx)) rfl rfl (Nat.le_of_ble_eq_true rfl) rfl ?_
      refine ev_icmp_ge (tgt := 53) (np := 48) dX5_readWhole_45 (by decide) rfl (by omega) (by omega) (fun g2 => ?_) (fun g2 => ?_)
      · refine ev_iinc (np := 56) dX5_readWhole_53 rfl (by decide) rfl ?_
        refine ev_goto (np := 24) dX5_readWhole_56 (by decide) ?_
        rw [stay (m + 1) s (by omega), ← stay m s (by omega)]
        exact ih (j + 1) N s (by omega) hi hs hf
      · refine ev_aload_n (np := 49) dX5_readWhole_48 rfl rfl ?_
        refine ev_aload_n (np := 50) dX5_readWhole_49 rfl rfl ?_
        refine ev_V1 (np := 53) moX5_readPart sX5_readWhole_50 (sem_readPart hw (uRd_txt hf hx) hs hi ) rfl rfl (Nat.le_of_ble_eq_true rfl) rfl (fun v N2 hq => ?_)
        obtain ⟨rfl, q1, q2⟩ := hq
        refine ev_iinc (np := 56) dX5_readWhole_53 rfl (by decide) rfl ?_
        refine ev_goto (np := 24) dX5_readWhole_56 (by decide) ?_
        unfold pAll
        rw [if_pos ⟨by omega, by omega⟩]
        exact ih (j + 1) N2 _ (by omega) (pStep_i hi) q1 (hf.tr q2)
theorem sem_readWhole {M : Mem} {x : Txt} (hw : XW x) (hx : TxT M x) : Sem ST miX5_readWhole [.inr (cX 28), .inr (cX 25)] M (fun v N => v = none ∧ PsT N (parse x) ∧ Fx uRd M N) := by
  refine Sem.of (by decide) ST_ok (Nat.le_of_ble_eq_true rfl) (ls0 := [some (.inr (cX 28)), some (.inr (cX 25)), none]) rfl ?_
  refine ev_aload_n (np := 1) dX5_readWhole_0 rfl rfl ?_
  refine ev_getR (np := 4) sX5_readWhole_1 rfl rfl rfl ?_
  refine ev_V0 (np := 7) moX1_startAnew sX5_readWhole_4 (sem_startAnew M ) rfl rfl (Nat.le_of_ble_eq_true rfl) rfl (fun v N hq => ?_)
  obtain ⟨rfl, c1, f1⟩ := hq
  refine ev_aload_n (np := 8) dX5_readWhole_7 rfl rfl ?_
  refine ev_iconst (np := 9) dX5_readWhole_8 rfl ?_
  refine ev_put (np := 12) sX5_readWhole_9 rfl rfl rfl ?_
  refine ev_aload_n (np := 13) dX5_readWhole_12 rfl rfl ?_
  refine ev_iconst (np := 14) dX5_readWhole_13 rfl ?_
  refine ev_put (np := 17) sX5_readWhole_14 rfl rfl rfl ?_
  refine ev_aload_n (np := 18) dX5_readWhole_17 rfl rfl ?_
  refine ev_iconst (np := 19) dX5_readWhole_18 rfl ?_
  refine ev_put (np := 22) sX5_readWhole_19 rfl rfl rfl ?_
  refine ev_iconst (np := 23) dX5_readWhole_22 rfl ?_
  refine ev_istore_n (np := 24) dX5_readWhole_23 (by decide) rfl ?_
  refine whole_loop hw hx 80 0 _ p0 rfl (p0_i x) ⟨?_, ?_, updM_same _ _ _ _, ?_⟩ ?_
  · simp [updM, p0]
  · simp [updM, p0]
  · exact (((Fx.upd (U := uX 28 29) rfl).tr (Fx.upd rfl)).tr (Fx.upd rfl)).circ (fun o => rfl) c1
  · exact (((f1.fx.mono (fun c hc => by simp [uRd, hc])).tr (Fx.upd rfl)).tr (Fx.upd rfl)).tr (Fx.upd rfl)
