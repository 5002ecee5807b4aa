/-! PARTS OF A TEXT, in the reference -/
theorem bt_shr (b p : Nat) : ((b : Int) / ((2 ^ ((p : Int)).toNat : Nat) : Int)) % ((2 ^ 1 : Nat) : Int) = (bt b p : Int) := shr1 b p
theorem sem_doesRegister {M : Mem} {x : Txt} {s : Pst} (hw : XW x) (hx : TxM M x) (hs : PsM M s) (hi : PI x s) (h0 : s.2.1 = 0) : Sem SM miX10_doesRegister [.inr (cX 0)] M (doP M (pReg x s)) := by
  refine Sem.of (by decide) SM_ok (Nat.le_of_ble_eq_true rfl) (ls0 := [some (.inr (cX 0)), none, none, none]) rfl ?_
  obtain ⟨a1, a2, a3, a4⟩ := id hi
  obtain ⟨s1, s2, s3⟩ := id hs
  have l1 := hw.1
  have r1 := sgn_rng hw (s.1 + 1)
  have r2 := dgI_rng (chr x (s.1 + 2))
  have r3 := sgn_rng hw (s.1 + 3)
  have r4 := sgn_rng hw (s.1 + 4)
  have se := sgn_eq (x := x) (p := s.1 + 4) (c := 59) (by decide)
  have q1 := sgn_dg (x := x) (p := s.1 + 1) (k := 3) (by decide)
  have q3 := sgn_dg (x := x) (p := s.1 + 3) (k := 1) (by decide)
  have bad : pReg x s = (s.1, 1, s.2.2.1, s.2.2.2) → ∀ u v w : Option Val, Ev SM miX10_doesRegister 76 [some (.inr (cX 0)), u, v, w] [] M (doP M (pReg x s)) := by
    intro e u v w
    rw [e]
    refine ev_iconst (np := 77) dX10_doesRegister_76 rfl ?_
    refine ev_iret dX10_doesRegister_77 rfl ?_
    exact ⟨rfl, hs, Fy.rf⟩
  refine ev_aload_n (np := 1) dX10_doesRegister_0 rfl rfl ?_
  refine ev_aload_n (np := 2) dX10_doesRegister_1 rfl rfl ?_
  refine ev_getI (np := 5) sX10_doesRegister_2 rfl rfl rfl ?_
  rw [s1]
  refine ev_iconst (np := 6) dX10_doesRegister_5 rfl ?_
  refine ev_iadd (np := 7) dX10_doesRegister_6 rfl ?_
  rw [show (s.1 : Int) + 1 = ((s.1 + 1 : Nat) : Int) by omega]
  refine ev_Vi1 (np := 10) moX10_sign sX10_doesRegister_7 (sem_sign hw hx (p := s.1 + 1) (by omega)) rfl rfl (Nat.le_of_ble_eq_true rfl) rfl ?_
  refine ev_bipush (np := 12) dX10_doesRegister_10 (by decide) rfl ?_
  refine ev_isub (np := 13) dX10_doesRegister_12 rfl ?_
  refine ev_istore_n (np := 14) dX10_doesRegister_13 (by decide) rfl ?_
  refine ev_aload_n (np := 15) dX10_doesRegister_14 rfl rfl ?_
  refine ev_aload_n (np := 16) dX10_doesRegister_15 rfl rfl ?_
  refine ev_getI (np := 19) sX10_doesRegister_16 rfl rfl rfl ?_
  rw [s1]
  refine ev_iconst (np := 20) dX10_doesRegister_19 rfl ?_
  refine ev_iadd (np := 21) dX10_doesRegister_20 rfl ?_
  rw [show (s.1 : Int) + 2 = ((s.1 + 2 : Nat) : Int) by omega]
  refine ev_Vi1 (np := 24) moX10_wireAt sX10_doesRegister_21 (sem_wireAt hw hx (p := s.1 + 2) (by omega)) rfl rfl (Nat.le_of_ble_eq_true rfl) rfl ?_
  refine ev_istore_n (np := 25) dX10_doesRegister_24 (by decide) rfl ?_
  refine ev_aload_n (np := 26) dX10_doesRegister_25 rfl rfl ?_
  refine ev_aload_n (np := 27) dX10_doesRegister_26 rfl rfl ?_
  refine ev_getI (np := 30) sX10_doesRegister_27 rfl rfl rfl ?_
  rw [s1]
  refine ev_iconst (np := 31) dX10_doesRegister_30 rfl ?_
  refine ev_iadd (np := 32) dX10_doesRegister_31 rfl ?_
  rw [show (s.1 : Int) + 3 = ((s.1 + 3 : Nat) : Int) by omega]
  refine ev_Vi1 (np := 35) moX10_sign sX10_doesRegister_32 (sem_sign hw hx (p := s.1 + 3) (by omega)) rfl rfl (Nat.le_of_ble_eq_true rfl) rfl ?_
  refine ev_bipush (np := 37) dX10_doesRegister_35 (by decide) rfl ?_
  refine ev_isub (np := 38) dX10_doesRegister_37 rfl ?_
  refine ev_istore_n (np := 39) dX10_doesRegister_38 (by decide) rfl ?_
  refine ev_iload_n (np := 40) dX10_doesRegister_39 rfl rfl ?_
  refine ev_iconst (np := 41) dX10_doesRegister_40 rfl ?_
  refine ev_iconst (np := 42) dX10_doesRegister_41 rfl ?_
  by_cases g1 : 0 ≤ sgn x (s.1 + 1) - 48 ∧ sgn x (s.1 + 1) - 48 ≤ 3
  · have v1 := sgn_val (x := x) (p := s.1 + 1) (by omega)
    refine ev_Si3 (np := 45) moX10_in sX10_doesRegister_42 (sem_in_t M (by omega) (by omega) (by omega) g1) (Nat.le_of_ble_eq_true rfl) rfl ?_
    refine ev_if_eq (tgt := 76) (np := 48) dX10_doesRegister_45 (by decide) rfl (by omega) (fun h => absurd h (by omega)) (fun _ => ?_)
    refine ev_iload_n (np := 49) dX10_doesRegister_48 rfl rfl ?_
    refine ev_if_lt (tgt := 76) (np := 52) dX10_doesRegister_49 (by decide) rfl (by omega) (fun g2 => ?_) (fun g2 => ?_)
    · exact bad (by rw [pReg, if_neg (by omega)]) _ _ _
    · refine ev_iload_n (np := 53) dX10_doesRegister_52 rfl rfl ?_
      refine ev_iconst (np := 54) dX10_doesRegister_53 rfl ?_
      refine ev_iconst (np := 55) dX10_doesRegister_54 rfl ?_
      by_cases g3 : 0 ≤ sgn x (s.1 + 3) - 48 ∧ sgn x (s.1 + 3) - 48 ≤ 1
      · have v3 := sgn_val (x := x) (p := s.1 + 3) (by omega)
        refine ev_Si3 (np := 58) moX10_in sX10_doesRegister_55 (sem_in_t M (by omega) (by omega) (by omega) g3) (Nat.le_of_ble_eq_true rfl) rfl ?_
        refine ev_if_eq (tgt := 76) (np := 61) dX10_doesRegister_58 (by decide) rfl (by omega) (fun h => absurd h (by omega)) (fun _ => ?_)
        refine ev_aload_n (np := 62) dX10_doesRegister_61 rfl rfl ?_
        refine ev_aload_n (np := 63) dX10_doesRegister_62 rfl rfl ?_
        refine ev_getI (np := 66) sX10_doesRegister_63 rfl rfl rfl ?_
        rw [s1]
        refine ev_iconst (np := 67) dX10_doesRegister_66 rfl ?_
        refine ev_iadd (np := 68) dX10_doesRegister_67 rfl ?_
        rw [show (s.1 : Int) + 4 = ((s.1 + 4 : Nat) : Int) by omega]
        refine ev_Vi1 (np := 71) moX10_sign sX10_doesRegister_68 (sem_sign hw hx (p := s.1 + 4) (by omega)) rfl rfl (Nat.le_of_ble_eq_true rfl) rfl ?_
        refine ev_bipush (np := 73) dX10_doesRegister_71 (by decide) rfl ?_
        refine ev_icmp_eq (tgt := 78) (np := 76) dX10_doesRegister_73 (by decide) rfl (by omega) (by omega) (fun g4 => ?_) (fun g4 => ?_)
        · have g4' : chr x (s.1 + 4) = 59 := se.mp (by omega)
          rw [← v1, ← v3]
          rw [← v1] at g1
          rw [← v3] at g3
          have epr : pReg x s = (if bt s.2.2.1 (dgI (chr x (s.1 + 1))).toNat = 1 then (s.1, 4, s.2.2.1, s.2.2.2) else (s.1 + 5, s.2.1, s.2.2.1 ||| 2 ^ (dgI (chr x (s.1 + 1))).toNat, setR s.2.2.2 (dgI (chr x (s.1 + 1))).toNat (dgI (chr x (s.1 + 2))).toNat (dgI (chr x (s.1 + 3))).toNat)) := by rw [pReg, if_pos ⟨g1, by omega, g3, g4'⟩]
          rw [epr]
          obtain ⟨d1, e1⟩ := Int.eq_ofNat_of_zero_le g1.1
          obtain ⟨d2, e2⟩ := Int.eq_ofNat_of_zero_le (show 0 ≤ dgI (chr x (s.1 + 2)) by omega)
          obtain ⟨d3, e3⟩ := Int.eq_ofNat_of_zero_le g3.1
          rw [e1] at g1
          rw [e2] at r2
          rw [e3] at g3
          rw [e1, e2, e3, Int.toNat_natCast, Int.toNat_natCast, Int.toNat_natCast]
          clear bad epr v1 v3 q1 q3 e1 e2 e3
          have hb := bt_lt s.2.2.1 d1
          have d14 : d1 < 4 := by omega
          have p2 : 2 ^ d1 < 2 ^ 5 := Nat.pow_lt_pow_right (by decide) (by omega)
          have tl : s.2.2.1 ||| 2 ^ d1 < 2 ^ 5 := Nat.or_lt_two_pow (n := 5) a3 p2
          refine ev_aload_n (np := 79) dX10_doesRegister_78 rfl rfl ?_
          refine ev_getI (np := 82) sX10_doesRegister_79 rfl rfl rfl ?_
          rw [s2]
          refine ev_iload_n (np := 83) dX10_doesRegister_82 rfl rfl ?_
          refine ev_ishr (np := 84) dX10_doesRegister_83 (by omega) (by omega) rfl ?_
          refine ev_iconst (np := 85) dX10_doesRegister_84 rfl ?_
          refine ev_iandm 1 (np := 86) dX10_doesRegister_85 (by omega) rfl rfl ?_
          rw [bt_shr]
          refine ev_iconst (np := 87) dX10_doesRegister_86 rfl ?_
          refine ev_icmp_ne (tgt := 92) (np := 90) dX10_doesRegister_87 (by decide) rfl (by omega) (by omega) (fun g5 => ?_) (fun g5 => ?_)
          · rw [if_neg (by omega)]
            refine ev_aload_n (np := 93) dX10_doesRegister_92 rfl rfl ?_
            refine ev_dup (np := 94) dX10_doesRegister_93 rfl ?_
            refine ev_getI (np := 97) sX10_doesRegister_94 rfl rfl rfl ?_
            rw [s2]
            refine ev_iconst (np := 98) dX10_doesRegister_97 rfl ?_
            refine ev_iload_n (np := 99) dX10_doesRegister_98 rfl rfl ?_
            refine ev_ishl (np := 100) dX10_doesRegister_99 (by omega) rfl ?_
            rw [Int.toNat_natCast, Int.one_mul]
            refine ev_ior (np := 101) dX10_doesRegister_100 (by omega) (Int.natCast_nonneg _) rfl ?_
            rw [Int.toNat_natCast, Int.toNat_natCast]
            refine ev_put (np := 104) sX10_doesRegister_101 rfl rfl rfl ?_
            refine ev_aload_n (np := 105) dX10_doesRegister_104 rfl rfl ?_
            refine ev_getR (np := 108) sX10_doesRegister_105 rfl rfl rfl ?_
            refine ev_iconst (np := 109) dX10_doesRegister_108 rfl ?_
            refine ev_iload_n (np := 110) dX10_doesRegister_109 rfl rfl ?_
            refine ev_iadd (np := 111) dX10_doesRegister_110 rfl ?_
            refine ev_iload_n (np := 112) dX10_doesRegister_111 rfl rfl ?_
            refine ev_iastore (np := 113) dX10_doesRegister_112 rfl (by omega) (by omega) rfl ?_
            rw [show ((2 : Int) + (d1 : Int)).toNat = 2 + d1 by omega]
            refine ev_aload_n (np := 114) dX10_doesRegister_113 rfl rfl ?_
            refine ev_getR (np := 117) sX10_doesRegister_114 rfl rfl rfl ?_
            refine ev_bipush (np := 119) dX10_doesRegister_117 (by decide) rfl ?_
            refine ev_iload_n (np := 120) dX10_doesRegister_119 rfl rfl ?_
            refine ev_iadd (np := 121) dX10_doesRegister_120 rfl ?_
            refine ev_iload_n (np := 122) dX10_doesRegister_121 rfl rfl ?_
            refine ev_iastore (np := 123) dX10_doesRegister_122 rfl (by omega) (by omega) rfl ?_
            rw [show ((6 : Int) + (d1 : Int)).toNat = 6 + d1 by omega]
            refine ev_aload_n (np := 124) dX10_doesRegister_123 rfl rfl ?_
            refine ev_dup (np := 125) dX10_doesRegister_124 rfl ?_
            refine ev_getI (np := 128) sX10_doesRegister_125 rfl rfl rfl ?_
            rw [updM_f (b := 5) rfl, updM_f (b := 5) rfl, show updM M (cX 0) 9 ((s.2.2.1 ||| 2 ^ d1 : Nat) : Int) (cX 0) 7 = (s.1 : Int) by rw [← s1]; simp [updM]]
            refine ev_iconst (np := 129) dX10_doesRegister_128 rfl ?_
            refine ev_iadd (np := 130) dX10_doesRegister_129 rfl ?_
            refine ev_put (np := 133) sX10_doesRegister_130 rfl rfl rfl ?_
            refine ev_iconst (np := 134) dX10_doesRegister_133 rfl ?_
            refine ev_iret dX10_doesRegister_134 rfl ?_
            generalize hN : updM (updM (updM (updM M (cX 0) 9 ((s.2.2.1 ||| 2 ^ d1 : Nat) : Int)) (cX 5) (2 + d1) (d2 : Int)) (cX 5) (6 + d1) (d3 : Int)) (cX 0) 7 ((s.1 : Int) + 5) = N
            have o : ∀ i, i ≠ 2 + d1 → i ≠ 6 + d1 → N (cX 5) i = M (cX 5) i := fun i i1 i2 => by rw [← hN]; simp [updM, i1, i2]
            refine ⟨by show _ = some (Sum.inl ((s.2.1 : Nat) : Int)); rw [h0]; rfl, ⟨by rw [← hN, updM_same]; rfl, by rw [← hN]; simp [updM], ?_⟩, by rw [← hN]; exact (((Fy.upd rfl).tr (Fy.upd rfl)).tr (Fy.upd rfl)).tr (Fy.upd rfl)⟩
            refine ⟨by rw [o 0 (by omega) (by omega)]; exact s3.1, by rw [o 1 (by omega) (by omega)]; exact s3.2.1, fun r hr => ?_, fun g hg => ?_⟩
            · by_cases e : r = d1
              · subst e
                refine ⟨?_, ?_⟩
                · show N (cX 5) (2 + r) = (((if r = r then d2 else s.2.2.2.2.2.1 r) : Nat) : Int)
                  rw [if_pos rfl, ← hN]; simp [updM]
                · show N (cX 5) (6 + r) = (((if r = r then d3 else s.2.2.2.2.2.2.1 r) : Nat) : Int)
                  rw [if_pos rfl, ← hN]; simp [updM]
              · refine ⟨?_, ?_⟩
                · show N (cX 5) (2 + r) = (((if r = d1 then d2 else s.2.2.2.2.2.1 r) : Nat) : Int)
                  rw [if_neg e, o _ (by omega) (by omega)]
                  exact (s3.2.2.1 r hr).1
                · show N (cX 5) (6 + r) = (((if r = d1 then d3 else s.2.2.2.2.2.2.1 r) : Nat) : Int)
                  rw [if_neg e, o _ (by omega) (by omega)]
                  exact (s3.2.2.1 r hr).2
            · obtain ⟨b1, b2, b3⟩ := s3.2.2.2 g hg
              have hn := a4.1
              have hg : g < cn s.2.2.2 := hg
              exact ⟨by rw [o _ (by omega) (by omega)]; exact b1, by rw [o _ (by omega) (by omega)]; exact b2, by rw [o _ (by omega) (by omega)]; exact b3⟩
          · rw [if_pos (by omega)]
            refine ev_iconst (np := 91) dX10_doesRegister_90 rfl ?_
            refine ev_iret dX10_doesRegister_91 rfl ?_
            exact ⟨rfl, hs, Fy.rf⟩
        · exact bad (by rw [pReg, if_neg (fun h => g4 (se.mpr h.2.2.2))]) _ _ _
      · refine ev_Si3 (np := 58) moX10_in sX10_doesRegister_55 (sem_in_f M (by omega) (by omega) (by omega) g3) (Nat.le_of_ble_eq_true rfl) rfl ?_
        refine ev_if_eq (tgt := 76) (np := 61) dX10_doesRegister_58 (by decide) rfl (by omega) (fun _ => ?_) (fun h => absurd (by omega) h)
        exact bad (by rw [pReg, if_neg (fun h => g3 (q3.mpr h.2.2.1))]) _ _ _
  · refine ev_Si3 (np := 45) moX10_in sX10_doesRegister_42 (sem_in_f M (by omega) (by omega) (by omega) g1) (Nat.le_of_ble_eq_true rfl) rfl ?_
    refine ev_if_eq (tgt := 76) (np := 48) dX10_doesRegister_45 (by decide) rfl (by omega) (fun _ => ?_) (fun h => absurd (by omega) h)
    exact bad (by rw [pReg, if_neg (fun h => g1 (q1.mpr h.1))]) _ _ _
theorem sem_doesGate {M : Mem} {x : Txt} {s : Pst} (hw : XW x) (hx : TxM M x) (hs : PsM M s) (hi : PI x s) (h0 : s.2.1 = 0) {k : Nat} (hk : k < 6) (hkc : dgI (chr x s.1) = (k : Int)) : Sem SM miX10_doesGate [.inr (cX 0), .inl (k : Int)] M (doP M (pGate x s)) := by
  refine Sem.of (by decide) SM_ok (Nat.le_of_ble_eq_true rfl) (ls0 := [some (.inr (cX 0)), some (.inl (k : Int)), none, none, none]) rfl ?_
  obtain ⟨a1, a2, a3, a4⟩ := id hi
  obtain ⟨s1, s2, s3⟩ := id hs
  have l1 := hw.1
  have r1 := dgI_rng (chr x (s.1 + 1))
  have r2 := dgI_rng (chr x (s.1 + 2))
  have r3 := sgn_rng hw (s.1 + 3)
  have se := sgn_eq (x := x) (p := s.1 + 3) (c := 59) (by decide)
  have bad : pGate x s = (s.1, 1, s.2.2.1, s.2.2.2) → ∀ u v w : Option Val, Ev SM miX10_doesGate 45 [some (.inr (cX 0)), some (.inl (k : Int)), u, v, w] [] M (doP M (pGate x s)) := by
    intro e u v w
    rw [e]
    refine ev_iconst (np := 46) dX10_doesGate_45 rfl ?_
    refine ev_iret dX10_doesGate_46 rfl ?_
    exact ⟨rfl, hs, Fy.rf⟩
  refine ev_aload_n (np := 1) dX10_doesGate_0 rfl rfl ?_
  refine ev_aload_n (np := 2) dX10_doesGate_1 rfl rfl ?_
  refine ev_getI (np := 5) sX10_doesGate_2 rfl rfl rfl ?_
  rw [s1]
  refine ev_iconst (np := 6) dX10_doesGate_5 rfl ?_
  refine ev_iadd (np := 7) dX10_doesGate_6 rfl ?_
  rw [show (s.1 : Int) + 1 = ((s.1 + 1 : Nat) : Int) by omega]
  refine ev_Vi1 (np := 10) moX10_wireAt sX10_doesGate_7 (sem_wireAt hw hx (p := s.1 + 1) (by omega)) rfl rfl (Nat.le_of_ble_eq_true rfl) rfl ?_
  refine ev_istore_n (np := 11) dX10_doesGate_10 (by decide) rfl ?_
  refine ev_aload_n (np := 12) dX10_doesGate_11 rfl rfl ?_
  refine ev_aload_n (np := 13) dX10_doesGate_12 rfl rfl ?_
  refine ev_getI (np := 16) sX10_doesGate_13 rfl rfl rfl ?_
  rw [s1]
  refine ev_iconst (np := 17) dX10_doesGate_16 rfl ?_
  refine ev_iadd (np := 18) dX10_doesGate_17 rfl ?_
  rw [show (s.1 : Int) + 2 = ((s.1 + 2 : Nat) : Int) by omega]
  refine ev_Vi1 (np := 21) moX10_wireAt sX10_doesGate_18 (sem_wireAt hw hx (p := s.1 + 2) (by omega)) rfl rfl (Nat.le_of_ble_eq_true rfl) rfl ?_
  refine ev_istore_n (np := 22) dX10_doesGate_21 (by decide) rfl ?_
  refine ev_iload_n (np := 23) dX10_doesGate_22 rfl rfl ?_
  refine ev_if_lt (tgt := 45) (np := 26) dX10_doesGate_23 (by decide) rfl (by omega) (fun g1 => ?_) (fun g1 => ?_)
  · exact bad (by rw [pGate, if_neg (by omega)]) _ _ _
  · refine ev_iload_n (np := 27) dX10_doesGate_26 rfl rfl ?_
    refine ev_if_lt (tgt := 45) (np := 30) dX10_doesGate_27 (by decide) rfl (by omega) (fun g2 => ?_) (fun g2 => ?_)
    · exact bad (by rw [pGate, if_neg (by omega)]) _ _ _
    · refine ev_aload_n (np := 31) dX10_doesGate_30 rfl rfl ?_
      refine ev_aload_n (np := 32) dX10_doesGate_31 rfl rfl ?_
      refine ev_getI (np := 35) sX10_doesGate_32 rfl rfl rfl ?_
      rw [s1]
      refine ev_iconst (np := 36) dX10_doesGate_35 rfl ?_
      refine ev_iadd (np := 37) dX10_doesGate_36 rfl ?_
      rw [show (s.1 : Int) + 3 = ((s.1 + 3 : Nat) : Int) by omega]
      refine ev_Vi1 (np := 40) moX10_sign sX10_doesGate_37 (sem_sign hw hx (p := s.1 + 3) (by omega)) rfl rfl (Nat.le_of_ble_eq_true rfl) rfl ?_
      refine ev_bipush (np := 42) dX10_doesGate_40 (by decide) rfl ?_
      refine ev_icmp_eq (tgt := 47) (np := 45) dX10_doesGate_42 (by decide) rfl (by omega) (by omega) (fun g3 => ?_) (fun g3 => ?_)
      · have g3' : chr x (s.1 + 3) = 59 := se.mp (by omega)
        have hn := a4.1
        have m0 : M (cX 5) 0 = (cn s.2.2.2 : Int) := s3.1
        have epr := show pGate x s = _ by rw [pGate, if_pos ⟨by omega, by omega, by omega, g3'⟩]
        rw [epr, hkc]
        obtain ⟨d1, e1⟩ := Int.eq_ofNat_of_zero_le (show 0 ≤ dgI (chr x (s.1 + 1)) by omega)
        obtain ⟨d2, e2⟩ := Int.eq_ofNat_of_zero_le (show 0 ≤ dgI (chr x (s.1 + 2)) by omega)
        rw [e1] at r1
        rw [e2] at r2
        rw [e1, e2, Int.toNat_natCast, Int.toNat_natCast, Int.toNat_natCast]
        have f1 := feed_iff (g := cn s.2.2.2) (w := d1) (by omega)
        have f2 := feed_iff (g := cn s.2.2.2) (w := d2) (by omega)
        clear bad epr e1 e2
        refine ev_aload_n (np := 48) dX10_doesGate_47 rfl rfl ?_
        refine ev_getR (np := 51) sX10_doesGate_48 rfl rfl rfl ?_
        refine ev_iconst (np := 52) dX10_doesGate_51 rfl ?_
        refine ev_iaload (np := 53) dX10_doesGate_52 rfl (by omega) (by omega) rfl ?_
        rw [show (0 : Int).toNat = 0 from rfl, m0]
        refine ev_istore (np := 55) dX10_doesGate_53 (by decide) rfl ?_
        refine ev_iload (np := 57) dX10_doesGate_55 rfl rfl ?_
        refine ev_bipush (np := 59) dX10_doesGate_57 (by decide) rfl ?_
        refine ev_icmp_ne (tgt := 64) (np := 62) dX10_doesGate_59 (by decide) rfl (by omega) (by omega) (fun g4 => ?_) (fun g4 => ?_)
        · rw [if_neg (by omega)]
          refine ev_iload (np := 66) dX10_doesGate_64 rfl rfl ?_
          refine ev_iload_n (np := 67) dX10_doesGate_66 rfl rfl ?_
          have no : ∀ u : Unit, ¬ (FeedD (cn s.2.2.2) d1 = true ∧ FeedD (cn s.2.2.2) d2 = true) → Ev SM miX10_doesGate 82 [some (.inr (cX 0)), some (.inl (k : Int)), some (.inl (d1 : Int)), some (.inl (d2 : Int)), some (.inl (cn s.2.2.2 : Int))] [] M (doP M (if FeedD (cn s.2.2.2) d1 = true ∧ FeedD (cn s.2.2.2) d2 = true then (s.1 + 4, s.2.1, s.2.2.1, setG s.2.2.2 (cn s.2.2.2) (k, d1, d2)) else (s.1, 3, s.2.2.1, s.2.2.2))) := by
            intro _ hh
            rw [if_neg hh]
            refine ev_iconst (np := 83) dX10_doesGate_82 rfl ?_
            refine ev_iret dX10_doesGate_83 rfl ?_
            exact ⟨rfl, hs, Fy.rf⟩
          by_cases h1 : Feed (cn s.2.2.2 : Int) (d1 : Int)
          · refine ev_Si2 (np := 70) moX10_isAllowed sX10_doesGate_67 (sem_allow_t M (by omega) (by omega) h1) (Nat.le_of_ble_eq_true rfl) rfl ?_
            refine ev_if_eq (tgt := 82) (np := 73) dX10_doesGate_70 (by decide) rfl (by omega) (fun h => absurd h (by omega)) (fun _ => ?_)
            refine ev_iload (np := 75) dX10_doesGate_73 rfl rfl ?_
            refine ev_iload_n (np := 76) dX10_doesGate_75 rfl rfl ?_
            by_cases h2 : Feed (cn s.2.2.2 : Int) (d2 : Int)
            · refine ev_Si2 (np := 79) moX10_isAllowed sX10_doesGate_76 (sem_allow_t M (by omega) (by omega) h2) (Nat.le_of_ble_eq_true rfl) rfl ?_
              refine ev_if_ne (tgt := 84) (np := 82) dX10_doesGate_79 (by decide) rfl (by omega) (fun _ => ?_) (fun h => absurd h (by omega))
              rw [if_pos ⟨f1.mp h1, f2.mp h2⟩]
              refine ev_aload_n (np := 85) dX10_doesGate_84 rfl rfl ?_
              refine ev_getR (np := 88) sX10_doesGate_85 rfl rfl rfl ?_
              refine ev_bipush (np := 90) dX10_doesGate_88 (by decide) rfl ?_
              refine ev_iconst (np := 91) dX10_doesGate_90 rfl ?_
              refine ev_iload (np := 93) dX10_doesGate_91 rfl rfl ?_
              refine ev_imul (np := 94) dX10_doesGate_93 rfl ?_
              refine ev_iadd (np := 95) dX10_doesGate_94 rfl ?_
              refine ev_iload_n (np := 96) dX10_doesGate_95 rfl rfl ?_
              refine ev_iastore (np := 97) dX10_doesGate_96 rfl (by omega) (by omega) rfl ?_
              rw [show ((10 : Int) + 3 * (cn s.2.2.2 : Int)).toNat = 10 + 3 * cn s.2.2.2 by omega]
              refine ev_aload_n (np := 98) dX10_doesGate_97 rfl rfl ?_
              refine ev_getR (np := 101) sX10_doesGate_98 rfl rfl rfl ?_
              refine ev_bipush (np := 103) dX10_doesGate_101 (by decide) rfl ?_
              refine ev_iconst (np := 104) dX10_doesGate_103 rfl ?_
              refine ev_iload (np := 106) dX10_doesGate_104 rfl rfl ?_
              refine ev_imul (np := 107) dX10_doesGate_106 rfl ?_
              refine ev_iadd (np := 108) dX10_doesGate_107 rfl ?_
              refine ev_iconst (np := 109) dX10_doesGate_108 rfl ?_
              refine ev_iadd (np := 110) dX10_doesGate_109 rfl ?_
              refine ev_iload_n (np := 111) dX10_doesGate_110 rfl rfl ?_
              refine ev_iastore (np := 112) dX10_doesGate_111 rfl (by omega) (by omega) rfl ?_
              rw [show ((10 : Int) + 3 * (cn s.2.2.2 : Int) + 1).toNat = 10 + 3 * cn s.2.2.2 + 1 by omega]
              refine ev_aload_n (np := 113) dX10_doesGate_112 rfl rfl ?_
              refine ev_getR (np := 116) sX10_doesGate_113 rfl rfl rfl ?_
              refine ev_bipush (np := 118) dX10_doesGate_116 (by decide) rfl ?_
              refine ev_iconst (np := 119) dX10_doesGate_118 rfl ?_
              refine ev_iload (np := 121) dX10_doesGate_119 rfl rfl ?_
              refine ev_imul (np := 122) dX10_doesGate_121 rfl ?_
              refine ev_iadd (np := 123) dX10_doesGate_122 rfl ?_
              refine ev_iconst (np := 124) dX10_doesGate_123 rfl ?_
              refine ev_iadd (np := 125) dX10_doesGate_124 rfl ?_
              refine ev_iload_n (np := 126) dX10_doesGate_125 rfl rfl ?_
              refine ev_iastore (np := 127) dX10_doesGate_126 rfl (by omega) (by omega) rfl ?_
              rw [show ((10 : Int) + 3 * (cn s.2.2.2 : Int) + 2).toNat = 10 + 3 * cn s.2.2.2 + 2 by omega]
              generalize hN3 : updM (updM (updM M (cX 5) (10 + 3 * cn s.2.2.2) (k : Int)) (cX 5) (10 + 3 * cn s.2.2.2 + 1) (d1 : Int)) (cX 5) (10 + 3 * cn s.2.2.2 + 2) (d2 : Int) = N3
              have f3 : Fy (uM [5] []) M N3 := by rw [← hN3]; exact ((Fy.upd rfl).tr (Fy.upd rfl)).tr (Fy.upd rfl)
              have ek : N3 (cX 5) (10 + 3 * cn s.2.2.2) = (k : Int) := by rw [← hN3]; simp [updM]
              have ex : N3 (cX 5) (10 + 3 * cn s.2.2.2 + 1) = (d1 : Int) := by rw [← hN3]; simp [updM]
              have ey : N3 (cX 5) (10 + 3 * cn s.2.2.2 + 2) = (d2 : Int) := by rw [← hN3]; simp [updM]
              have eo : ∀ j, j ≠ 10 + 3 * cn s.2.2.2 → j ≠ 10 + 3 * cn s.2.2.2 + 1 → j ≠ 10 + 3 * cn s.2.2.2 + 2 → N3 (cX 5) j = M (cX 5) j := fun j j1 j2 j3 => by rw [← hN3]; simp [updM, j1, j2, j3]
              clear hN3
              refine ev_aload_n (np := 128) dX10_doesGate_127 rfl rfl ?_
              refine ev_getR (np := 131) sX10_doesGate_128 rfl rfl rfl ?_
              refine ev_iconst (np := 132) dX10_doesGate_131 rfl ?_
              refine ev_dup2 (np := 133) dX10_doesGate_132 rfl ?_
              refine ev_iaload (np := 134) dX10_doesGate_133 rfl (by omega) (by omega) rfl ?_
              rw [show (0 : Int).toNat = 0 from rfl, eo 0 (by omega) (by omega) (by omega), m0]
              refine ev_iconst (np := 135) dX10_doesGate_134 rfl ?_
              refine ev_iadd (np := 136) dX10_doesGate_135 rfl ?_
              refine ev_iastore (np := 137) dX10_doesGate_136 rfl (by omega) (by omega) rfl ?_
              rw [show (0 : Int).toNat = 0 from rfl]
              refine ev_aload_n (np := 138) dX10_doesGate_137 rfl rfl ?_
              refine ev_dup (np := 139) dX10_doesGate_138 rfl ?_
              refine ev_getI (np := 142) sX10_doesGate_139 rfl rfl rfl ?_
              rw [updM_f (b := 5) rfl, f3.fld (j := 7) (by decide), s1]
              refine ev_iconst (np := 143) dX10_doesGate_142 rfl ?_
              refine ev_iadd (np := 144) dX10_doesGate_143 rfl ?_
              refine ev_put (np := 147) sX10_doesGate_144 rfl rfl rfl ?_
              refine ev_iconst (np := 148) dX10_doesGate_147 rfl ?_
              refine ev_iret dX10_doesGate_148 rfl ?_
              generalize hN : updM (updM N3 (cX 5) 0 ((cn s.2.2.2 : Int) + 1)) (cX 0) 7 ((s.1 : Int) + 4) = N
              have o : ∀ i, i ≠ 0 → N (cX 5) i = N3 (cX 5) i := fun i hi => by rw [← hN]; simp [updM, hi]
              have e0 : N (cX 5) 0 = (cn s.2.2.2 : Int) + 1 := by rw [← hN]; simp [updM]
              refine ⟨by show _ = some (Sum.inl ((s.2.1 : Nat) : Int)); rw [h0]; rfl, ⟨by rw [← hN, updM_same]; rfl, ?_, ?_⟩, by rw [← hN]; exact ((f3.le (by decide)).tr (Fy.upd rfl)).tr (Fy.upd rfl)⟩
              · rw [← s2, ← f3.fld (j := 9) (by decide), ← hN]; simp [updM]
              · refine RefC.setG a4 s3 (Nat.le_refl _) (by omega) ?_ (by rw [o _ (by omega)]; exact ek) (by rw [o _ (by omega)]; exact ex) (by rw [o _ (by omega)]; exact ey) (fun i i0 i1 i2 i3 => by rw [o _ i0]; exact eo i i1 i2 i3)
                rw [e0]
                show _ = (((if cn s.2.2.2 = cn s.2.2.2 then cn s.2.2.2 + 1 else cn s.2.2.2 : Nat)) : Int)
                rw [if_pos rfl]
                omega
            · refine ev_Si2 (np := 79) moX10_isAllowed sX10_doesGate_76 (sem_allow_f M (by omega) (by omega) h2) (Nat.le_of_ble_eq_true rfl) rfl ?_
              refine ev_if_ne (tgt := 84) (np := 82) dX10_doesGate_79 (by decide) rfl (by omega) (fun h => absurd (by omega) h) (fun _ => ?_)
              exact no () (fun h => h2 (f2.mpr h.2))
          · refine ev_Si2 (np := 70) moX10_isAllowed sX10_doesGate_67 (sem_allow_f M (by omega) (by omega) h1) (Nat.le_of_ble_eq_true rfl) rfl ?_
            refine ev_if_eq (tgt := 82) (np := 73) dX10_doesGate_70 (by decide) rfl (by omega) (fun _ => ?_) (fun h => absurd (by omega) h)
            exact no () (fun h => h1 (f1.mpr h.1))
        · rw [if_pos (by omega)]
          refine ev_iconst (np := 63) dX10_doesGate_62 rfl ?_
          refine ev_iret dX10_doesGate_63 rfl ?_
          exact ⟨rfl, hs, Fy.rf⟩
      · exact bad (by rw [pGate, if_neg (fun h => g3 (se.mpr h.2.2.2))]) _ _ _
