/-! dropGate, register, output, copy, undo, type, clearText, in the reference -/
theorem sem_mdropGate {M : Mem} {σ : Sg} (hW : SgW σ) (h : InvM M σ) {c : Int} (hc : Rng c) : Sem SM miX10_dropGate [.inr (cX 0), .inl c] M (fun v N => v = some (.inl (spDrop σ c).1) ∧ InvM N (spDrop σ c).2) := by
  refine Sem.of (by decide) SM_ok (Nat.le_of_ble_eq_true rfl) (ls0 := [some (.inr (cX 0)), some (.inl c)]) rfl ?_
  have hC := sel_w hW c
  have hn := hC.1
  refine ev_iload_n (np := 1) dX10_dropGate_0 rfl rfl ?_
  refine ev_iconst (np := 2) dX10_dropGate_1 rfl ?_
  refine ev_iconst (np := 3) dX10_dropGate_2 rfl ?_
  by_cases g1 : 0 ≤ c ∧ c ≤ 1
  · rw [spDrop, if_pos g1]
    have hS := h.sel g1
    generalize sel c σ = C at *
    obtain ⟨b, rfl⟩ := Int.eq_ofNat_of_zero_le g1.1
    rw [Int.toNat_natCast] at hS
    have hb : b ≤ 1 := by omega
    have e0 : M (cX 1) (34 * b) = (cn C : Int) := hS.1
    refine ev_Si3 (np := 6) moX10_in sX10_dropGate_3 (sem_in_t M hc (by omega) (by omega) g1) (Nat.le_of_ble_eq_true rfl) rfl ?_
    refine ev_if_ne (tgt := 12) (np := 9) dX10_dropGate_6 (by decide) rfl (by omega) (fun _ => ?_) (fun h => absurd h (by omega))
    refine ev_aload_n (np := 13) dX10_dropGate_12 rfl rfl ?_
    refine ev_iload_n (np := 14) dX10_dropGate_13 rfl rfl ?_
    refine ev_iconst (np := 15) dX10_dropGate_14 rfl ?_
    refine ev_Vi2 (np := 18) moX10_of sX10_dropGate_15 (sem_of (b := (b : Int)) (i := 0) (by omega) (by omega)) rfl rfl (Nat.le_of_ble_eq_true rfl) rfl ?_
    rw [Int.toNat_natCast, show 34 * b + (0 : Int).toNat = 34 * b from rfl, e0]
    refine ev_if_ne (tgt := 24) (np := 21) dX10_dropGate_18 (by decide) rfl (by omega) (fun h1 => ?_) (fun h1 => ?_)
    · rw [if_neg (by omega)]
      refine ev_aload_n (np := 25) dX10_dropGate_24 rfl rfl ?_
      refine ev_V0 (np := 28) moX10_keeps sX10_dropGate_25 (sem_keeps M ) rfl rfl (Nat.le_of_ble_eq_true rfl) rfl (fun v N1 hq => ?_)
      obtain ⟨rfl, f1, bg⟩ := hq
      have e11 := f1.arr (n := 1) (by decide)
      refine ev_aload_n (np := 29) dX10_dropGate_28 rfl rfl ?_
      refine ev_getR (np := 32) sX10_dropGate_29 rfl rfl rfl ?_
      refine ev_bipush (np := 34) dX10_dropGate_32 (by decide) rfl ?_
      refine ev_iload_n (np := 35) dX10_dropGate_34 rfl rfl ?_
      refine ev_imul (np := 36) dX10_dropGate_35 rfl ?_
      refine ev_dup2 (np := 37) dX10_dropGate_36 rfl ?_
      refine ev_iaload (np := 38) dX10_dropGate_37 rfl (by omega) (by omega) rfl ?_
      rw [show ((34 : Int) * (b : Int)).toNat = 34 * b by omega, e11, e0]
      refine ev_iconst (np := 39) dX10_dropGate_38 rfl ?_
      refine ev_isub (np := 40) dX10_dropGate_39 rfl ?_
      refine ev_iastore (np := 41) dX10_dropGate_40 rfl (by omega) (by omega) rfl ?_
      rw [show ((34 : Int) * (b : Int)).toNat = 34 * b by omega, show (cn C : Int) - 1 = ((cn C - 1 : Nat) : Int) by omega]
      generalize hN4 : updM N1 (cX 1) (34 * b) ((cn C - 1 : Nat) : Int) = N4
      have f4 : Fy (uM [1, 3] []) M N4 := by rw [← hN4]; exact (f1.le (by decide)).tr (Fy.upd rfl)
      have bg4 : ∀ q, q < 68 → N4 (cX 3) q = M (cX 1) q := fun q hq => by rw [← bg q hq, ← hN4]; simp [updM]
      have e4 : ∀ j, j ≠ 34 * b → N4 (cX 1) j = M (cX 1) j := fun j hj => by rw [← e11, ← hN4]; simp [updM, hj]
      have e40 : N4 (cX 1) (34 * b) = ((cn C - 1 : Nat) : Int) := by rw [← hN4, updM_same]
      have r4 : RefS N4 b (drpG C) := by
        have o : ∀ i, i ≠ 0 → N4 (cX 1) (34 * b + i) = M (cX 1) (34 * b + i) := fun i hi => e4 _ (by omega)
        refine ⟨e40, by show N4 (cX 1) (34 * b + 1) = _; rw [o 1 (by decide)]; exact hS.2.1, fun r hr => ⟨by show N4 (cX 1) (34 * b + (2 + r)) = _; rw [o _ (by omega)]; exact (hS.2.2.1 r hr).1, by show N4 (cX 1) (34 * b + (6 + r)) = _; rw [o _ (by omega)]; exact (hS.2.2.1 r hr).2⟩, fun g hg => ?_⟩
        have hg : g < cn C - 1 := hg
        obtain ⟨a1, a2, a3⟩ := hS.2.2.2 g (by omega)
        exact ⟨by show N4 (cX 1) (34 * b + (10 + 3 * g)) = _; rw [o _ (by omega)]; exact a1, by show N4 (cX 1) (34 * b + (10 + 3 * g + 1)) = _; rw [o _ (by omega)]; exact a2, by show N4 (cX 1) (34 * b + (10 + 3 * g + 2)) = _; rw [o _ (by omega)]; exact a3⟩
      refine ev_aload_n (np := 42) dX10_dropGate_41 rfl rfl ?_
      refine ev_aload_n (np := 43) dX10_dropGate_42 rfl rfl ?_
      refine ev_iload_n (np := 44) dX10_dropGate_43 rfl rfl ?_
      refine ev_iconst (np := 45) dX10_dropGate_44 rfl ?_
      refine ev_Vi2 (np := 48) moX10_of sX10_dropGate_45 (sem_of (b := (b : Int)) (i := 0) (by omega) (by omega)) rfl rfl (Nat.le_of_ble_eq_true rfl) rfl ?_
      rw [Int.toNat_natCast, show 34 * b + (0 : Int).toNat = 34 * b from rfl, e40]
      refine ev_V1 (np := 51) moX10_acted sX10_dropGate_48 (sem_mact hW h rfl hb f4 (fun j hj => e4 _ (by omega)) r4 bg4 (v := ((cn C - 1 : Nat) : Int)) (by omega) ) rfl rfl (Nat.le_of_ble_eq_true rfl) rfl (fun v5 N5 hq => ?_)
      obtain ⟨rfl, hI⟩ := hq
      refine ev_iret dX10_dropGate_51 rfl ?_
      exact ⟨rfl, hI⟩
    · rw [if_pos (by omega)]
      refine ev_ldc (np := 23) sX10_dropGate_21 rfl ?_
      refine ev_iret dX10_dropGate_23 rfl ?_
      exact ⟨rfl, h⟩
  · rw [spDrop, if_neg g1]
    refine ev_Si3 (np := 6) moX10_in sX10_dropGate_3 (sem_in_f M hc (by omega) (by omega) g1) (Nat.le_of_ble_eq_true rfl) rfl ?_
    refine ev_if_ne (tgt := 12) (np := 9) dX10_dropGate_6 (by decide) rfl (by omega) (fun h => absurd (by omega) h) (fun _ => ?_)
    refine ev_ldc (np := 11) sX10_dropGate_9 rfl ?_
    refine ev_iret dX10_dropGate_11 rfl ?_
    exact ⟨rfl, h⟩
theorem sem_mregister {M : Mem} {σ : Sg} (hW : SgW σ) (h : InvM M σ) {c r x y : Int} (hc : Rng c) (hr : Rng r) (hx : Rng x) (hy : Rng y) : Sem SM miX10_register [.inr (cX 0), .inl c, .inl r, .inl x, .inl y] M (fun v N => v = some (.inl (spReg σ c r x y).1) ∧ InvM N (spReg σ c r x y).2) := by
  refine Sem.of (by decide) SM_ok (Nat.le_of_ble_eq_true rfl) (ls0 := [some (.inr (cX 0)), some (.inl c), some (.inl r), some (.inl x), some (.inl y), none, none]) rfl ?_
  have hC := sel_w hW c
  have bad : ¬ ((0 ≤ c ∧ c ≤ 1) ∧ (0 ≤ r ∧ r ≤ 3) ∧ (0 ≤ x ∧ x ≤ 15) ∧ (0 ≤ y ∧ y ≤ 1)) → Ev SM miX10_register 38 [some (.inr (cX 0)), some (.inl c), some (.inl r), some (.inl x), some (.inl y), none, none] [] M (fun v N => v = some (.inl (spReg σ c r x y).1) ∧ InvM N (spReg σ c r x y).2) := by
    intro hh
    rw [spReg, if_neg hh]
    refine ev_ldc (np := 40) sX10_register_38 rfl ?_
    refine ev_iret dX10_register_40 rfl ?_
    exact ⟨rfl, h⟩
  refine ev_iload_n (np := 1) dX10_register_0 rfl rfl ?_
  refine ev_iconst (np := 2) dX10_register_1 rfl ?_
  refine ev_iconst (np := 3) dX10_register_2 rfl ?_
  by_cases g1 : 0 ≤ c ∧ c ≤ 1
  · refine ev_Si3 (np := 6) moX10_in sX10_register_3 (sem_in_t M hc (by omega) (by omega) g1) (Nat.le_of_ble_eq_true rfl) rfl ?_
    refine ev_if_eq (tgt := 38) (np := 9) dX10_register_6 (by decide) rfl (by omega) (fun h => absurd h (by omega)) (fun _ => ?_)
    refine ev_iload_n (np := 10) dX10_register_9 rfl rfl ?_
    refine ev_iconst (np := 11) dX10_register_10 rfl ?_
    refine ev_iconst (np := 12) dX10_register_11 rfl ?_
    by_cases g2 : 0 ≤ r ∧ r ≤ 3
    · refine ev_Si3 (np := 15) moX10_in sX10_register_12 (sem_in_t M hr (by omega) (by omega) g2) (Nat.le_of_ble_eq_true rfl) rfl ?_
      refine ev_if_eq (tgt := 38) (np := 18) dX10_register_15 (by decide) rfl (by omega) (fun h => absurd h (by omega)) (fun _ => ?_)
      refine ev_iload_n (np := 19) dX10_register_18 rfl rfl ?_
      refine ev_iconst (np := 20) dX10_register_19 rfl ?_
      refine ev_bipush (np := 22) dX10_register_20 (by decide) rfl ?_
      by_cases g3 : 0 ≤ x ∧ x ≤ 15
      · refine ev_Si3 (np := 25) moX10_in sX10_register_22 (sem_in_t M hx (by omega) (by omega) g3) (Nat.le_of_ble_eq_true rfl) rfl ?_
        refine ev_if_eq (tgt := 38) (np := 28) dX10_register_25 (by decide) rfl (by omega) (fun h => absurd h (by omega)) (fun _ => ?_)
        refine ev_iload (np := 30) dX10_register_28 rfl rfl ?_
        refine ev_iconst (np := 31) dX10_register_30 rfl ?_
        refine ev_iconst (np := 32) dX10_register_31 rfl ?_
        by_cases g4 : 0 ≤ y ∧ y ≤ 1
        · refine ev_Si3 (np := 35) moX10_in sX10_register_32 (sem_in_t M hy (by omega) (by omega) g4) (Nat.le_of_ble_eq_true rfl) rfl ?_
          refine ev_if_ne (tgt := 41) (np := 38) dX10_register_35 (by decide) rfl (by omega) (fun _ => ?_) (fun h => absurd h (by omega))
          rw [spReg, if_pos ⟨g1, g2, g3, g4⟩]
          have hS := h.sel g1
          generalize sel c σ = C at *
          obtain ⟨b, rfl⟩ := Int.eq_ofNat_of_zero_le g1.1
          obtain ⟨r0, rfl⟩ := Int.eq_ofNat_of_zero_le g2.1
          obtain ⟨x0, rfl⟩ := Int.eq_ofNat_of_zero_le g3.1
          obtain ⟨y0, rfl⟩ := Int.eq_ofNat_of_zero_le g4.1
          simp only [Int.toNat_natCast] at hS ⊢
          have hb : b ≤ 1 := by omega
          have hr4 : r0 < 4 := by omega
          obtain ⟨wx, wb⟩ := hC.2.2.1 r0 hr4
          obtain ⟨sx, sb⟩ := hS.2.2.1 r0 hr4
          have sx : M (cX 1) (34 * b + r0 + 2) = (cx C r0 : Int) := by rw [show 34 * b + r0 + 2 = 34 * b + (2 + r0) by omega]; exact sx
          have sb : M (cX 1) (34 * b + r0 + 6) = (cb C r0 : Int) := by rw [show 34 * b + r0 + 6 = 34 * b + (6 + r0) by omega]; exact sb
          refine ev_aload_n (np := 42) dX10_register_41 rfl rfl ?_
          refine ev_V0 (np := 45) moX10_keeps sX10_register_42 (sem_keeps M ) rfl rfl (Nat.le_of_ble_eq_true rfl) rfl (fun v N1 hq => ?_)
          obtain ⟨rfl, f1, bg⟩ := hq
          have e11 := f1.arr (n := 1) (by decide)
          refine ev_bipush (np := 47) dX10_register_45 (by decide) rfl ?_
          refine ev_iload_n (np := 48) dX10_register_47 rfl rfl ?_
          refine ev_imul (np := 49) dX10_register_48 rfl ?_
          refine ev_iload_n (np := 50) dX10_register_49 rfl rfl ?_
          refine ev_iadd (np := 51) dX10_register_50 rfl ?_
          rw [show (34 : Int) * (b : Int) + (r0 : Int) = ((34 * b + r0 : Nat) : Int) by omega]
          refine ev_istore (np := 53) dX10_register_51 (by decide) rfl ?_
          refine ev_iconst (np := 54) dX10_register_53 rfl ?_
          refine ev_aload_n (np := 55) dX10_register_54 rfl rfl ?_
          refine ev_getR (np := 58) sX10_register_55 rfl rfl rfl ?_
          refine ev_iload (np := 60) dX10_register_58 rfl rfl ?_
          refine ev_iconst (np := 61) dX10_register_60 rfl ?_
          refine ev_iadd (np := 62) dX10_register_61 rfl ?_
          refine ev_iaload (np := 63) dX10_register_62 rfl (by omega) (by omega) rfl ?_
          rw [show (((34 * b + r0 : Nat) : Int) + 2).toNat = 34 * b + r0 + 2 by omega, e11, sx]
          refine ev_imul (np := 64) dX10_register_63 rfl ?_
          refine ev_aload_n (np := 65) dX10_register_64 rfl rfl ?_
          refine ev_getR (np := 68) sX10_register_65 rfl rfl rfl ?_
          refine ev_iload (np := 70) dX10_register_68 rfl rfl ?_
          refine ev_bipush (np := 72) dX10_register_70 (by decide) rfl ?_
          refine ev_iadd (np := 73) dX10_register_72 rfl ?_
          refine ev_iaload (np := 74) dX10_register_73 rfl (by omega) (by omega) rfl ?_
          rw [show (((34 * b + r0 : Nat) : Int) + 6).toNat = 34 * b + r0 + 6 by omega, e11, sb]
          refine ev_iadd (np := 75) dX10_register_74 rfl ?_
          refine ev_istore (np := 77) dX10_register_75 (by decide) rfl ?_
          refine ev_aload_n (np := 78) dX10_register_77 rfl rfl ?_
          refine ev_getR (np := 81) sX10_register_78 rfl rfl rfl ?_
          refine ev_iload (np := 83) dX10_register_81 rfl rfl ?_
          refine ev_iconst (np := 84) dX10_register_83 rfl ?_
          refine ev_iadd (np := 85) dX10_register_84 rfl ?_
          refine ev_iload_n (np := 86) dX10_register_85 rfl rfl ?_
          rw [show (2 : Int) * (cx C r0 : Int) + (cb C r0 : Int) = ((2 * cx C r0 + cb C r0 : Nat) : Int) by omega]
          refine ev_iastore (np := 87) dX10_register_86 rfl (by omega) (by omega) rfl ?_
          rw [show (((34 * b + r0 : Nat) : Int) + 2).toNat = 34 * b + r0 + 2 by omega]
          refine ev_aload_n (np := 88) dX10_register_87 rfl rfl ?_
          refine ev_getR (np := 91) sX10_register_88 rfl rfl rfl ?_
          refine ev_iload (np := 93) dX10_register_91 rfl rfl ?_
          refine ev_bipush (np := 95) dX10_register_93 (by decide) rfl ?_
          refine ev_iadd (np := 96) dX10_register_95 rfl ?_
          refine ev_iload (np := 98) dX10_register_96 rfl rfl ?_
          refine ev_iastore (np := 99) dX10_register_98 rfl (by omega) (by omega) rfl ?_
          rw [show (((34 * b + r0 : Nat) : Int) + 6).toNat = 34 * b + r0 + 6 by omega]
          generalize hN4 : updM (updM N1 (cX 1) (34 * b + r0 + 2) (x0 : Int)) (cX 1) (34 * b + r0 + 6) (y0 : Int) = N4
          have f4 : Fy (uM [1, 3] []) M N4 := by rw [← hN4]; exact ((f1.le (by decide)).tr (Fy.upd rfl)).tr (Fy.upd rfl)
          have bg4 : ∀ q, q < 68 → N4 (cX 3) q = M (cX 1) q := fun q hq => by rw [← bg q hq, ← hN4]; simp [updM]
          have e4 : ∀ j, j ≠ 34 * b + r0 + 2 → j ≠ 34 * b + r0 + 6 → N4 (cX 1) j = M (cX 1) j := fun j j1 j2 => by rw [← e11, ← hN4]; simp [updM, j1, j2]
          have ex : N4 (cX 1) (34 * b + r0 + 2) = (x0 : Int) := by rw [← hN4]; simp [updM]
          have ey : N4 (cX 1) (34 * b + r0 + 6) = (y0 : Int) := by rw [← hN4]; simp [updM]
          have r4 : RefS N4 b (setR C r0 x0 y0) := by
            have o : ∀ i, i ≠ 2 + r0 → i ≠ 6 + r0 → N4 (cX 1) (34 * b + i) = M (cX 1) (34 * b + i) := fun i i1 i2 => e4 _ (by omega) (by omega)
            have hn := hC.1
            refine ⟨by show N4 (cX 1) (34 * b + 0) = _; rw [o 0 (by omega) (by omega)]; exact hS.1, by show N4 (cX 1) (34 * b + 1) = _; rw [o 1 (by omega) (by omega)]; exact hS.2.1, fun r hr => ?_, fun g hg => ?_⟩
            · by_cases e : r = r0
              · subst e
                refine ⟨?_, ?_⟩
                · show N4 (cX 1) (34 * b + (2 + r)) = (((if r = r then x0 else C.2.2.1 r) : Nat) : Int)
                  rw [if_pos rfl, show 34 * b + (2 + r) = 34 * b + r + 2 by omega, ex]
                · show N4 (cX 1) (34 * b + (6 + r)) = (((if r = r then y0 else C.2.2.2.1 r) : Nat) : Int)
                  rw [if_pos rfl, show 34 * b + (6 + r) = 34 * b + r + 6 by omega, ey]
              · refine ⟨?_, ?_⟩
                · show N4 (cX 1) (34 * b + (2 + r)) = (((if r = r0 then x0 else C.2.2.1 r) : Nat) : Int)
                  rw [if_neg e, o _ (by omega) (by omega)]
                  exact (hS.2.2.1 r hr).1
                · show N4 (cX 1) (34 * b + (6 + r)) = (((if r = r0 then y0 else C.2.2.2.1 r) : Nat) : Int)
                  rw [if_neg e, o _ (by omega) (by omega)]
                  exact (hS.2.2.1 r hr).2
            · have hg : g < cn C := hg
              obtain ⟨a1, a2, a3⟩ := hS.2.2.2 g hg
              exact ⟨by show N4 (cX 1) (34 * b + (10 + 3 * g)) = _; rw [o _ (by omega) (by omega)]; exact a1, by show N4 (cX 1) (34 * b + (10 + 3 * g + 1)) = _; rw [o _ (by omega) (by omega)]; exact a2, by show N4 (cX 1) (34 * b + (10 + 3 * g + 2)) = _; rw [o _ (by omega) (by omega)]; exact a3⟩
          refine ev_aload_n (np := 100) dX10_register_99 rfl rfl ?_
          refine ev_iload (np := 102) dX10_register_100 rfl rfl ?_
          refine ev_V1 (np := 105) moX10_acted sX10_register_102 (sem_mact hW h rfl hb f4 (fun j hj => e4 _ (by omega) (by omega)) r4 bg4 (v := ((2 * cx C r0 + cb C r0 : Nat) : Int)) (by omega) ) rfl rfl (Nat.le_of_ble_eq_true rfl) rfl (fun v5 N5 hq => ?_)
          obtain ⟨rfl, hI⟩ := hq
          refine ev_iret dX10_register_105 rfl ?_
          exact ⟨rfl, hI⟩
        · refine ev_Si3 (np := 35) moX10_in sX10_register_32 (sem_in_f M hy (by omega) (by omega) g4) (Nat.le_of_ble_eq_true rfl) rfl ?_
          refine ev_if_ne (tgt := 41) (np := 38) dX10_register_35 (by decide) rfl (by omega) (fun h => absurd (by omega) h) (fun _ => ?_)
          exact bad (fun q => g4 q.2.2.2)
      · refine ev_Si3 (np := 25) moX10_in sX10_register_22 (sem_in_f M hx (by omega) (by omega) g3) (Nat.le_of_ble_eq_true rfl) rfl ?_
        refine ev_if_eq (tgt := 38) (np := 28) dX10_register_25 (by decide) rfl (by omega) (fun _ => ?_) (fun h => absurd (by omega) h)
        exact bad (fun q => g3 q.2.2.1)
    · refine ev_Si3 (np := 15) moX10_in sX10_register_12 (sem_in_f M hr (by omega) (by omega) g2) (Nat.le_of_ble_eq_true rfl) rfl ?_
      refine ev_if_eq (tgt := 38) (np := 18) dX10_register_15 (by decide) rfl (by omega) (fun _ => ?_) (fun h => absurd (by omega) h)
      exact bad (fun q => g2 q.2.1)
  · refine ev_Si3 (np := 6) moX10_in sX10_register_3 (sem_in_f M hc (by omega) (by omega) g1) (Nat.le_of_ble_eq_true rfl) rfl ?_
    refine ev_if_eq (tgt := 38) (np := 9) dX10_register_6 (by decide) rfl (by omega) (fun _ => ?_) (fun h => absurd (by omega) h)
    exact bad (fun q => g1 q.1)
theorem sem_moutput {M : Mem} {σ : Sg} (hW : SgW σ) (h : InvM M σ) {c w : Int} (hc : Rng c) (hw : Rng w) : Sem SM miX10_output [.inr (cX 0), .inl c, .inl w] M (fun v N => v = some (.inl (spOut σ c w).1) ∧ InvM N (spOut σ c w).2) := by
  refine Sem.of (by decide) SM_ok (Nat.le_of_ble_eq_true rfl) (ls0 := [some (.inr (cX 0)), some (.inl c), some (.inl w), none]) rfl ?_
  have hC := sel_w hW c
  have bad : ¬ ((0 ≤ c ∧ c ≤ 1) ∧ (0 ≤ w ∧ w ≤ 15)) → Ev SM miX10_output 19 [some (.inr (cX 0)), some (.inl c), some (.inl w), none] [] M (fun v N => v = some (.inl (spOut σ c w).1) ∧ InvM N (spOut σ c w).2) := by
    intro hh
    rw [spOut, if_neg hh]
    refine ev_ldc (np := 21) sX10_output_19 rfl ?_
    refine ev_iret dX10_output_21 rfl ?_
    exact ⟨rfl, h⟩
  refine ev_iload_n (np := 1) dX10_output_0 rfl rfl ?_
  refine ev_iconst (np := 2) dX10_output_1 rfl ?_
  refine ev_iconst (np := 3) dX10_output_2 rfl ?_
  by_cases g1 : 0 ≤ c ∧ c ≤ 1
  · refine ev_Si3 (np := 6) moX10_in sX10_output_3 (sem_in_t M hc (by omega) (by omega) g1) (Nat.le_of_ble_eq_true rfl) rfl ?_
    refine ev_if_eq (tgt := 19) (np := 9) dX10_output_6 (by decide) rfl (by omega) (fun h => absurd h (by omega)) (fun _ => ?_)
    refine ev_iload_n (np := 10) dX10_output_9 rfl rfl ?_
    refine ev_iconst (np := 11) dX10_output_10 rfl ?_
    refine ev_bipush (np := 13) dX10_output_11 (by decide) rfl ?_
    by_cases g2 : 0 ≤ w ∧ w ≤ 15
    · refine ev_Si3 (np := 16) moX10_in sX10_output_13 (sem_in_t M hw (by omega) (by omega) g2) (Nat.le_of_ble_eq_true rfl) rfl ?_
      refine ev_if_ne (tgt := 22) (np := 19) dX10_output_16 (by decide) rfl (by omega) (fun _ => ?_) (fun h => absurd h (by omega))
      rw [spOut, if_pos ⟨g1, g2⟩]
      have hS := h.sel g1
      generalize sel c σ = C at *
      obtain ⟨b, rfl⟩ := Int.eq_ofNat_of_zero_le g1.1
      obtain ⟨w0, rfl⟩ := Int.eq_ofNat_of_zero_le g2.1
      simp only [Int.toNat_natCast] at hS ⊢
      have hb : b ≤ 1 := by omega
      have ho := hC.2.1
      have hn := hC.1
      refine ev_aload_n (np := 23) dX10_output_22 rfl rfl ?_
      refine ev_V0 (np := 26) moX10_keeps sX10_output_23 (sem_keeps M ) rfl rfl (Nat.le_of_ble_eq_true rfl) rfl (fun v N1 hq => ?_)
      obtain ⟨rfl, f1, bg⟩ := hq
      have e11 := f1.arr (n := 1) (by decide)
      refine ev_aload_n (np := 27) dX10_output_26 rfl rfl ?_
      refine ev_iload_n (np := 28) dX10_output_27 rfl rfl ?_
      refine ev_iconst (np := 29) dX10_output_28 rfl ?_
      refine ev_Vi2 (np := 32) moX10_of sX10_output_29 (sem_of (b := (b : Int)) (i := 1) (by omega) (by omega)) rfl rfl (Nat.le_of_ble_eq_true rfl) rfl ?_
      rw [Int.toNat_natCast, show N1 (cX 1) (34 * b + (1 : Int).toNat) = (co C : Int) by rw [e11]; exact hS.2.1]
      refine ev_istore_n (np := 33) dX10_output_32 (by decide) rfl ?_
      refine ev_aload_n (np := 34) dX10_output_33 rfl rfl ?_
      refine ev_getR (np := 37) sX10_output_34 rfl rfl rfl ?_
      refine ev_bipush (np := 39) dX10_output_37 (by decide) rfl ?_
      refine ev_iload_n (np := 40) dX10_output_39 rfl rfl ?_
      refine ev_imul (np := 41) dX10_output_40 rfl ?_
      refine ev_iconst (np := 42) dX10_output_41 rfl ?_
      refine ev_iadd (np := 43) dX10_output_42 rfl ?_
      refine ev_iload_n (np := 44) dX10_output_43 rfl rfl ?_
      refine ev_iastore (np := 45) dX10_output_44 rfl (by omega) (by omega) rfl ?_
      rw [show ((34 : Int) * (b : Int) + 1).toNat = 34 * b + 1 by omega]
      generalize hN4 : updM N1 (cX 1) (34 * b + 1) (w0 : Int) = N4
      have f4 : Fy (uM [1, 3] []) M N4 := by rw [← hN4]; exact (f1.le (by decide)).tr (Fy.upd rfl)
      have bg4 : ∀ q, q < 68 → N4 (cX 3) q = M (cX 1) q := fun q hq => by rw [← bg q hq, ← hN4]; simp [updM]
      have e4 : ∀ j, j ≠ 34 * b + 1 → N4 (cX 1) j = M (cX 1) j := fun j hj => by rw [← e11, ← hN4]; simp [updM, hj]
      have r4 : RefS N4 b (setO C w0) := by
        have o : ∀ i, i ≠ 1 → N4 (cX 1) (34 * b + i) = M (cX 1) (34 * b + i) := fun i hi => e4 _ (by omega)
        refine ⟨by show N4 (cX 1) (34 * b + 0) = _; rw [o 0 (by omega)]; exact hS.1, by show N4 (cX 1) (34 * b + 1) = _; rw [← hN4, updM_same]; rfl, fun r hr => ⟨by show N4 (cX 1) (34 * b + (2 + r)) = _; rw [o _ (by omega)]; exact (hS.2.2.1 r hr).1, by show N4 (cX 1) (34 * b + (6 + r)) = _; rw [o _ (by omega)]; exact (hS.2.2.1 r hr).2⟩, fun g hg => ?_⟩
        have hg : g < cn C := hg
        obtain ⟨a1, a2, a3⟩ := hS.2.2.2 g hg
        exact ⟨by show N4 (cX 1) (34 * b + (10 + 3 * g)) = _; rw [o _ (by omega)]; exact a1, by show N4 (cX 1) (34 * b + (10 + 3 * g + 1)) = _; rw [o _ (by omega)]; exact a2, by show N4 (cX 1) (34 * b + (10 + 3 * g + 2)) = _; rw [o _ (by omega)]; exact a3⟩
      refine ev_aload_n (np := 46) dX10_output_45 rfl rfl ?_
      refine ev_iload_n (np := 47) dX10_output_46 rfl rfl ?_
      refine ev_V1 (np := 50) moX10_acted sX10_output_47 (sem_mact hW h rfl hb f4 (fun j hj => e4 _ (by omega)) r4 bg4 (v := (co C : Int)) (by omega) ) rfl rfl (Nat.le_of_ble_eq_true rfl) rfl (fun v5 N5 hq => ?_)
      obtain ⟨rfl, hI⟩ := hq
      refine ev_iret dX10_output_50 rfl ?_
      exact ⟨rfl, hI⟩
    · refine ev_Si3 (np := 16) moX10_in sX10_output_13 (sem_in_f M hw (by omega) (by omega) g2) (Nat.le_of_ble_eq_true rfl) rfl ?_
      refine ev_if_ne (tgt := 22) (np := 19) dX10_output_16 (by decide) rfl (by omega) (fun h => absurd (by omega) h) (fun _ => ?_)
      exact bad (fun q => g2 q.2)
  · refine ev_Si3 (np := 6) moX10_in sX10_output_3 (sem_in_f M hc (by omega) (by omega) g1) (Nat.le_of_ble_eq_true rfl) rfl ?_
    refine ev_if_eq (tgt := 19) (np := 9) dX10_output_6 (by decide) rfl (by omega) (fun _ => ?_) (fun h => absurd (by omega) h)
    exact bad (fun q => g1 q.1)
theorem mcopy_loop {M N1 : Mem} {σ : Sg} (hW : SgW σ) (h : InvM M σ) {b : Nat} (hb : b ≤ 1) (hS : RefS M b (sel (b : Int) σ)) (f1 : Fy (uM [3] []) M N1) (bg : ∀ q, q < 68 → N1 (cX 3) q = M (cX 1) q) : ∀ (m i : Nat) (N : Mem), i + m = 34 → Fy (uM [1] []) N1 N → (∀ j, (j < 34 * (1 - b) ∨ 34 * (1 - b) + 34 ≤ j) → N (cX 1) j = M (cX 1) j) → (∀ q, q < i → N (cX 1) (34 * (1 - b) + q) = M (cX 1) (34 * b + q)) → Ev SM miX10_copy 18 [some (.inr (cX 0)), some (.inl (b : Int)), some (.inl (i : Int))] [] N (fun v N => v = some (.inl (cn (sel (b : Int) σ) : Nat)) ∧ InvM N (put (1 - (b : Int)) (sel (b : Int) σ) (rec1 σ))) := by
  have hC := sel_w hW (b : Int)
  have hn := hC.1
  intro m
  induction m with
  | zero =>
    intro i N hi hf ho hd
    have hs1 : N (cX 1) (34 * b) = (cn (sel (b : Int) σ) : Int) := by
      rw [ho _ (by omega)]
      exact hS.1
    refine ev_iload_n (np := 19) dX10_copy_18 rfl rfl ?_
    refine ev_bipush (np := 21) dX10_copy_19 (by decide) rfl ?_
    refine ev_icmp_ge (tgt := 54) (np := 24) dX10_copy_21 (by decide) rfl (by omega) (by omega) (fun _ => ?_) (fun h => absurd (by omega) h)
    refine ev_aload_n (np := 55) dX10_copy_54 rfl rfl ?_
    refine ev_aload_n (np := 56) dX10_copy_55 rfl rfl ?_
    refine ev_iload_n (np := 57) dX10_copy_56 rfl rfl ?_
    refine ev_iconst (np := 58) dX10_copy_57 rfl ?_
    refine ev_Vi2 (np := 61) moX10_of sX10_copy_58 (sem_of (b := (b : Int)) (i := 0) (by omega) (by omega)) rfl rfl (Nat.le_of_ble_eq_true rfl) rfl ?_
    rw [Int.toNat_natCast, show 34 * b + (0 : Int).toNat = 34 * b from rfl, hs1]
    refine ev_V1 (np := 64) moX10_acted sX10_copy_61 (sem_mact hW h (c := 1 - (b : Int)) (b := 1 - b) (by omega) (by omega) (C' := sel (b : Int) σ) ((f1.le (by decide)).tr (hf.le (by decide))) ho (RefC.of hC hS (fun i hi => hd i (by omega))) (fun q hq => by rw [hf.arr (n := 3) (by decide)]; exact bg q hq) (v := (cn (sel (b : Int) σ) : Int)) (by omega) ) rfl rfl (Nat.le_of_ble_eq_true rfl) rfl (fun v5 N5 hq => ?_)
    obtain ⟨rfl, hI⟩ := hq
    refine ev_iret dX10_copy_64 rfl ?_
    exact ⟨rfl, hI⟩
  | succ m ih =>
    intro i N hi hf ho hd
    refine ev_iload_n (np := 19) dX10_copy_18 rfl rfl ?_
    refine ev_bipush (np := 21) dX10_copy_19 (by decide) rfl ?_
    refine ev_icmp_ge (tgt := 54) (np := 24) dX10_copy_21 (by decide) rfl (by omega) (by omega) (fun h => absurd h (by omega)) (fun _ => ?_)
    refine ev_aload_n (np := 25) dX10_copy_24 rfl rfl ?_
    refine ev_getR (np := 28) sX10_copy_25 rfl rfl rfl ?_
    refine ev_bipush (np := 30) dX10_copy_28 (by decide) rfl ?_
    refine ev_iconst (np := 31) dX10_copy_30 rfl ?_
    refine ev_iload_n (np := 32) dX10_copy_31 rfl rfl ?_
    refine ev_isub (np := 33) dX10_copy_32 rfl ?_
    refine ev_imul (np := 34) dX10_copy_33 rfl ?_
    refine ev_iload_n (np := 35) dX10_copy_34 rfl rfl ?_
    refine ev_iadd (np := 36) dX10_copy_35 rfl ?_
    refine ev_aload_n (np := 37) dX10_copy_36 rfl rfl ?_
    refine ev_getR (np := 40) sX10_copy_37 rfl rfl rfl ?_
    refine ev_bipush (np := 42) dX10_copy_40 (by decide) rfl ?_
    refine ev_iload_n (np := 43) dX10_copy_42 rfl rfl ?_
    refine ev_imul (np := 44) dX10_copy_43 rfl ?_
    refine ev_iload_n (np := 45) dX10_copy_44 rfl rfl ?_
    refine ev_iadd (np := 46) dX10_copy_45 rfl ?_
    refine ev_iaload (np := 47) dX10_copy_46 rfl (by omega) (by omega) rfl ?_
    rw [show ((34 : Int) * (b : Int) + (i : Int)).toNat = 34 * b + i by omega, hf.arr (n := 3) (by decide), bg _ (by omega)]
    refine ev_iastore (np := 48) dX10_copy_47 rfl (by omega) (by omega) rfl ?_
    rw [show ((34 : Int) * (1 - (b : Int)) + (i : Int)).toNat = 34 * (1 - b) + i by omega]
    refine ev_iinc (np := 51) dX10_copy_48 rfl (by decide) rfl ?_
    refine ev_goto (np := 18) dX10_copy_51 (by decide) ?_
    refine ih (i + 1) _ (by omega) (hf.tr (Fy.upd rfl)) (fun j hj => ?_) (fun q hq => ?_)
    · rw [← ho j hj]
      have : ¬ j = 34 * (1 - b) + i := by omega
      simp [updM, this]
    · by_cases e : q = i
      · rw [e, updM_same]
      · rw [← hd q (by omega)]
        simp [updM, e]
theorem sem_mcopy {M : Mem} {σ : Sg} (hW : SgW σ) (h : InvM M σ) {c : Int} (hc : Rng c) : Sem SM miX10_copy [.inr (cX 0), .inl c] M (fun v N => v = some (.inl (spCopy σ c).1) ∧ InvM N (spCopy σ c).2) := by
  refine Sem.of (by decide) SM_ok (Nat.le_of_ble_eq_true rfl) (ls0 := [some (.inr (cX 0)), some (.inl c), none]) rfl ?_
  refine ev_iload_n (np := 1) dX10_copy_0 rfl rfl ?_
  refine ev_iconst (np := 2) dX10_copy_1 rfl ?_
  refine ev_iconst (np := 3) dX10_copy_2 rfl ?_
  by_cases g1 : 0 ≤ c ∧ c ≤ 1
  · rw [spCopy, if_pos g1]
    have hS := h.sel g1
    obtain ⟨b, rfl⟩ := Int.eq_ofNat_of_zero_le g1.1
    rw [Int.toNat_natCast] at hS
    refine ev_Si3 (np := 6) moX10_in sX10_copy_3 (sem_in_t M hc (by omega) (by omega) g1) (Nat.le_of_ble_eq_true rfl) rfl ?_
    refine ev_if_ne (tgt := 12) (np := 9) dX10_copy_6 (by decide) rfl (by omega) (fun _ => ?_) (fun h => absurd h (by omega))
    refine ev_aload_n (np := 13) dX10_copy_12 rfl rfl ?_
    refine ev_V0 (np := 16) moX10_keeps sX10_copy_13 (sem_keeps M ) rfl rfl (Nat.le_of_ble_eq_true rfl) rfl (fun v N1 hq => ?_)
    obtain ⟨rfl, f1, bg⟩ := hq
    refine ev_iconst (np := 17) dX10_copy_16 rfl ?_
    refine ev_istore_n (np := 18) dX10_copy_17 (by decide) rfl ?_
    exact mcopy_loop hW h (by omega) hS f1 bg 34 0 N1 rfl Fy.rf (fun j hj => by rw [f1.arr (n := 1) (by decide)]) (fun q hq => absurd hq (Nat.not_lt_zero q))
  · rw [spCopy, if_neg g1]
    refine ev_Si3 (np := 6) moX10_in sX10_copy_3 (sem_in_f M hc (by omega) (by omega) g1) (Nat.le_of_ble_eq_true rfl) rfl ?_
    refine ev_if_ne (tgt := 12) (np := 9) dX10_copy_6 (by decide) rfl (by omega) (fun h => absurd (by omega) h) (fun _ => ?_)
    refine ev_ldc (np := 11) sX10_copy_9 rfl ?_
    refine ev_iret dX10_copy_11 rfl ?_
    exact ⟨rfl, h⟩
theorem mundo_loop {M N1 : Mem} {σ : Sg} (hW : SgW σ) (h : InvM M σ) {n : Nat} (hn : σ.2.2.1.1 = n + 1) (f1 : Fy (uM [] [3]) M N1) (h3 : N1 (cX 0) 3 = (n : Int)) : ∀ (m i : Nat) (N : Mem), i + m = 68 → Fy (uM [1] []) N1 N → (∀ q, q < i → N (cX 1) q = M (cX 2) (68 * n + q)) → Ev SM miX10_undo 22 [some (.inr (cX 0)), some (.inl (i : Int))] [] N (fun v N => v = some (.inl (n : Int)) ∧ InvM N ((σ.2.2.1.2 n).1, (σ.2.2.1.2 n).2, (n, σ.2.2.1.2), σ.2.2.2)) := by
  obtain ⟨a1, a2, a3, a4⟩ := h
  have hle := hW.2.2.1.1
  obtain ⟨w1, w2⟩ := hW.2.2.1.2 n (by omega)
  obtain ⟨c1, c2⟩ := a3.2 n (by omega)
  intro m
  induction m with
  | zero =>
    intro i N hi hf hd
    have h3' : N (cX 0) 3 = (n : Int) := by rw [hf.fld (j := 3) (by decide)]; exact h3
    refine ev_iload_n (np := 23) dX10_undo_22 rfl rfl ?_
    refine ev_bipush (np := 25) dX10_undo_23 (by decide) rfl ?_
    refine ev_icmp_ge (tgt := 54) (np := 28) dX10_undo_25 (by decide) rfl (by omega) (by omega) (fun _ => ?_) (fun h => absurd (by omega) h)
    refine ev_aload_n (np := 55) dX10_undo_54 rfl rfl ?_
    refine ev_getI (np := 58) sX10_undo_55 rfl rfl rfl ?_
    rw [h3']
    refine ev_iret dX10_undo_58 rfl ?_
    have e2 : N (cX 2) = M (cX 2) := by rw [hf.arr (n := 2) (by decide), f1.arr (n := 2) (by decide)]
    refine ⟨rfl, RefC.of w1 c1 (fun i hi => ?_), RefC.of w2 c2 (fun i hi => ?_), ⟨h3', fun e he => ?_⟩, ?_⟩
    · show N (cX 1) (34 * 0 + i) = _
      rw [Nat.mul_zero, Nat.zero_add]
      exact hd i (by omega)
    · show N (cX 1) (34 * 1 + i) = M (cX 2) (68 * n + 34 + i)
      rw [Nat.mul_one, hd (34 + i) (by omega), ← Nat.add_assoc]
    · have he : e < n := he
      rw [e2]
      exact a3.2 e (by omega)
    · unfold TxM
      rw [hf.fld (j := 5) (by decide), hf.arr (n := 4) (by decide), f1.fld (j := 5) (by decide), f1.arr (n := 4) (by decide)]
      exact a4
  | succ m ih =>
    intro i N hi hf hd
    have h3' : N (cX 0) 3 = (n : Int) := by rw [hf.fld (j := 3) (by decide)]; exact h3
    refine ev_iload_n (np := 23) dX10_undo_22 rfl rfl ?_
    refine ev_bipush (np := 25) dX10_undo_23 (by decide) rfl ?_
    refine ev_icmp_ge (tgt := 54) (np := 28) dX10_undo_25 (by decide) rfl (by omega) (by omega) (fun h => absurd h (by omega)) (fun _ => ?_)
    refine ev_aload_n (np := 29) dX10_undo_28 rfl rfl ?_
    refine ev_getR (np := 32) sX10_undo_29 rfl rfl rfl ?_
    refine ev_iload_n (np := 33) dX10_undo_32 rfl rfl ?_
    refine ev_aload_n (np := 34) dX10_undo_33 rfl rfl ?_
    refine ev_getR (np := 37) sX10_undo_34 rfl rfl rfl ?_
    refine ev_bipush (np := 39) dX10_undo_37 (by decide) rfl ?_
    refine ev_aload_n (np := 40) dX10_undo_39 rfl rfl ?_
    refine ev_getI (np := 43) sX10_undo_40 rfl rfl rfl ?_
    rw [h3']
    refine ev_imul (np := 44) dX10_undo_43 rfl ?_
    refine ev_iload_n (np := 45) dX10_undo_44 rfl rfl ?_
    refine ev_iadd (np := 46) dX10_undo_45 rfl ?_
    refine ev_iaload (np := 47) dX10_undo_46 rfl (by omega) (by omega) rfl ?_
    rw [show ((68 : Int) * (n : Int) + (i : Int)).toNat = 68 * n + i by omega, hf.arr (n := 2) (by decide), f1.arr (n := 2) (by decide)]
    refine ev_iastore (np := 48) dX10_undo_47 rfl (by omega) (by omega) rfl ?_
    rw [Int.toNat_natCast]
    refine ev_iinc (np := 51) dX10_undo_48 rfl (by decide) rfl ?_
    refine ev_goto (np := 22) dX10_undo_51 (by decide) ?_
    refine ih (i + 1) _ (by omega) (hf.tr (Fy.upd rfl)) (fun q hq => ?_)
    by_cases e : q = i
    · rw [e, updM_same]
    · rw [← hd q (by omega)]
      simp [updM, e]
theorem sem_mundo {M : Mem} {σ : Sg} (hW : SgW σ) (h : InvM M σ) : Sem SM miX10_undo [.inr (cX 0)] M (fun v N => v = some (.inl (spUndo σ).1) ∧ InvM N (spUndo σ).2) := by
  refine Sem.of (by decide) SM_ok (Nat.le_of_ble_eq_true rfl) (ls0 := [some (.inr (cX 0)), none]) rfl ?_
  have hle := hW.2.2.1.1
  have h3 := h.2.2.1.1
  refine ev_aload_n (np := 1) dX10_undo_0 rfl rfl ?_
  refine ev_getI (np := 4) sX10_undo_1 rfl rfl rfl ?_
  rw [h3]
  refine ev_if_ne (tgt := 10) (np := 7) dX10_undo_4 (by decide) rfl (by omega) (fun g => ?_) (fun g => ?_)
  · rw [spUndo, if_neg (by omega)]
    obtain ⟨n, hn⟩ : ∃ n, σ.2.2.1.1 = n + 1 := ⟨σ.2.2.1.1 - 1, by omega⟩
    refine ev_aload_n (np := 11) dX10_undo_10 rfl rfl ?_
    refine ev_dup (np := 12) dX10_undo_11 rfl ?_
    refine ev_getI (np := 15) sX10_undo_12 rfl rfl rfl ?_
    rw [h3]
    refine ev_iconst (np := 16) dX10_undo_15 rfl ?_
    refine ev_isub (np := 17) dX10_undo_16 rfl ?_
    refine ev_put (np := 20) sX10_undo_17 rfl rfl rfl ?_
    refine ev_iconst (np := 21) dX10_undo_20 rfl ?_
    refine ev_istore_n (np := 22) dX10_undo_21 (by decide) rfl ?_
    have K := mundo_loop hW h hn (N1 := updM M (cX 0) 3 ((σ.2.2.1.1 : Int) - 1)) (Fy.upd rfl) (by rw [updM_same]; omega) 68 0 _ rfl Fy.rf (fun q hq => absurd hq (Nat.not_lt_zero q))
    rw [hn] at K ⊢
    exact K
  · rw [spUndo, if_pos (by omega)]
    refine ev_ldc (np := 9) sX10_undo_7 rfl ?_
    refine ev_iret dX10_undo_9 rfl ?_
    exact ⟨rfl, h⟩
theorem sem_mtype {M : Mem} {σ : Sg} (hW : SgW σ) (h : InvM M σ) {c : Int} (hc : Rng c) : Sem SM miX10_type [.inr (cX 0), .inl c] M (fun v N => v = some (.inl (spType σ c).1) ∧ InvM N (spType σ c).2) := by
  refine Sem.of (by decide) SM_ok (Nat.le_of_ble_eq_true rfl) (ls0 := [some (.inr (cX 0)), some (.inl c)]) rfl ?_
  have hle := hW.2.2.2.1
  obtain ⟨a1, a2, a3, h5, h4⟩ := id h
  refine ev_iload_n (np := 1) dX10_type_0 rfl rfl ?_
  refine ev_bipush (np := 3) dX10_type_1 (by decide) rfl ?_
  refine ev_bipush (np := 5) dX10_type_3 (by decide) rfl ?_
  by_cases g1 : 32 ≤ c ∧ c ≤ 126
  · rw [spType, if_pos g1]
    refine ev_Si3 (np := 8) moX10_in sX10_type_5 (sem_in_t M hc (by omega) (by omega) g1) (Nat.le_of_ble_eq_true rfl) rfl ?_
    refine ev_if_ne (tgt := 14) (np := 11) dX10_type_8 (by decide) rfl (by omega) (fun _ => ?_) (fun h => absurd h (by omega))
    refine ev_aload_n (np := 15) dX10_type_14 rfl rfl ?_
    refine ev_getI (np := 18) sX10_type_15 rfl rfl rfl ?_
    rw [h5]
    refine ev_bipush (np := 20) dX10_type_18 (by decide) rfl ?_
    refine ev_icmp_ne (tgt := 26) (np := 23) dX10_type_20 (by decide) rfl (by omega) (by omega) (fun g => ?_) (fun g => ?_)
    · rw [if_neg (by omega)]
      obtain ⟨c0, rfl⟩ := Int.eq_ofNat_of_zero_le (show 0 ≤ c by omega)
      rw [Int.toNat_natCast]
      refine ev_aload_n (np := 27) dX10_type_26 rfl rfl ?_
      refine ev_getR (np := 30) sX10_type_27 rfl rfl rfl ?_
      refine ev_aload_n (np := 31) dX10_type_30 rfl rfl ?_
      refine ev_getI (np := 34) sX10_type_31 rfl rfl rfl ?_
      rw [h5]
      refine ev_iload_n (np := 35) dX10_type_34 rfl rfl ?_
      refine ev_i2c (np := 36) dX10_type_35 (by omega) rfl ?_
      refine ev_castore (np := 37) dX10_type_36 rfl (by omega) (by omega) (by omega) rfl ?_
      rw [Int.toNat_natCast]
      refine ev_aload_n (np := 38) dX10_type_37 rfl rfl ?_
      refine ev_dup (np := 39) dX10_type_38 rfl ?_
      refine ev_getI (np := 42) sX10_type_39 rfl rfl rfl ?_
      rw [updM_f (b := 4) rfl, h5]
      refine ev_iconst (np := 43) dX10_type_42 rfl ?_
      refine ev_iadd (np := 44) dX10_type_43 rfl ?_
      refine ev_put (np := 47) sX10_type_44 rfl rfl rfl ?_
      refine ev_aload_n (np := 48) dX10_type_47 rfl rfl ?_
      refine ev_getI (np := 51) sX10_type_48 rfl rfl rfl ?_
      rw [updM_same]
      refine ev_iret dX10_type_51 rfl ?_
      generalize hN : updM (updM M (cX 4) σ.2.2.2.1 (c0 : Int)) (cX 0) 5 ((σ.2.2.2.1 : Int) + 1) = N
      have f : Fy (uM [4] [5]) M N := by rw [← hN]; exact (Fy.upd rfl).tr (Fy.upd rfl)
      have e1 := f.arr (n := 1) (by decide)
      have e2 := f.arr (n := 2) (by decide)
      refine ⟨rfl, a1.eq e1, a2.eq e1, ⟨by rw [f.fld (j := 3) (by decide)]; exact a3.1, by rw [e2]; exact a3.2⟩, by rw [← hN, updM_same]; show _ = (((σ.2.2.2.1 + 1 : Nat) : Int)); omega, fun j hj => ?_⟩
      have hj : j < σ.2.2.2.1 + 1 := hj
      show N (cX 4) j = ((fup σ.2.2.2.2 σ.2.2.2.1 c0 j : Nat) : Int)
      rw [← hN]
      by_cases e : j = σ.2.2.2.1
      · subst e
        rw [fup_s]
        simp [updM]
      · rw [fup_n _ _ e, ← h4 j (by omega)]
        simp [updM, e]
    · rw [if_pos (by omega)]
      refine ev_ldc (np := 25) sX10_type_23 rfl ?_
      refine ev_iret dX10_type_25 rfl ?_
      exact ⟨rfl, h⟩
  · rw [spType, if_neg g1]
    refine ev_Si3 (np := 8) moX10_in sX10_type_5 (sem_in_f M hc (by omega) (by omega) g1) (Nat.le_of_ble_eq_true rfl) rfl ?_
    refine ev_if_ne (tgt := 14) (np := 11) dX10_type_8 (by decide) rfl (by omega) (fun h => absurd (by omega) h) (fun _ => ?_)
    refine ev_ldc (np := 13) sX10_type_11 rfl ?_
    refine ev_iret dX10_type_13 rfl ?_
    exact ⟨rfl, h⟩
theorem sem_mclearText {M : Mem} {σ : Sg} (hW : SgW σ) (h : InvM M σ) : Sem SM miX10_clearText [.inr (cX 0)] M (fun v N => v = some (.inl (spClear σ).1) ∧ InvM N (spClear σ).2) := by
  refine Sem.of (by decide) SM_ok (Nat.le_of_ble_eq_true rfl) (ls0 := [some (.inr (cX 0)), none]) rfl ?_
  have hle := hW.2.2.2.1
  obtain ⟨a1, a2, a3, h5, h4⟩ := h
  refine ev_aload_n (np := 1) dX10_clearText_0 rfl rfl ?_
  refine ev_getI (np := 4) sX10_clearText_1 rfl rfl rfl ?_
  rw [h5]
  refine ev_istore_n (np := 5) dX10_clearText_4 (by decide) rfl ?_
  refine ev_aload_n (np := 6) dX10_clearText_5 rfl rfl ?_
  refine ev_iconst (np := 7) dX10_clearText_6 rfl ?_
  refine ev_put (np := 10) sX10_clearText_7 rfl rfl rfl ?_
  refine ev_iload_n (np := 11) dX10_clearText_10 rfl rfl ?_
  refine ev_iret dX10_clearText_11 rfl ?_
  have f : Fy (uM [] [5]) M (updM M (cX 0) 5 0) := Fy.upd rfl
  have e1 := f.arr (n := 1) (by decide)
  have e2 := f.arr (n := 2) (by decide)
  exact ⟨rfl, a1.eq e1, a2.eq e1, ⟨by rw [f.fld (j := 3) (by decide)]; exact a3.1, by rw [e2]; exact a3.2⟩, updM_same _ _ _ _, fun j hj => absurd hj (Nat.not_lt_zero j)⟩
