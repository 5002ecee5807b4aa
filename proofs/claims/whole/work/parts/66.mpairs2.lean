/-! WHAT IS ASKED OF PAIRS, in the reference -/
theorem mrow_loop {M : Mem} {s : Bst} (hB : BI s) (h : PwM M s) {t : Nat} (ht : t < 256) {u : Option Val} : ∀ (f p : Nat), p < bn s → btk s p = t + 1 + f → Ev SM miX10_rowAt 2 [some (.inr (cX 0)), u, some (.inl (t : Int)), some (.inl (p : Int))] [] M (Ri (bli s (bback s f p) : Nat) M) := by
  have hle := hB.le
  intro f
  induction f with
  | zero =>
    intro p hp e
    obtain ⟨c1, c2, c3, c4, c5⟩ := hB.2 p hp
    obtain ⟨d1, d2, d3⟩ := h.2 p hp
    have p0 : 0 < p := by omega
    have d4 := (d3 p0).2
    refine ev_aload_n (np := 3) dX10_rowAt_2 rfl rfl ?_
    refine ev_getR (np := 6) sX10_rowAt_3 rfl rfl rfl ?_
    refine ev_iload_n (np := 7) dX10_rowAt_6 rfl rfl ?_
    refine ev_iaload (np := 8) dX10_rowAt_7 rfl (by omega) (by omega) rfl ?_
    rw [Int.toNat_natCast, d2]
    refine ev_iload_n (np := 9) dX10_rowAt_8 rfl rfl ?_
    refine ev_iconst (np := 10) dX10_rowAt_9 rfl ?_
    refine ev_iadd (np := 11) dX10_rowAt_10 rfl ?_
    refine ev_icmp_le (tgt := 24) (np := 14) dX10_rowAt_11 (by decide) rfl (by omega) (by omega) (fun _ => ?_) (fun h => absurd (by omega) h)
    refine ev_aload_n (np := 25) dX10_rowAt_24 rfl rfl ?_
    refine ev_getR (np := 28) sX10_rowAt_25 rfl rfl rfl ?_
    refine ev_iload_n (np := 29) dX10_rowAt_28 rfl rfl ?_
    refine ev_iaload (np := 30) dX10_rowAt_29 rfl (by omega) (by omega) rfl ?_
    rw [Int.toNat_natCast, d4]
    refine ev_iret dX10_rowAt_30 rfl ?_
    exact ⟨rfl, rfl⟩
  | succ f ih =>
    intro p hp e
    obtain ⟨c1, c2, c3, c4, c5⟩ := hB.2 p hp
    obtain ⟨d1, d2, d3⟩ := h.2 p hp
    have p0 : 0 < p := by omega
    obtain ⟨d4, -⟩ := d3 p0
    obtain ⟨c6, c7⟩ := c5 p0
    refine ev_aload_n (np := 3) dX10_rowAt_2 rfl rfl ?_
    refine ev_getR (np := 6) sX10_rowAt_3 rfl rfl rfl ?_
    refine ev_iload_n (np := 7) dX10_rowAt_6 rfl rfl ?_
    refine ev_iaload (np := 8) dX10_rowAt_7 rfl (by omega) (by omega) rfl ?_
    rw [Int.toNat_natCast, d2]
    refine ev_iload_n (np := 9) dX10_rowAt_8 rfl rfl ?_
    refine ev_iconst (np := 10) dX10_rowAt_9 rfl ?_
    refine ev_iadd (np := 11) dX10_rowAt_10 rfl ?_
    refine ev_icmp_le (tgt := 24) (np := 14) dX10_rowAt_11 (by decide) rfl (by omega) (by omega) (fun h => absurd h (by omega)) (fun _ => ?_)
    refine ev_aload_n (np := 15) dX10_rowAt_14 rfl rfl ?_
    refine ev_getR (np := 18) sX10_rowAt_15 rfl rfl rfl ?_
    refine ev_iload_n (np := 19) dX10_rowAt_18 rfl rfl ?_
    refine ev_iaload (np := 20) dX10_rowAt_19 rfl (by omega) (by omega) rfl ?_
    rw [Int.toNat_natCast, d4]
    refine ev_istore_n (np := 21) dX10_rowAt_20 (by decide) rfl ?_
    refine ev_goto (np := 2) dX10_rowAt_21 (by decide) ?_
    exact ih (bah s p) (by omega) (by omega)
theorem sem_mrowAt {M : Mem} {s : Bst} (hB : BI s) (h : PwM M s) {p t : Nat} (hp : p < bn s) (ht : t < btk s p) : Sem SM miX10_rowAt [.inr (cX 0), .inl (p : Int), .inl (t : Int)] M (Ri (bway s p t : Nat) M) := by
  refine Sem.of (by decide) SM_ok (Nat.le_of_ble_eq_true rfl) (ls0 := [some (.inr (cX 0)), some (.inl (p : Int)), some (.inl (t : Int)), none]) rfl ?_
  have hle := hB.le
  have c3 := (hB.2 p hp).2.2.1
  refine ev_iload_n (np := 1) dX10_rowAt_0 rfl rfl ?_
  refine ev_istore_n (np := 2) dX10_rowAt_1 (by decide) rfl ?_
  exact mrow_loop hB h (by omega) (btk s p - 1 - t) p hp (by omega)
theorem PwM.fy {M N : Mem} {s : Bst} (h : PwM M s) (f : Fy (uM [1, 6] []) M N) : PwM N s := by
  unfold PwM
  rw [f.fld (j := 16) (by decide), f.arr (n := 7) (by decide), f.arr (n := 8) (by decide), f.arr (n := 9) (by decide), f.arr (n := 10) (by decide)]
  exact h
theorem or_bit : ∀ x, x < 16 → ∀ i, i < 4 → ((x % 2 ^ i) ||| (if bt x i = 1 then 2 ^ i else 0)) = x % 2 ^ (i + 1) := by decide +kernel
theorem mdif_loop {M : Mem} {Z O : Circ} (hZ : WF Z) (hO : WF O) (r0 : RefS M 0 Z) (r1 : RefS M 1 O) {s : Bst} (hB : BI s) (h : PwM M s) {p : Nat} (hp : p < bn s) : ∀ (m i : Nat) (N : Mem), i + m = 4 → Fy (uM [6] []) M N → Ev SM miX10_differs 4 [some (.inr (cX 0)), some (.inl (p : Int)), some (.inl ((bdif (tabOf Z) (tabOf O) s p % 2 ^ i : Nat) : Int)), some (.inl (i : Int))] [] N (fun v N => v = some (.inl (bdif (tabOf Z) (tabOf O) s p : Nat)) ∧ Fy (uM [6] []) M N) := by
  have hTZ := tabOf_wf hZ
  have hTO := tabOf_wf hO
  have hle := hB.le
  have hd := bdif_lt hTZ hTO s p
  obtain ⟨z16, o16, -, -, -⟩ := hB.2 p hp
  intro m
  induction m with
  | zero =>
    intro i N hi hf
    refine ev_iload_n (np := 5) dX10_differs_4 rfl rfl ?_
    refine ev_iconst (np := 6) dX10_differs_5 rfl ?_
    refine ev_icmp_ge (tgt := 58) (np := 9) dX10_differs_6 (by decide) rfl (by omega) (by omega) (fun _ => ?_) (fun h => absurd (by omega) h)
    rw [show i = 4 by omega, Nat.mod_eq_of_lt (show bdif (tabOf Z) (tabOf O) s p < 2 ^ 4 from hd)]
    refine ev_iload_n (np := 59) dX10_differs_58 rfl rfl ?_
    refine ev_iret dX10_differs_59 rfl ?_
    exact ⟨rfl, hf⟩
  | succ m ih =>
    intro i N hi hf
    have i4 : i < 4 := by omega
    have hpw := h.fy (hf.le (by decide))
    have e1 := (hpw.2 p hp).1
    have l1 := out_lt Z (bz s p) i
    have l2 := out_lt O (bo s p) i
    have ob := or_bit _ hd i i4
    have hm : bdif (tabOf Z) (tabOf O) s p % 2 ^ i ≤ bdif (tabOf Z) (tabOf O) s p := Nat.mod_le _ _
    have dk : bt (bdif (tabOf Z) (tabOf O) s p) i = 0 ↔ outS Z (bz s p) i = outS O (bo s p) i := by
      unfold bdif
      rw [xor_bit _ (hTZ.2.1 _) _ (hTO.2.1 _) i i4]
      show bt (st4 (outS Z (bz s p))) i = bt (st4 (outS O (bo s p))) i ↔ _
      rw [bt_st4 (fun r _ => out_lt Z _ r) i4, bt_st4 (fun r _ => out_lt O _ r) i4]
    have dl := bt_lt (bdif (tabOf Z) (tabOf O) s p) i
    refine ev_iload_n (np := 5) dX10_differs_4 rfl rfl ?_
    refine ev_iconst (np := 6) dX10_differs_5 rfl ?_
    refine ev_icmp_ge (tgt := 58) (np := 9) dX10_differs_6 (by decide) rfl (by omega) (by omega) (fun h => absurd h (by omega)) (fun _ => ?_)
    refine ev_iload_n (np := 10) dX10_differs_9 rfl rfl ?_
    refine ev_aload_n (np := 11) dX10_differs_10 rfl rfl ?_
    refine ev_iconst (np := 12) dX10_differs_11 rfl ?_
    refine ev_aload_n (np := 13) dX10_differs_12 rfl rfl ?_
    refine ev_getR (np := 16) sX10_differs_13 rfl rfl rfl ?_
    refine ev_iload_n (np := 17) dX10_differs_16 rfl rfl ?_
    refine ev_iaload (np := 18) dX10_differs_17 rfl (by omega) (by omega) rfl ?_
    rw [Int.toNat_natCast, e1]
    refine ev_bipush (np := 20) dX10_differs_18 (by decide) rfl ?_
    refine ev_idiv (np := 21) dX10_differs_20 (by omega) (by omega) rfl ?_
    rw [show (((16 * bz s p + bo s p : Nat) : Int) / 16) = (bz s p : Int) by omega]
    refine ev_iload_n (np := 22) dX10_differs_21 rfl rfl ?_
    refine ev_V3 (np := 25) moX10_out sX10_differs_22 (sem_mout hZ (b := 0) (by omega) z16 i4 (r0.eq (hf.arr (by decide))) ) rfl rfl (Nat.le_of_ble_eq_true rfl) rfl (fun v3 N3 hq => ?_)
    obtain ⟨rfl, f3⟩ := hq
    have hf3 := hf.tr f3
    have e3 := ((h.fy (hf3.le (by decide))).2 p hp).1
    refine ev_aload_n (np := 26) dX10_differs_25 rfl rfl ?_
    refine ev_iconst (np := 27) dX10_differs_26 rfl ?_
    refine ev_aload_n (np := 28) dX10_differs_27 rfl rfl ?_
    refine ev_getR (np := 31) sX10_differs_28 rfl rfl rfl ?_
    refine ev_iload_n (np := 32) dX10_differs_31 rfl rfl ?_
    refine ev_iaload (np := 33) dX10_differs_32 rfl (by omega) (by omega) rfl ?_
    rw [Int.toNat_natCast, e3]
    refine ev_bipush (np := 35) dX10_differs_33 (by decide) rfl ?_
    refine ev_irem (np := 36) dX10_differs_35 (by omega) (by omega) rfl ?_
    rw [show (((16 * bz s p + bo s p : Nat) : Int) % 16) = (bo s p : Int) by omega]
    refine ev_iload_n (np := 37) dX10_differs_36 rfl rfl ?_
    refine ev_V3 (np := 40) moX10_out sX10_differs_37 (sem_mout hO (b := 1) (by omega) o16 i4 (r1.eq (hf3.arr (by decide))) ) rfl rfl (Nat.le_of_ble_eq_true rfl) rfl (fun v4 N4 hq => ?_)
    obtain ⟨rfl, f4⟩ := hq
    have hf4 := hf3.tr f4
    have nx := ih (i + 1) N4 (by omega) hf4
    rw [← ob] at nx
    refine ev_icmp_eq (tgt := 49) (np := 43) dX10_differs_40 (by decide) rfl (by omega) (by omega) (fun h1 => ?_) (fun h1 => ?_)
    · rw [if_neg (by have := dk.mpr (by omega); omega), Nat.or_zero] at nx
      refine ev_iconst (np := 50) dX10_differs_49 rfl ?_
      refine ev_ior (np := 51) dX10_differs_50 (by omega) (by omega) rfl ?_
      rw [Int.toNat_natCast, show (0 : Int).toNat = 0 from rfl, Nat.or_zero]
      refine ev_istore_n (np := 52) dX10_differs_51 (by decide) rfl ?_
      refine ev_iinc (np := 55) dX10_differs_52 rfl (by decide) rfl ?_
      refine ev_goto (np := 4) dX10_differs_55 (by decide) ?_
      exact nx
    · rw [if_pos (by have : ¬ bt (bdif (tabOf Z) (tabOf O) s p) i = 0 := fun e => h1 (by have := dk.mp e; omega)
                     omega)] at nx
      refine ev_iconst (np := 44) dX10_differs_43 rfl ?_
      refine ev_iload_n (np := 45) dX10_differs_44 rfl rfl ?_
      refine ev_ishl (np := 46) dX10_differs_45 (by omega) rfl ?_
      refine ev_goto (np := 50) dX10_differs_46 (by decide) ?_
      refine ev_ior (np := 51) dX10_differs_50 (by omega) (Int.mul_nonneg (by omega) (Int.natCast_nonneg _)) rfl ?_
      rw [Int.toNat_natCast, Int.toNat_natCast i, Int.one_mul, Int.toNat_natCast]
      refine ev_istore_n (np := 52) dX10_differs_51 (by decide) rfl ?_
      refine ev_iinc (np := 55) dX10_differs_52 rfl (by decide) rfl ?_
      refine ev_goto (np := 4) dX10_differs_55 (by decide) ?_
      exact nx
theorem sem_mdiffers {M : Mem} {Z O : Circ} (hZ : WF Z) (hO : WF O) (r0 : RefS M 0 Z) (r1 : RefS M 1 O) {s : Bst} (hB : BI s) (h : PwM M s) {p : Nat} (hp : p < bn s) : Sem SM miX10_differs [.inr (cX 0), .inl (p : Int)] M (fun v N => v = some (.inl (bdif (tabOf Z) (tabOf O) s p : Nat)) ∧ Fy (uM [6] []) M N) := by
  refine Sem.of (by decide) SM_ok (Nat.le_of_ble_eq_true rfl) (ls0 := [some (.inr (cX 0)), some (.inl (p : Int)), none, none]) rfl ?_
  refine ev_iconst (np := 1) dX10_differs_0 rfl ?_
  refine ev_istore_n (np := 2) dX10_differs_1 (by decide) rfl ?_
  refine ev_iconst (np := 3) dX10_differs_2 rfl ?_
  refine ev_istore_n (np := 4) dX10_differs_3 (by decide) rfl ?_
  have := mdif_loop hZ hO r0 r1 hB h hp 4 0 M rfl Fy.rf
  rw [show bdif (tabOf Z) (tabOf O) s p % 2 ^ 0 = 0 from Nat.mod_one _] at this
  exact this
theorem sem_mpu {M : Mem} {σ : Sg} (hW : SgW σ) (h : InvM M σ) : Sem SM miX10_pairsUp [.inr (cX 0)] M (fun v N => v = none ∧ PwM N (bs σ) ∧ ApE (tz σ) (t1 σ) (N (cX 0) 17) (N (cX 0) 18) ∧ Fy (uM [6, 7, 8, 9, 10, 11] [16, 17, 18]) M N) := sem_mpairsUp hW.1 hW.2.1 h.1 h.2.1
theorem sem_mpairs {M : Mem} {σ : Sg} (hW : SgW σ) (h : InvM M σ) : Sem SM miX10_pairs [.inr (cX 0)] M (fun v N => v = some (.inl (spPairs σ)) ∧ InvM N σ) := by
  refine Sem.of (by decide) SM_ok (Nat.le_of_ble_eq_true rfl) (ls0 := [some (.inr (cX 0))]) rfl ?_
  have hle : bn (bs σ) ≤ 256 := (BI.bfs (tabOf_wf hW.1) (tabOf_wf hW.2.1)).le
  refine ev_aload_n (np := 1) dX10_pairs_0 rfl rfl ?_
  refine ev_V0 (np := 4) moX10_pairsUp sX10_pairs_1 (sem_mpu hW h ) rfl rfl (Nat.le_of_ble_eq_true rfl) rfl (fun v N hq => ?_)
  obtain ⟨rfl, hp, ha, hf⟩ := hq
  refine ev_aload_n (np := 5) dX10_pairs_4 rfl rfl ?_
  refine ev_getI (np := 8) sX10_pairs_5 rfl rfl rfl ?_
  rw [hp.1]
  refine ev_iret dX10_pairs_8 rfl ?_
  exact ⟨rfl, h.scr (hf.le (by decide))⟩
theorem sem_mpairOf {M : Mem} {σ : Sg} (hW : SgW σ) (h : InvM M σ) {p w : Int} (hp : Rng p) (hw : Rng w) : Sem SM miX10_pairOf [.inr (cX 0), .inl p, .inl w] M (fun v N => v = some (.inl (spPairOf σ p w)) ∧ InvM N σ) := by
  refine Sem.of (by decide) SM_ok (Nat.le_of_ble_eq_true rfl) (ls0 := [some (.inr (cX 0)), some (.inl p), some (.inl w)]) rfl ?_
  have hTZ : TWF (tz σ) := tabOf_wf hW.1
  have hTO : TWF (t1 σ) := tabOf_wf hW.2.1
  have hB : BI (bs σ) := BI.bfs hTZ hTO
  have hle : bn (bs σ) ≤ 256 := hB.le
  have bad : (p < 0 ∨ ¬ ((0 ≤ w ∧ w ≤ 3) ∨ (10 ≤ w ∧ w ≤ 265))) → Ev SM miX10_pairOf 25 [some (.inr (cX 0)), some (.inl p), some (.inl w)] [] M (fun v N => v = some (.inl (spPairOf σ p w)) ∧ InvM N σ) := by
    intro hh
    refine ev_ldc (np := 27) sX10_pairOf_25 rfl ?_
    refine ev_iret dX10_pairOf_27 rfl ?_
    rw [spPairOf, if_pos hh]
    exact ⟨rfl, h⟩
  have good : ¬ (p < 0 ∨ ¬ ((0 ≤ w ∧ w ≤ 3) ∨ (10 ≤ w ∧ w ≤ 265))) → Ev SM miX10_pairOf 28 [some (.inr (cX 0)), some (.inl p), some (.inl w)] [] M (fun v N => v = some (.inl (spPairOf σ p w)) ∧ InvM N σ) := by
    intro hh
    rw [spPairOf, if_neg hh]
    have p0 : 0 ≤ p := by omega
    refine ev_aload_n (np := 29) dX10_pairOf_28 rfl rfl ?_
    refine ev_V0 (np := 32) moX10_pairsUp sX10_pairOf_29 (sem_mpu hW h ) rfl rfl (Nat.le_of_ble_eq_true rfl) rfl (fun v N hq => ?_)
    obtain ⟨rfl, hpw, ha, hf⟩ := hq
    have hI := h.scr (hf.le (by decide))
    refine ev_iload_n (np := 33) dX10_pairOf_32 rfl rfl ?_
    refine ev_aload_n (np := 34) dX10_pairOf_33 rfl rfl ?_
    refine ev_getI (np := 37) sX10_pairOf_34 rfl rfl rfl ?_
    rw [hpw.1]
    refine ev_icmp_ge (tgt := 53) (np := 40) dX10_pairOf_37 (by decide) rfl (by omega) (by omega) (fun h1 => ?_) (fun h1 => ?_)
    · rw [if_pos h1]
      refine ev_ldc (np := 55) sX10_pairOf_53 rfl ?_
      refine ev_iret dX10_pairOf_55 rfl ?_
      exact ⟨rfl, hI⟩
    · rw [if_neg (by omega)]
      obtain ⟨p1, rfl⟩ := Int.eq_ofNat_of_zero_le p0
      rw [Int.toNat_natCast]
      have hp1 : p1 < bn (bs σ) := by omega
      obtain ⟨c1, c2, c3, c4, c5⟩ := hB.2 p1 hp1
      obtain ⟨d1, d2, d3⟩ := hpw.2 p1 hp1
      refine ev_iload_n (np := 41) dX10_pairOf_40 rfl rfl ?_
      refine ev_bipush (np := 43) dX10_pairOf_41 (by decide) rfl ?_
      refine ev_isub (np := 44) dX10_pairOf_43 rfl ?_
      refine ev_aload_n (np := 45) dX10_pairOf_44 rfl rfl ?_
      refine ev_getR (np := 48) sX10_pairOf_45 rfl rfl rfl ?_
      refine ev_iload_n (np := 49) dX10_pairOf_48 rfl rfl ?_
      refine ev_iaload (np := 50) dX10_pairOf_49 rfl (by omega) (by omega) rfl ?_
      rw [Int.toNat_natCast, d2]
      refine ev_icmp_lt (tgt := 56) (np := 53) dX10_pairOf_50 (by decide) rfl (by omega) (by omega) (fun h2 => ?_) (fun h2 => ?_)
      · refine ev_iload_n (np := 57) dX10_pairOf_56 rfl rfl ?_
        by_cases g : 0 ≤ w ∧ w ≤ 3
        · rcases (show w = 0 ∨ w = 1 ∨ w = 2 ∨ w = 3 by omega) with rfl | rfl | rfl | rfl
          · refine ev_swIn (np := 88) dX10_pairOf_57 (by omega) (by omega) (by first | rfl | (simp; done)) (by decide) ?_
            refine ev_aload_n (np := 89) dX10_pairOf_88 rfl rfl ?_
            refine ev_getR (np := 92) sX10_pairOf_89 rfl rfl rfl ?_
            refine ev_iload_n (np := 93) dX10_pairOf_92 rfl rfl ?_
            refine ev_iaload (np := 94) dX10_pairOf_93 rfl (by omega) (by omega) rfl ?_
            rw [Int.toNat_natCast, d1]
            refine ev_bipush (np := 96) dX10_pairOf_94 (by decide) rfl ?_
            refine ev_idiv (np := 97) dX10_pairOf_96 (by omega) (by omega) rfl ?_
            rw [show (((16 * bz (bs σ) p1 + bo (bs σ) p1 : Nat) : Int) / 16) = (bz (bs σ) p1 : Int) by omega]
            refine ev_iret dX10_pairOf_97 rfl ?_
            exact ⟨rfl, hI⟩
          · refine ev_swIn (np := 98) dX10_pairOf_57 (by omega) (by omega) (by first | rfl | (simp; done)) (by decide) ?_
            refine ev_aload_n (np := 99) dX10_pairOf_98 rfl rfl ?_
            refine ev_getR (np := 102) sX10_pairOf_99 rfl rfl rfl ?_
            refine ev_iload_n (np := 103) dX10_pairOf_102 rfl rfl ?_
            refine ev_iaload (np := 104) dX10_pairOf_103 rfl (by omega) (by omega) rfl ?_
            rw [Int.toNat_natCast, d1]
            refine ev_bipush (np := 106) dX10_pairOf_104 (by decide) rfl ?_
            refine ev_irem (np := 107) dX10_pairOf_106 (by omega) (by omega) rfl ?_
            rw [show (((16 * bz (bs σ) p1 + bo (bs σ) p1 : Nat) : Int) % 16) = (bo (bs σ) p1 : Int) by omega]
            refine ev_iret dX10_pairOf_107 rfl ?_
            exact ⟨rfl, hI⟩
          · refine ev_swIn (np := 108) dX10_pairOf_57 (by omega) (by omega) (by first | rfl | (simp; done)) (by decide) ?_
            refine ev_aload_n (np := 109) dX10_pairOf_108 rfl rfl ?_
            refine ev_getR (np := 112) sX10_pairOf_109 rfl rfl rfl ?_
            refine ev_iload_n (np := 113) dX10_pairOf_112 rfl rfl ?_
            refine ev_iaload (np := 114) dX10_pairOf_113 rfl (by omega) (by omega) rfl ?_
            rw [Int.toNat_natCast, d2]
            refine ev_iret dX10_pairOf_114 rfl ?_
            exact ⟨rfl, hI⟩
          · refine ev_swIn (np := 115) dX10_pairOf_57 (by omega) (by omega) (by first | rfl | (simp; done)) (by decide) ?_
            refine ev_aload_n (np := 116) dX10_pairOf_115 rfl rfl ?_
            refine ev_iload_n (np := 117) dX10_pairOf_116 rfl rfl ?_
            refine ev_V1 (np := 120) moX10_differs sX10_pairOf_117 (sem_mdiffers hW.1 hW.2.1 hI.1 hI.2.1 hB hpw hp1 ) rfl rfl (Nat.le_of_ble_eq_true rfl) rfl (fun v2 N2 hq => ?_)
            obtain ⟨rfl, f2⟩ := hq
            have := bdif_lt hTZ hTO (bs σ) p1
            refine ev_iret dX10_pairOf_120 rfl ?_
            exact ⟨rfl, hI.scr (f2.le (by decide))⟩
        · rw [if_neg (by omega), if_neg (by omega), if_neg (by omega), if_neg (by omega), if_pos (by omega)]
          refine ev_swOut (np := 121) dX10_pairOf_57 (by omega) (by omega) (by decide) ?_
          refine ev_aload_n (np := 122) dX10_pairOf_121 rfl rfl ?_
          refine ev_iload_n (np := 123) dX10_pairOf_122 rfl rfl ?_
          refine ev_iload_n (np := 124) dX10_pairOf_123 rfl rfl ?_
          refine ev_bipush (np := 126) dX10_pairOf_124 (by decide) rfl ?_
          refine ev_isub (np := 127) dX10_pairOf_126 rfl ?_
          obtain ⟨t, ht⟩ := Int.eq_ofNat_of_zero_le (show 0 ≤ w - 10 by omega)
          rw [ht, Int.toNat_natCast]
          refine ev_Vi2 (np := 130) moX10_rowAt sX10_pairOf_127 (sem_mrowAt hB hpw hp1 (t := t) (by omega)) rfl rfl (Nat.le_of_ble_eq_true rfl) rfl ?_
          have := (hB.2 _ (back_ok hB (btk (bs σ) p1 - 1 - t) p1 hp1 (by omega)).1).2.2.2.1
          unfold bway
          refine ev_iret dX10_pairOf_130 rfl ?_
          exact ⟨rfl, hI⟩
      · rw [if_neg (by omega), if_neg (by omega), if_neg (by omega), if_neg (by omega), if_neg (by omega)]
        refine ev_ldc (np := 55) sX10_pairOf_53 rfl ?_
        refine ev_iret dX10_pairOf_55 rfl ?_
        exact ⟨rfl, hI⟩
  refine ev_iload_n (np := 1) dX10_pairOf_0 rfl rfl ?_
  refine ev_if_lt (tgt := 25) (np := 4) dX10_pairOf_1 (by decide) rfl (by omega) (fun h1 => ?_) (fun h1 => ?_)
  · exact bad (by omega)
  · refine ev_iload_n (np := 5) dX10_pairOf_4 rfl rfl ?_
    refine ev_iconst (np := 6) dX10_pairOf_5 rfl ?_
    refine ev_iconst (np := 7) dX10_pairOf_6 rfl ?_
    by_cases g1 : 0 ≤ w ∧ w ≤ 3
    · refine ev_Si3 (np := 10) moX10_in sX10_pairOf_7 (sem_in_t M hw (by omega) (by omega) g1) (Nat.le_of_ble_eq_true rfl) rfl ?_
      refine ev_if_ne (tgt := 28) (np := 13) dX10_pairOf_10 (by decide) rfl (by omega) (fun _ => ?_) (fun h => absurd h (by omega))
      exact good (by omega)
    · refine ev_Si3 (np := 10) moX10_in sX10_pairOf_7 (sem_in_f M hw (by omega) (by omega) g1) (Nat.le_of_ble_eq_true rfl) rfl ?_
      refine ev_if_ne (tgt := 28) (np := 13) dX10_pairOf_10 (by decide) rfl (by omega) (fun h => absurd (by omega) h) (fun _ => ?_)
      refine ev_iload_n (np := 14) dX10_pairOf_13 rfl rfl ?_
      refine ev_bipush (np := 16) dX10_pairOf_14 (by decide) rfl ?_
      refine ev_sipush (np := 19) dX10_pairOf_16 (by decide) rfl ?_
      by_cases g2 : 10 ≤ w ∧ w ≤ 265
      · refine ev_Si3 (np := 22) moX10_in sX10_pairOf_19 (sem_in_t M hw (by omega) (by omega) g2) (Nat.le_of_ble_eq_true rfl) rfl ?_
        refine ev_if_ne (tgt := 28) (np := 25) dX10_pairOf_22 (by decide) rfl (by omega) (fun _ => ?_) (fun h => absurd h (by omega))
        exact good (by omega)
      · refine ev_Si3 (np := 22) moX10_in sX10_pairOf_19 (sem_in_f M hw (by omega) (by omega) g2) (Nat.le_of_ble_eq_true rfl) rfl ?_
        refine ev_if_ne (tgt := 28) (np := 25) dX10_pairOf_22 (by decide) rfl (by omega) (fun h => absurd (by omega) h) (fun _ => ?_)
        exact bad (by omega)
theorem sem_mapart {M : Mem} {σ : Sg} (hW : SgW σ) (h : InvM M σ) {i : Int} (hi : Rng i) : Sem SM miX10_apart [.inr (cX 0), .inl i] M (fun v N => v = some (.inl (spApart σ i)) ∧ InvM N σ) := by
  refine Sem.of (by decide) SM_ok (Nat.le_of_ble_eq_true rfl) (ls0 := [some (.inr (cX 0)), some (.inl i)]) rfl ?_
  have hTZ : TWF (tz σ) := tabOf_wf hW.1
  have hTO : TWF (t1 σ) := tabOf_wf hW.2.1
  have hB : BI (bs σ) := BI.bfs hTZ hTO
  have hle : bn (bs σ) ≤ 256 := hB.le
  refine ev_iload_n (np := 1) dX10_apart_0 rfl rfl ?_
  refine ev_iconst (np := 2) dX10_apart_1 rfl ?_
  refine ev_icmp_ge (tgt := 8) (np := 5) dX10_apart_2 (by decide) rfl (by omega) (by omega) (fun h1 => ?_) (fun h1 => ?_)
  · rw [spApart, if_neg (by omega)]
    refine ev_aload_n (np := 9) dX10_apart_8 rfl rfl ?_
    refine ev_V0 (np := 12) moX10_pairsUp sX10_apart_9 (sem_mpu hW h ) rfl rfl (Nat.le_of_ble_eq_true rfl) rfl (fun v N hq => ?_)
    obtain ⟨rfl, hpw, ha, hf⟩ := hq
    have hI := h.scr (hf.le (by decide))
    rcases ha with ⟨a1, a2⟩ | ⟨a1, a2, a3, a4⟩
    · rw [if_pos a2]
      refine ev_aload_n (np := 13) dX10_apart_12 rfl rfl ?_
      refine ev_getI (np := 16) sX10_apart_13 rfl rfl rfl ?_
      rw [a1]
      refine ev_if_lt (tgt := 32) (np := 19) dX10_apart_16 (by decide) rfl (by omega) (fun _ => ?_) (fun h => absurd (by omega) h)
      refine ev_ldc (np := 34) sX10_apart_32 rfl ?_
      refine ev_iret dX10_apart_34 rfl ?_
      exact ⟨rfl, hI⟩
    · rw [if_neg (by rw [a1]; decide)]
      have a3 : bapS (tz σ) (t1 σ) < bn (bs σ) := a3
      have a4 : N (cX 0) 18 = (least4 (bdif (tz σ) (t1 σ) (bs σ) (bapS (tz σ) (t1 σ))) : Int) := a4
      obtain ⟨c1, c2, c3, c4, c5⟩ := hB.2 _ a3
      obtain ⟨d1, d2, d3⟩ := hpw.2 _ a3
      have l4 : least4 (bdif (tz σ) (t1 σ) (bs σ) (bapS (tz σ) (t1 σ))) < 4 := by unfold least4; split; omega; split; omega; split; omega; omega
      refine ev_aload_n (np := 13) dX10_apart_12 rfl rfl ?_
      refine ev_getI (np := 16) sX10_apart_13 rfl rfl rfl ?_
      rw [a2]
      refine ev_if_lt (tgt := 32) (np := 19) dX10_apart_16 (by decide) rfl (by omega) (fun h => absurd h (by omega)) (fun _ => ?_)
      refine ev_iload_n (np := 20) dX10_apart_19 rfl rfl ?_
      refine ev_aload_n (np := 21) dX10_apart_20 rfl rfl ?_
      refine ev_getR (np := 24) sX10_apart_21 rfl rfl rfl ?_
      refine ev_aload_n (np := 25) dX10_apart_24 rfl rfl ?_
      refine ev_getI (np := 28) sX10_apart_25 rfl rfl rfl ?_
      rw [a2]
      refine ev_iaload (np := 29) dX10_apart_28 rfl (by omega) (by omega) rfl ?_
      rw [Int.toNat_natCast, d2]
      refine ev_icmp_le (tgt := 35) (np := 32) dX10_apart_29 (by decide) rfl (by omega) (by omega) (fun h2 => ?_) (fun h2 => ?_)
      · refine ev_iload_n (np := 36) dX10_apart_35 rfl rfl ?_
        refine ev_if_ge (tgt := 53) (np := 39) dX10_apart_36 (by decide) rfl (by omega) (fun h3 => ?_) (fun h3 => ?_)
        · rw [if_neg (by omega), if_neg (by omega)]
          refine ev_iload_n (np := 54) dX10_apart_53 rfl rfl ?_
          refine ev_aload_n (np := 55) dX10_apart_54 rfl rfl ?_
          refine ev_getR (np := 58) sX10_apart_55 rfl rfl rfl ?_
          refine ev_aload_n (np := 59) dX10_apart_58 rfl rfl ?_
          refine ev_getI (np := 62) sX10_apart_59 rfl rfl rfl ?_
          rw [a2]
          refine ev_iaload (np := 63) dX10_apart_62 rfl (by omega) (by omega) rfl ?_
          rw [Int.toNat_natCast, d2]
          refine ev_icmp_ne (tgt := 73) (np := 66) dX10_apart_63 (by decide) rfl (by omega) (by omega) (fun h4 => ?_) (fun h4 => ?_)
          · rw [if_neg (by omega)]
            refine ev_aload_n (np := 74) dX10_apart_73 rfl rfl ?_
            refine ev_aload_n (np := 75) dX10_apart_74 rfl rfl ?_
            refine ev_getI (np := 78) sX10_apart_75 rfl rfl rfl ?_
            refine ev_iload_n (np := 79) dX10_apart_78 rfl rfl ?_
            rw [a2]
            obtain ⟨t, rfl⟩ := Int.eq_ofNat_of_zero_le (show 0 ≤ i by omega)
            rw [Int.toNat_natCast]
            refine ev_Vi2 (np := 82) moX10_rowAt sX10_apart_79 (sem_mrowAt hB hpw a3 (t := t) (by omega)) rfl rfl (Nat.le_of_ble_eq_true rfl) rfl ?_
            have := (hB.2 _ (back_ok hB (btk (bs σ) (bapS (tz σ) (t1 σ)) - 1 - t) _ a3 (by omega)).1).2.2.2.1
            unfold bway
            refine ev_iret dX10_apart_82 rfl ?_
            exact ⟨rfl, hI⟩
          · rw [if_pos h4]
            refine ev_aload_n (np := 67) dX10_apart_66 rfl rfl ?_
            refine ev_getI (np := 70) sX10_apart_67 rfl rfl rfl ?_
            refine ev_goto (np := 82) dX10_apart_70 (by decide) ?_
            rw [a4]
            refine ev_iret dX10_apart_82 rfl ?_
            exact ⟨rfl, hI⟩
        · rw [if_pos (by omega)]
          refine ev_aload_n (np := 40) dX10_apart_39 rfl rfl ?_
          refine ev_getR (np := 43) sX10_apart_40 rfl rfl rfl ?_
          refine ev_aload_n (np := 44) dX10_apart_43 rfl rfl ?_
          refine ev_getI (np := 47) sX10_apart_44 rfl rfl rfl ?_
          rw [a2]
          refine ev_iaload (np := 48) dX10_apart_47 rfl (by omega) (by omega) rfl ?_
          rw [Int.toNat_natCast, d2]
          refine ev_iconst (np := 49) dX10_apart_48 rfl ?_
          refine ev_iadd (np := 50) dX10_apart_49 rfl ?_
          refine ev_goto (np := 82) dX10_apart_50 (by decide) ?_
          refine ev_iret dX10_apart_82 rfl ?_
          exact ⟨rfl, hI⟩
      · rw [if_neg (by omega), if_pos (by omega)]
        refine ev_ldc (np := 34) sX10_apart_32 rfl ?_
        refine ev_iret dX10_apart_34 rfl ?_
        exact ⟨rfl, hI⟩
  · rw [spApart, if_pos (by omega)]
    refine ev_ldc (np := 7) sX10_apart_5 rfl ?_
    refine ev_iret dX10_apart_7 rfl ?_
    exact ⟨rfl, h⟩
theorem sem_mcount {M : Mem} {σ : Sg} (hW : SgW σ) (h : InvM M σ) {w : Int} (hw : Rng w) : Sem SM miX10_count [.inr (cX 0), .inl w] M (fun v N => v = some (.inl (spCount σ w)) ∧ InvM N σ) := by
  refine Sem.of (by decide) SM_ok (Nat.le_of_ble_eq_true rfl) (ls0 := [some (.inr (cX 0)), some (.inl w)]) rfl ?_
  have n0 := hW.1.1
  have n1 := hW.2.1.1
  have n2 := hW.2.2.1.1
  have n3 := hW.2.2.2.1
  have hle : bn (bfs (tz σ) (t1 σ)) ≤ 256 := (BI.bfs (tabOf_wf hW.1) (tabOf_wf hW.2.1)).le
  refine ev_aload_n (np := 1) dX10_count_0 rfl rfl ?_
  refine ev_V0 (np := 4) moX10_pairsUp sX10_count_1 (sem_mpu hW h ) rfl rfl (Nat.le_of_ble_eq_true rfl) rfl (fun v N hq => ?_)
  obtain ⟨rfl, hpw, ha, hf⟩ := hq
  have hI := h.scr (hf.le (by decide))
  refine ev_iload_n (np := 5) dX10_count_4 rfl rfl ?_
  by_cases g : 0 ≤ w ∧ w ≤ 3
  · rcases (show w = 0 ∨ w = 1 ∨ w = 2 ∨ w = 3 by omega) with rfl | rfl | rfl | rfl
    · refine ev_swIn (np := 36) dX10_count_5 (by omega) (by omega) (by first | rfl | (simp; done)) (by decide) ?_
      refine ev_aload_n (np := 37) dX10_count_36 rfl rfl ?_
      refine ev_iconst (np := 38) dX10_count_37 rfl ?_
      refine ev_iconst (np := 39) dX10_count_38 rfl ?_
      refine ev_Vi2 (np := 42) moX10_of sX10_count_39 (sem_of (b := 0) (i := 0) (by omega) (by omega)) rfl rfl (Nat.le_of_ble_eq_true rfl) rfl ?_
      rw [show N (cX 1) (34 * (0 : Int).toNat + (0 : Int).toNat) = (cn σ.1 : Int) from hI.1.1]
      refine ev_aload_n (np := 43) dX10_count_42 rfl rfl ?_
      refine ev_iconst (np := 44) dX10_count_43 rfl ?_
      refine ev_iconst (np := 45) dX10_count_44 rfl ?_
      refine ev_Vi2 (np := 48) moX10_of sX10_count_45 (sem_of (b := 1) (i := 0) (by omega) (by omega)) rfl rfl (Nat.le_of_ble_eq_true rfl) rfl ?_
      rw [show N (cX 1) (34 * (1 : Int).toNat + (0 : Int).toNat) = (cn σ.2.1 : Int) from hI.2.1.1]
      refine ev_iadd (np := 49) dX10_count_48 rfl ?_
      refine ev_iret dX10_count_49 rfl ?_
      refine ⟨?_, hI⟩
      rw [spCount, if_pos rfl]
      congr 2
    · refine ev_swIn (np := 50) dX10_count_5 (by omega) (by omega) (by first | rfl | (simp; done)) (by decide) ?_
      rw [spCount, if_neg (by decide), if_pos rfl]
      rcases ha with ⟨a1, a2⟩ | ⟨a1, a2, a3, a4⟩
      · rw [if_pos a2]
        refine ev_aload_n (np := 51) dX10_count_50 rfl rfl ?_
        refine ev_getI (np := 54) sX10_count_51 rfl rfl rfl ?_
        rw [a1]
        refine ev_if_ge (tgt := 61) (np := 57) dX10_count_54 (by decide) rfl (by omega) (fun h => absurd h (by omega)) (fun _ => ?_)
        refine ev_iconst (np := 58) dX10_count_57 rfl ?_
        refine ev_goto (np := 62) dX10_count_58 (by decide) ?_
        refine ev_iret dX10_count_62 rfl ?_
        exact ⟨rfl, hI⟩
      · rw [if_neg (by rw [a1]; decide)]
        refine ev_aload_n (np := 51) dX10_count_50 rfl rfl ?_
        refine ev_getI (np := 54) sX10_count_51 rfl rfl rfl ?_
        rw [a2]
        refine ev_if_ge (tgt := 61) (np := 57) dX10_count_54 (by decide) rfl (by omega) (fun _ => ?_) (fun h => absurd (by omega) h)
        refine ev_iconst (np := 62) dX10_count_61 rfl ?_
        refine ev_iret dX10_count_62 rfl ?_
        exact ⟨rfl, hI⟩
    · refine ev_swIn (np := 63) dX10_count_5 (by omega) (by omega) (by first | rfl | (simp; done)) (by decide) ?_
      rw [spCount, if_neg (by decide), if_neg (by decide), if_pos rfl]
      refine ev_aload_n (np := 64) dX10_count_63 rfl rfl ?_
      refine ev_getI (np := 67) sX10_count_64 rfl rfl rfl ?_
      rw [hI.2.2.1.1]
      refine ev_iret dX10_count_67 rfl ?_
      exact ⟨rfl, hI⟩
    · refine ev_swIn (np := 68) dX10_count_5 (by omega) (by omega) (by first | rfl | (simp; done)) (by decide) ?_
      rw [spCount, if_neg (by decide), if_neg (by decide), if_neg (by decide), if_pos rfl]
      refine ev_aload_n (np := 69) dX10_count_68 rfl rfl ?_
      refine ev_getI (np := 72) sX10_count_69 rfl rfl rfl ?_
      rw [hI.2.2.2.1]
      refine ev_iret dX10_count_72 rfl ?_
      exact ⟨rfl, hI⟩
  · rw [spCount, if_neg (by omega), if_neg (by omega), if_neg (by omega), if_neg (by omega)]
    refine ev_swOut (np := 73) dX10_count_5 (by omega) (by omega) (by decide) ?_
    refine ev_ldc (np := 75) sX10_count_73 rfl ?_
    refine ev_iret dX10_count_75 rfl ?_
    exact ⟨rfl, hI⟩
