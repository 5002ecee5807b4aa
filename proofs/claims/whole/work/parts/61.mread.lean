theorem sem_mthen {M : Mem} {b : Nat} {C : Circ} (hC : WF C) (hb : b ≤ 1) {s i : Nat} (hs : s < 16) (hi : i < 4) (h : RefS M b C) : Sem SM miX10_then [.inr (cX 0), .inl (b : Int), .inl (s : Int), .inl (i : Int)] M (fun v N => v = some (.inl (nxtS C s i : Nat)) ∧ Fy (uM [6] []) M N) := by
  refine Sem.of (by decide) SM_ok (Nat.le_of_ble_eq_true rfl) (ls0 := [some (.inr (cX 0)), some (.inl (b : Int)), some (.inl (s : Int)), some (.inl (i : Int)), none, none]) rfl ?_
  refine ev_aload_n (np := 1) dX10_then_0 rfl rfl ?_
  refine ev_iload_n (np := 2) dX10_then_1 rfl rfl ?_
  refine ev_iload_n (np := 3) dX10_then_2 rfl rfl ?_
  refine ev_iload_n (np := 4) dX10_then_3 rfl rfl ?_
  refine ev_V3 (np := 7) moX10_lights sX10_then_4 (sem_lights hC hb hs hi h ) rfl rfl (Nat.le_of_ble_eq_true rfl) rfl (fun v N hq => ?_)
  obtain ⟨rfl, hw, hf⟩ := hq
  have hN := h.eq (hf.arr (n := 1) (by decide))
  have e := or4 _ (bt_lt (wbits C s i) (cx C 0)) _ (bt_lt (wbits C s i) (cx C 1)) _ (bt_lt (wbits C s i) (cx C 2)) _ (bt_lt (wbits C s i) (cx C 3))
  have x0 := (hC.2.2.1 0 (by decide)).1
  have x1 := (hC.2.2.1 1 (by decide)).1
  have x2 := (hC.2.2.1 2 (by decide)).1
  have x3 := (hC.2.2.1 3 (by decide)).1
  refine ev_iconst (np := 8) dX10_then_7 rfl ?_
  refine ev_istore (np := 10) dX10_then_8 (by decide) rfl ?_
  refine ev_iconst (np := 11) dX10_then_10 rfl ?_
  refine ev_istore (np := 13) dX10_then_11 (by decide) rfl ?_
  refine ev_iload (np := 15) dX10_then_13 rfl rfl ?_
  refine ev_iconst (np := 16) dX10_then_15 rfl ?_
  refine ev_icmp_ge (tgt := 47) (np := 19) dX10_then_16 (by decide) rfl (by omega) (by omega) (fun h => absurd h (by omega)) (fun _ => ?_)
  refine ev_iload (np := 21) dX10_then_19 rfl rfl ?_
  refine ev_aload_n (np := 22) dX10_then_21 rfl rfl ?_
  refine ev_getR (np := 25) sX10_then_22 rfl rfl rfl ?_
  refine ev_aload_n (np := 26) dX10_then_25 rfl rfl ?_
  refine ev_iload_n (np := 27) dX10_then_26 rfl rfl ?_
  refine ev_iconst (np := 28) dX10_then_27 rfl ?_
  refine ev_iload (np := 30) dX10_then_28 rfl rfl ?_
  refine ev_iadd (np := 31) dX10_then_30 rfl ?_
  refine ev_Vi2 (np := 34) moX10_of sX10_then_31 (sem_of (b := (b : Int)) (i := 2 + 0) (by omega) (by omega)) rfl rfl (Nat.le_of_ble_eq_true rfl) rfl ?_
  rw [Int.toNat_natCast, show N (cX 1) (34 * b + (2 + 0 : Int).toNat) = (cx C 0 : Int) from (hN.2.2.1 0 (by decide)).1]
  refine ev_iaload (np := 35) dX10_then_34 rfl (by omega) (by omega) rfl ?_
  rw [Int.toNat_natCast, hw _ x0]
  refine ev_iload (np := 37) dX10_then_35 rfl rfl ?_
  refine ev_ishl (np := 38) dX10_then_37 (by omega) rfl ?_
  refine ev_ior (np := 39) dX10_then_38 (by omega) (Int.mul_nonneg (by omega) (Int.natCast_nonneg _)) rfl ?_
  rw [show (((0 : Int).toNat ||| ((bt (wbits C s i) (cx C 0) : Int) * ((2 ^ (0 : Int).toNat : Nat) : Int)).toNat : Nat) : Int) = ((0 ||| bt (wbits C s i) (cx C 0) * 2 ^ 0 : Nat) : Int) from or_sh (a := 0) 0]
  refine ev_istore (np := 41) dX10_then_39 (by decide) rfl ?_
  refine ev_iinc (np := 44) dX10_then_41 rfl (by decide) rfl ?_
  refine ev_goto (np := 13) dX10_then_44 (by decide) ?_
  refine ev_iload (np := 15) dX10_then_13 rfl rfl ?_
  refine ev_iconst (np := 16) dX10_then_15 rfl ?_
  refine ev_icmp_ge (tgt := 47) (np := 19) dX10_then_16 (by decide) rfl (by omega) (by omega) (fun h => absurd h (by omega)) (fun _ => ?_)
  refine ev_iload (np := 21) dX10_then_19 rfl rfl ?_
  refine ev_aload_n (np := 22) dX10_then_21 rfl rfl ?_
  refine ev_getR (np := 25) sX10_then_22 rfl rfl rfl ?_
  refine ev_aload_n (np := 26) dX10_then_25 rfl rfl ?_
  refine ev_iload_n (np := 27) dX10_then_26 rfl rfl ?_
  refine ev_iconst (np := 28) dX10_then_27 rfl ?_
  refine ev_iload (np := 30) dX10_then_28 rfl rfl ?_
  refine ev_iadd (np := 31) dX10_then_30 rfl ?_
  refine ev_Vi2 (np := 34) moX10_of sX10_then_31 (sem_of (b := (b : Int)) (i := 2 + (0 + 1)) (by omega) (by omega)) rfl rfl (Nat.le_of_ble_eq_true rfl) rfl ?_
  rw [Int.toNat_natCast, show N (cX 1) (34 * b + (2 + (0 + 1) : Int).toNat) = (cx C 1 : Int) from (hN.2.2.1 1 (by decide)).1]
  refine ev_iaload (np := 35) dX10_then_34 rfl (by omega) (by omega) rfl ?_
  rw [Int.toNat_natCast, hw _ x1]
  refine ev_iload (np := 37) dX10_then_35 rfl rfl ?_
  refine ev_ishl (np := 38) dX10_then_37 (by omega) rfl ?_
  refine ev_ior (np := 39) dX10_then_38 (by omega) (Int.mul_nonneg (by omega) (Int.natCast_nonneg _)) rfl ?_
  rw [show (0 : Int) + 1 = 1 from rfl, show (1 : Int).toNat = 1 from rfl, or_sh 1]
  refine ev_istore (np := 41) dX10_then_39 (by decide) rfl ?_
  refine ev_iinc (np := 44) dX10_then_41 rfl (by decide) rfl ?_
  refine ev_goto (np := 13) dX10_then_44 (by decide) ?_
  refine ev_iload (np := 15) dX10_then_13 rfl rfl ?_
  refine ev_iconst (np := 16) dX10_then_15 rfl ?_
  refine ev_icmp_ge (tgt := 47) (np := 19) dX10_then_16 (by decide) rfl (by omega) (by omega) (fun h => absurd h (by omega)) (fun _ => ?_)
  refine ev_iload (np := 21) dX10_then_19 rfl rfl ?_
  refine ev_aload_n (np := 22) dX10_then_21 rfl rfl ?_
  refine ev_getR (np := 25) sX10_then_22 rfl rfl rfl ?_
  refine ev_aload_n (np := 26) dX10_then_25 rfl rfl ?_
  refine ev_iload_n (np := 27) dX10_then_26 rfl rfl ?_
  refine ev_iconst (np := 28) dX10_then_27 rfl ?_
  refine ev_iload (np := 30) dX10_then_28 rfl rfl ?_
  refine ev_iadd (np := 31) dX10_then_30 rfl ?_
  refine ev_Vi2 (np := 34) moX10_of sX10_then_31 (sem_of (b := (b : Int)) (i := 2 + (1 + 1)) (by omega) (by omega)) rfl rfl (Nat.le_of_ble_eq_true rfl) rfl ?_
  rw [Int.toNat_natCast, show N (cX 1) (34 * b + (2 + (1 + 1) : Int).toNat) = (cx C 2 : Int) from (hN.2.2.1 2 (by decide)).1]
  refine ev_iaload (np := 35) dX10_then_34 rfl (by omega) (by omega) rfl ?_
  rw [Int.toNat_natCast, hw _ x2]
  refine ev_iload (np := 37) dX10_then_35 rfl rfl ?_
  refine ev_ishl (np := 38) dX10_then_37 (by omega) rfl ?_
  refine ev_ior (np := 39) dX10_then_38 (by omega) (Int.mul_nonneg (by omega) (Int.natCast_nonneg _)) rfl ?_
  rw [show (1 : Int) + 1 = 2 from rfl, show (2 : Int).toNat = 2 from rfl, or_sh 2]
  refine ev_istore (np := 41) dX10_then_39 (by decide) rfl ?_
  refine ev_iinc (np := 44) dX10_then_41 rfl (by decide) rfl ?_
  refine ev_goto (np := 13) dX10_then_44 (by decide) ?_
  refine ev_iload (np := 15) dX10_then_13 rfl rfl ?_
  refine ev_iconst (np := 16) dX10_then_15 rfl ?_
  refine ev_icmp_ge (tgt := 47) (np := 19) dX10_then_16 (by decide) rfl (by omega) (by omega) (fun h => absurd h (by omega)) (fun _ => ?_)
  refine ev_iload (np := 21) dX10_then_19 rfl rfl ?_
  refine ev_aload_n (np := 22) dX10_then_21 rfl rfl ?_
  refine ev_getR (np := 25) sX10_then_22 rfl rfl rfl ?_
  refine ev_aload_n (np := 26) dX10_then_25 rfl rfl ?_
  refine ev_iload_n (np := 27) dX10_then_26 rfl rfl ?_
  refine ev_iconst (np := 28) dX10_then_27 rfl ?_
  refine ev_iload (np := 30) dX10_then_28 rfl rfl ?_
  refine ev_iadd (np := 31) dX10_then_30 rfl ?_
  refine ev_Vi2 (np := 34) moX10_of sX10_then_31 (sem_of (b := (b : Int)) (i := 2 + (2 + 1)) (by omega) (by omega)) rfl rfl (Nat.le_of_ble_eq_true rfl) rfl ?_
  rw [Int.toNat_natCast, show N (cX 1) (34 * b + (2 + (2 + 1) : Int).toNat) = (cx C 3 : Int) from (hN.2.2.1 3 (by decide)).1]
  refine ev_iaload (np := 35) dX10_then_34 rfl (by omega) (by omega) rfl ?_
  rw [Int.toNat_natCast, hw _ x3]
  refine ev_iload (np := 37) dX10_then_35 rfl rfl ?_
  refine ev_ishl (np := 38) dX10_then_37 (by omega) rfl ?_
  refine ev_ior (np := 39) dX10_then_38 (by omega) (Int.mul_nonneg (by omega) (Int.natCast_nonneg _)) rfl ?_
  rw [show (2 : Int) + 1 = 3 from rfl, show (3 : Int).toNat = 3 from rfl, or_sh 3, e]
  refine ev_istore (np := 41) dX10_then_39 (by decide) rfl ?_
  refine ev_iinc (np := 44) dX10_then_41 rfl (by decide) rfl ?_
  refine ev_goto (np := 13) dX10_then_44 (by decide) ?_
  refine ev_iload (np := 15) dX10_then_13 rfl rfl ?_
  refine ev_iconst (np := 16) dX10_then_15 rfl ?_
  refine ev_icmp_ge (tgt := 47) (np := 19) dX10_then_16 (by decide) rfl (by omega) (by omega) (fun _ => ?_) (fun h => absurd (by omega) h)
  refine ev_iload (np := 49) dX10_then_47 rfl rfl ?_
  refine ev_iret dX10_then_49 rfl ?_
  exact ⟨rfl, hf⟩
theorem sem_mfirst {M : Mem} {b : Nat} {C : Circ} (hC : WF C) (hb : b ≤ 1) (h : RefS M b C) : Sem SM miX10_first [.inr (cX 0), .inl (b : Int)] M (Ri (fstS C : Nat) M) := by
  refine Sem.of (by decide) SM_ok (Nat.le_of_ble_eq_true rfl) (ls0 := [some (.inr (cX 0)), some (.inl (b : Int)), none, none]) rfl ?_
  have b0 := (hC.2.2.1 0 (by decide)).2
  have b1 := (hC.2.2.1 1 (by decide)).2
  have b2 := (hC.2.2.1 2 (by decide)).2
  have b3 := (hC.2.2.1 3 (by decide)).2
  have e := or4 _ b0 _ b1 _ b2 _ b3
  refine ev_iconst (np := 1) dX10_first_0 rfl ?_
  refine ev_istore_n (np := 2) dX10_first_1 (by decide) rfl ?_
  refine ev_iconst (np := 3) dX10_first_2 rfl ?_
  refine ev_istore_n (np := 4) dX10_first_3 (by decide) rfl ?_
  refine ev_iload_n (np := 5) dX10_first_4 rfl rfl ?_
  refine ev_iconst (np := 6) dX10_first_5 rfl ?_
  refine ev_icmp_ge (tgt := 29) (np := 9) dX10_first_6 (by decide) rfl (by omega) (by omega) (fun h => absurd h (by omega)) (fun _ => ?_)
  refine ev_iload_n (np := 10) dX10_first_9 rfl rfl ?_
  refine ev_aload_n (np := 11) dX10_first_10 rfl rfl ?_
  refine ev_iload_n (np := 12) dX10_first_11 rfl rfl ?_
  refine ev_bipush (np := 14) dX10_first_12 (by decide) rfl ?_
  refine ev_iload_n (np := 15) dX10_first_14 rfl rfl ?_
  refine ev_iadd (np := 16) dX10_first_15 rfl ?_
  refine ev_Vi2 (np := 19) moX10_of sX10_first_16 (sem_of (b := (b : Int)) (i := 6 + 0) (by omega) (by omega)) rfl rfl (Nat.le_of_ble_eq_true rfl) rfl ?_
  rw [Int.toNat_natCast, show M (cX 1) (34 * b + (6 + 0 : Int).toNat) = (cb C 0 : Int) from (h.2.2.1 0 (by decide)).2]
  refine ev_iload_n (np := 20) dX10_first_19 rfl rfl ?_
  refine ev_ishl (np := 21) dX10_first_20 (by omega) rfl ?_
  refine ev_ior (np := 22) dX10_first_21 (by omega) (Int.mul_nonneg (by omega) (Int.natCast_nonneg _)) rfl ?_
  rw [show (((0 : Int).toNat ||| ((cb C 0 : Int) * ((2 ^ (0 : Int).toNat : Nat) : Int)).toNat : Nat) : Int) = ((0 ||| cb C 0 * 2 ^ 0 : Nat) : Int) from or_sh (a := 0) 0]
  refine ev_istore_n (np := 23) dX10_first_22 (by decide) rfl ?_
  refine ev_iinc (np := 26) dX10_first_23 rfl (by decide) rfl ?_
  refine ev_goto (np := 4) dX10_first_26 (by decide) ?_
  refine ev_iload_n (np := 5) dX10_first_4 rfl rfl ?_
  refine ev_iconst (np := 6) dX10_first_5 rfl ?_
  refine ev_icmp_ge (tgt := 29) (np := 9) dX10_first_6 (by decide) rfl (by omega) (by omega) (fun h => absurd h (by omega)) (fun _ => ?_)
  refine ev_iload_n (np := 10) dX10_first_9 rfl rfl ?_
  refine ev_aload_n (np := 11) dX10_first_10 rfl rfl ?_
  refine ev_iload_n (np := 12) dX10_first_11 rfl rfl ?_
  refine ev_bipush (np := 14) dX10_first_12 (by decide) rfl ?_
  refine ev_iload_n (np := 15) dX10_first_14 rfl rfl ?_
  refine ev_iadd (np := 16) dX10_first_15 rfl ?_
  refine ev_Vi2 (np := 19) moX10_of sX10_first_16 (sem_of (b := (b : Int)) (i := 6 + (0 + 1)) (by omega) (by omega)) rfl rfl (Nat.le_of_ble_eq_true rfl) rfl ?_
  rw [Int.toNat_natCast, show M (cX 1) (34 * b + (6 + (0 + 1) : Int).toNat) = (cb C 1 : Int) from (h.2.2.1 1 (by decide)).2]
  refine ev_iload_n (np := 20) dX10_first_19 rfl rfl ?_
  refine ev_ishl (np := 21) dX10_first_20 (by omega) rfl ?_
  refine ev_ior (np := 22) dX10_first_21 (by omega) (Int.mul_nonneg (by omega) (Int.natCast_nonneg _)) rfl ?_
  rw [show (0 : Int) + 1 = 1 from rfl, show (1 : Int).toNat = 1 from rfl, or_sh 1]
  refine ev_istore_n (np := 23) dX10_first_22 (by decide) rfl ?_
  refine ev_iinc (np := 26) dX10_first_23 rfl (by decide) rfl ?_
  refine ev_goto (np := 4) dX10_first_26 (by decide) ?_
  refine ev_iload_n (np := 5) dX10_first_4 rfl rfl ?_
  refine ev_iconst (np := 6) dX10_first_5 rfl ?_
  refine ev_icmp_ge (tgt := 29) (np := 9) dX10_first_6 (by decide) rfl (by omega) (by omega) (fun h => absurd h (by omega)) (fun _ => ?_)
  refine ev_iload_n (np := 10) dX10_first_9 rfl rfl ?_
  refine ev_aload_n (np := 11) dX10_first_10 rfl rfl ?_
  refine ev_iload_n (np := 12) dX10_first_11 rfl rfl ?_
  refine ev_bipush (np := 14) dX10_first_12 (by decide) rfl ?_
  refine ev_iload_n (np := 15) dX10_first_14 rfl rfl ?_
  refine ev_iadd (np := 16) dX10_first_15 rfl ?_
  refine ev_Vi2 (np := 19) moX10_of sX10_first_16 (sem_of (b := (b : Int)) (i := 6 + (1 + 1)) (by omega) (by omega)) rfl rfl (Nat.le_of_ble_eq_true rfl) rfl ?_
  rw [Int.toNat_natCast, show M (cX 1) (34 * b + (6 + (1 + 1) : Int).toNat) = (cb C 2 : Int) from (h.2.2.1 2 (by decide)).2]
  refine ev_iload_n (np := 20) dX10_first_19 rfl rfl ?_
  refine ev_ishl (np := 21) dX10_first_20 (by omega) rfl ?_
  refine ev_ior (np := 22) dX10_first_21 (by omega) (Int.mul_nonneg (by omega) (Int.natCast_nonneg _)) rfl ?_
  rw [show (1 : Int) + 1 = 2 from rfl, show (2 : Int).toNat = 2 from rfl, or_sh 2]
  refine ev_istore_n (np := 23) dX10_first_22 (by decide) rfl ?_
  refine ev_iinc (np := 26) dX10_first_23 rfl (by decide) rfl ?_
  refine ev_goto (np := 4) dX10_first_26 (by decide) ?_
  refine ev_iload_n (np := 5) dX10_first_4 rfl rfl ?_
  refine ev_iconst (np := 6) dX10_first_5 rfl ?_
  refine ev_icmp_ge (tgt := 29) (np := 9) dX10_first_6 (by decide) rfl (by omega) (by omega) (fun h => absurd h (by omega)) (fun _ => ?_)
  refine ev_iload_n (np := 10) dX10_first_9 rfl rfl ?_
  refine ev_aload_n (np := 11) dX10_first_10 rfl rfl ?_
  refine ev_iload_n (np := 12) dX10_first_11 rfl rfl ?_
  refine ev_bipush (np := 14) dX10_first_12 (by decide) rfl ?_
  refine ev_iload_n (np := 15) dX10_first_14 rfl rfl ?_
  refine ev_iadd (np := 16) dX10_first_15 rfl ?_
  refine ev_Vi2 (np := 19) moX10_of sX10_first_16 (sem_of (b := (b : Int)) (i := 6 + (2 + 1)) (by omega) (by omega)) rfl rfl (Nat.le_of_ble_eq_true rfl) rfl ?_
  rw [Int.toNat_natCast, show M (cX 1) (34 * b + (6 + (2 + 1) : Int).toNat) = (cb C 3 : Int) from (h.2.2.1 3 (by decide)).2]
  refine ev_iload_n (np := 20) dX10_first_19 rfl rfl ?_
  refine ev_ishl (np := 21) dX10_first_20 (by omega) rfl ?_
  refine ev_ior (np := 22) dX10_first_21 (by omega) (Int.mul_nonneg (by omega) (Int.natCast_nonneg _)) rfl ?_
  rw [show (2 : Int) + 1 = 3 from rfl, show (3 : Int).toNat = 3 from rfl, or_sh 3, e]
  refine ev_istore_n (np := 23) dX10_first_22 (by decide) rfl ?_
  refine ev_iinc (np := 26) dX10_first_23 rfl (by decide) rfl ?_
  refine ev_goto (np := 4) dX10_first_26 (by decide) ?_
  refine ev_iload_n (np := 5) dX10_first_4 rfl rfl ?_
  refine ev_iconst (np := 6) dX10_first_5 rfl ?_
  refine ev_icmp_ge (tgt := 29) (np := 9) dX10_first_6 (by decide) rfl (by omega) (by omega) (fun _ => ?_) (fun h => absurd (by omega) h)
  refine ev_iload_n (np := 30) dX10_first_29 rfl rfl ?_
  refine ev_iret dX10_first_30 rfl ?_
  exact ⟨rfl, rfl⟩
/-! the reference's world holds a value -/
def HistM (M : Mem) (h : Hst) : Prop := M (cX 0) 3 = (h.1 : Int) ∧ ∀ e, e < h.1 → RefC (fun i => M (cX 2) (68 * e + i)) (h.2 e).1 ∧ RefC (fun i => M (cX 2) (68 * e + 34 + i)) (h.2 e).2
def TxM (M : Mem) (x : Txt) : Prop := M (cX 0) 5 = (x.1 : Int) ∧ ∀ j, j < x.1 → M (cX 4) j = (x.2 j : Int)
def InvM (M : Mem) (σ : Sg) : Prop := RefS M 0 σ.1 ∧ RefS M 1 σ.2.1 ∧ HistM M σ.2.2.1 ∧ TxM M σ.2.2.2
/-- what a question may change -/
abbrev uQ : Cc → Nat → Bool := uM [3, 5, 6, 7, 8, 9, 10, 11, 12, 13, 14, 15] [6, 7, 9, 16, 17, 18]
theorem InvM.scr {M N : Mem} {σ : Sg} (h : InvM M σ) (f : Fy uQ M N) : InvM N σ := by
  obtain ⟨a, b, c, d⟩ := h
  have e1 := f.arr (n := 1) (by decide)
  have e2 := f.arr (n := 2) (by decide)
  have e4 := f.arr (n := 4) (by decide)
  refine ⟨a.eq e1, b.eq e1, ⟨by rw [f.fld (j := 3) (by decide)]; exact c.1, by rw [e2]; exact c.2⟩, by rw [f.fld (j := 5) (by decide)]; exact d.1, by rw [e4]; exact d.2⟩
theorem InvM.sel {M : Mem} {σ : Sg} (h : InvM M σ) {c : Int} (hc : 0 ≤ c ∧ c ≤ 1) : RefS M c.toNat (sel c σ) := by
  rcases (show c = 0 ∨ c = 1 by omega) with rfl | rfl
  · exact h.1
  · exact h.2.1
theorem sem_mbit {M : Mem} {σ : Sg} (hW : SgW σ) (h : InvM M σ) {c s i w : Int} (hc : Rng c) (hs : Rng s) (hi : Rng i) (hw : Rng w) : Sem SM miX10_bit [.inr (cX 0), .inl c, .inl s, .inl i, .inl w] M (fun v N => v = some (.inl (spBit σ c s i w)) ∧ InvM N σ) := by
  refine Sem.of (by decide) SM_ok (Nat.le_of_ble_eq_true rfl) (ls0 := [some (.inr (cX 0)), some (.inl c), some (.inl s), some (.inl i), some (.inl w)]) rfl ?_
  have hC := sel_w hW c
  have bad : ¬ ((0 ≤ c ∧ c ≤ 1) ∧ (0 ≤ s ∧ s ≤ 15) ∧ (0 ≤ i ∧ i ≤ 3) ∧ (0 ≤ w ∧ w ≤ 15)) → Ev SM miX10_bit 39 [some (.inr (cX 0)), some (.inl c), some (.inl s), some (.inl i), some (.inl w)] [] M (fun v N => v = some (.inl (spBit σ c s i w)) ∧ InvM N σ) := by
    intro hh
    refine ev_ldc (np := 41) sX10_bit_39 rfl ?_
    refine ev_iret dX10_bit_41 rfl ?_
    rw [spBit, if_neg hh]
    exact ⟨rfl, h⟩
  refine ev_iload_n (np := 1) dX10_bit_0 rfl rfl ?_
  refine ev_iconst (np := 2) dX10_bit_1 rfl ?_
  refine ev_iconst (np := 3) dX10_bit_2 rfl ?_
  by_cases g1 : 0 ≤ c ∧ c ≤ 1
  · refine ev_Si3 (np := 6) moX10_in sX10_bit_3 (sem_in_t M hc (by omega) (by omega) g1) (Nat.le_of_ble_eq_true rfl) rfl ?_
    refine ev_if_eq (tgt := 39) (np := 9) dX10_bit_6 (by decide) rfl (by omega) (fun h => absurd h (by omega)) (fun _ => ?_)
    refine ev_iload_n (np := 10) dX10_bit_9 rfl rfl ?_
    refine ev_iconst (np := 11) dX10_bit_10 rfl ?_
    refine ev_bipush (np := 13) dX10_bit_11 (by decide) rfl ?_
    by_cases g2 : 0 ≤ s ∧ s ≤ 15
    · refine ev_Si3 (np := 16) moX10_in sX10_bit_13 (sem_in_t M hs (by omega) (by omega) g2) (Nat.le_of_ble_eq_true rfl) rfl ?_
      refine ev_if_eq (tgt := 39) (np := 19) dX10_bit_16 (by decide) rfl (by omega) (fun h => absurd h (by omega)) (fun _ => ?_)
      refine ev_iload_n (np := 20) dX10_bit_19 rfl rfl ?_
      refine ev_iconst (np := 21) dX10_bit_20 rfl ?_
      refine ev_iconst (np := 22) dX10_bit_21 rfl ?_
      by_cases g3 : 0 ≤ i ∧ i ≤ 3
      · refine ev_Si3 (np := 25) moX10_in sX10_bit_22 (sem_in_t M hi (by omega) (by omega) g3) (Nat.le_of_ble_eq_true rfl) rfl ?_
        refine ev_if_eq (tgt := 39) (np := 28) dX10_bit_25 (by decide) rfl (by omega) (fun h => absurd h (by omega)) (fun _ => ?_)
        refine ev_iload (np := 30) dX10_bit_28 rfl rfl ?_
        refine ev_iconst (np := 31) dX10_bit_30 rfl ?_
        refine ev_bipush (np := 33) dX10_bit_31 (by decide) rfl ?_
        by_cases g4 : 0 ≤ w ∧ w ≤ 15
        · refine ev_Si3 (np := 36) moX10_in sX10_bit_33 (sem_in_t M hw (by omega) (by omega) g4) (Nat.le_of_ble_eq_true rfl) rfl ?_
          refine ev_if_ne (tgt := 42) (np := 39) dX10_bit_36 (by decide) rfl (by omega) (fun _ => ?_) (fun h => absurd h (by omega))
          rw [spBit, if_pos ⟨g1, g2, g3, g4⟩]
          have hS := h.sel g1
          obtain ⟨c1, hc1⟩ := Int.eq_ofNat_of_zero_le g1.1
          obtain ⟨S1, rfl⟩ := Int.eq_ofNat_of_zero_le g2.1
          obtain ⟨I1, rfl⟩ := Int.eq_ofNat_of_zero_le g3.1
          obtain ⟨W1, rfl⟩ := Int.eq_ofNat_of_zero_le g4.1
          rw [hc1, Int.toNat_natCast] at hS
          rw [Int.toNat_natCast, Int.toNat_natCast, Int.toNat_natCast, hc1]
          rw [hc1] at hC
          refine ev_aload_n (np := 43) dX10_bit_42 rfl rfl ?_
          refine ev_iload_n (np := 44) dX10_bit_43 rfl rfl ?_
          refine ev_iload_n (np := 45) dX10_bit_44 rfl rfl ?_
          refine ev_iload_n (np := 46) dX10_bit_45 rfl rfl ?_
          refine ev_V3 (np := 49) moX10_lights sX10_bit_46 (sem_lights hC (by omega) (by omega) (by omega) hS ) rfl rfl (Nat.le_of_ble_eq_true rfl) rfl (fun v N hq => ?_)
          obtain ⟨rfl, hwv, hf⟩ := hq
          refine ev_aload_n (np := 50) dX10_bit_49 rfl rfl ?_
          refine ev_getR (np := 53) sX10_bit_50 rfl rfl rfl ?_
          refine ev_iload (np := 55) dX10_bit_53 rfl rfl ?_
          refine ev_iaload (np := 56) dX10_bit_55 rfl (by omega) (by omega) rfl ?_
          rw [Int.toNat_natCast, hwv _ (by omega)]
          refine ev_iret dX10_bit_56 rfl ?_
          exact ⟨rfl, h.scr (hf.le (by decide))⟩
        · refine ev_Si3 (np := 36) moX10_in sX10_bit_33 (sem_in_f M hw (by omega) (by omega) g4) (Nat.le_of_ble_eq_true rfl) rfl ?_
          refine ev_if_ne (tgt := 42) (np := 39) dX10_bit_36 (by decide) rfl (by omega) (fun h => absurd (by omega) h) (fun _ => ?_)
          exact bad (fun q => g4 q.2.2.2)
      · refine ev_Si3 (np := 25) moX10_in sX10_bit_22 (sem_in_f M hi (by omega) (by omega) g3) (Nat.le_of_ble_eq_true rfl) rfl ?_
        refine ev_if_eq (tgt := 39) (np := 28) dX10_bit_25 (by decide) rfl (by omega) (fun _ => ?_) (fun h => absurd (by omega) h)
        exact bad (fun q => g3 q.2.2.1)
    · refine ev_Si3 (np := 16) moX10_in sX10_bit_13 (sem_in_f M hs (by omega) (by omega) g2) (Nat.le_of_ble_eq_true rfl) rfl ?_
      refine ev_if_eq (tgt := 39) (np := 19) dX10_bit_16 (by decide) rfl (by omega) (fun _ => ?_) (fun h => absurd (by omega) h)
      exact bad (fun q => g2 q.2.1)
  · refine ev_Si3 (np := 6) moX10_in sX10_bit_3 (sem_in_f M hc (by omega) (by omega) g1) (Nat.le_of_ble_eq_true rfl) rfl ?_
    refine ev_if_eq (tgt := 39) (np := 9) dX10_bit_6 (by decide) rfl (by omega) (fun _ => ?_) (fun h => absurd (by omega) h)
    exact bad (fun q => g1 q.1)
theorem sem_mbehind {M : Mem} {σ : Sg} (hW : SgW σ) (h : InvM M σ) {c s i : Int} (hc : Rng c) (hs : Rng s) (hi : Rng i) : Sem SM miX10_behind [.inr (cX 0), .inl c, .inl s, .inl i] M (fun v N => v = some (.inl (spBehind σ c s i)) ∧ InvM N σ) := by
  refine Sem.of (by decide) SM_ok (Nat.le_of_ble_eq_true rfl) (ls0 := [some (.inr (cX 0)), some (.inl c), some (.inl s), some (.inl i)]) rfl ?_
  have hC := sel_w hW c
  have bad : ¬ ((0 ≤ c ∧ c ≤ 1) ∧ (0 ≤ s ∧ s ≤ 15) ∧ (0 ≤ i ∧ i ≤ 3)) → Ev SM miX10_behind 38 [some (.inr (cX 0)), some (.inl c), some (.inl s), some (.inl i)] [] M (fun v N => v = some (.inl (spBehind σ c s i)) ∧ InvM N σ) := by
    intro hh
    refine ev_ldc (np := 40) sX10_behind_38 rfl ?_
    refine ev_iret dX10_behind_40 rfl ?_
    rw [spBehind, if_neg hh]
    exact ⟨rfl, h⟩
  refine ev_iload_n (np := 1) dX10_behind_0 rfl rfl ?_
  refine ev_iconst (np := 2) dX10_behind_1 rfl ?_
  refine ev_iconst (np := 3) dX10_behind_2 rfl ?_
  by_cases g1 : 0 ≤ c ∧ c ≤ 1
  · refine ev_Si3 (np := 6) moX10_in sX10_behind_3 (sem_in_t M hc (by omega) (by omega) g1) (Nat.le_of_ble_eq_true rfl) rfl ?_
    refine ev_if_eq (tgt := 38) (np := 9) dX10_behind_6 (by decide) rfl (by omega) (fun h => absurd h (by omega)) (fun _ => ?_)
    refine ev_iload_n (np := 10) dX10_behind_9 rfl rfl ?_
    refine ev_iconst (np := 11) dX10_behind_10 rfl ?_
    refine ev_bipush (np := 13) dX10_behind_11 (by decide) rfl ?_
    by_cases g2 : 0 ≤ s ∧ s ≤ 15
    · refine ev_Si3 (np := 16) moX10_in sX10_behind_13 (sem_in_t M hs (by omega) (by omega) g2) (Nat.le_of_ble_eq_true rfl) rfl ?_
      refine ev_if_eq (tgt := 38) (np := 19) dX10_behind_16 (by decide) rfl (by omega) (fun h => absurd h (by omega)) (fun _ => ?_)
      refine ev_iload_n (np := 20) dX10_behind_19 rfl rfl ?_
      refine ev_iconst (np := 21) dX10_behind_20 rfl ?_
      refine ev_iconst (np := 22) dX10_behind_21 rfl ?_
      by_cases g3 : 0 ≤ i ∧ i ≤ 3
      · refine ev_Si3 (np := 25) moX10_in sX10_behind_22 (sem_in_t M hi (by omega) (by omega) g3) (Nat.le_of_ble_eq_true rfl) rfl ?_
        refine ev_if_eq (tgt := 38) (np := 28) dX10_behind_25 (by decide) rfl (by omega) (fun h => absurd h (by omega)) (fun _ => ?_)
        rw [spBehind, if_pos ⟨g1, g2, g3⟩]
        have hS := h.sel g1
        obtain ⟨c1, hc1⟩ := Int.eq_ofNat_of_zero_le g1.1
        obtain ⟨S1, rfl⟩ := Int.eq_ofNat_of_zero_le g2.1
        obtain ⟨I1, rfl⟩ := Int.eq_ofNat_of_zero_le g3.1
        rw [hc1, Int.toNat_natCast] at hS
        rw [Int.toNat_natCast, Int.toNat_natCast, hc1]
        rw [hc1] at hC
        refine ev_aload_n (np := 29) dX10_behind_28 rfl rfl ?_
        refine ev_iload_n (np := 30) dX10_behind_29 rfl rfl ?_
        refine ev_iload_n (np := 31) dX10_behind_30 rfl rfl ?_
        refine ev_iload_n (np := 32) dX10_behind_31 rfl rfl ?_
        refine ev_V3 (np := 35) moX10_then sX10_behind_32 (sem_mthen hC (by omega) (by omega) (by omega) hS ) rfl rfl (Nat.le_of_ble_eq_true rfl) rfl (fun v N hq => ?_)
        obtain ⟨rfl, hf⟩ := hq
        refine ev_goto (np := 40) dX10_behind_35 (by decide) ?_
        refine ev_iret dX10_behind_40 rfl ?_
        exact ⟨rfl, h.scr (hf.le (by decide))⟩
      · refine ev_Si3 (np := 25) moX10_in sX10_behind_22 (sem_in_f M hi (by omega) (by omega) g3) (Nat.le_of_ble_eq_true rfl) rfl ?_
        refine ev_if_eq (tgt := 38) (np := 28) dX10_behind_25 (by decide) rfl (by omega) (fun _ => ?_) (fun h => absurd (by omega) h)
        exact bad (fun q => g3 q.2.2)
    · refine ev_Si3 (np := 16) moX10_in sX10_behind_13 (sem_in_f M hs (by omega) (by omega) g2) (Nat.le_of_ble_eq_true rfl) rfl ?_
      refine ev_if_eq (tgt := 38) (np := 19) dX10_behind_16 (by decide) rfl (by omega) (fun _ => ?_) (fun h => absurd (by omega) h)
      exact bad (fun q => g2 q.2.1)
  · refine ev_Si3 (np := 6) moX10_in sX10_behind_3 (sem_in_f M hc (by omega) (by omega) g1) (Nat.le_of_ble_eq_true rfl) rfl ?_
    refine ev_if_eq (tgt := 38) (np := 9) dX10_behind_6 (by decide) rfl (by omega) (fun _ => ?_) (fun h => absurd (by omega) h)
    exact bad (fun q => g1 q.1)
theorem mrun_loop {b : Nat} {C : Circ} (hC : WF C) (hb : b ≤ 1) {σ : Sg} {row : Int} (hr : Rng row) {n : Nat} (hn : n ≤ 16) {w : Int} (hw : 0 ≤ w ∧ w ≤ 1) (sl : ∀ N, InvM N σ → RefS N b C) : ∀ (m t : Nat) (N : Mem) (v : Option Val), t + m = n → InvM N σ → Ev SM miX10_run 45 [some (.inr (cX 0)), some (.inl (b : Int)), some (.inl row), some (.inl (n : Int)), some (.inl w), some (.inl ((runS C row t).1 : Nat)), some (.inl ((runS C row t).2 : Nat)), some (.inl (t : Int)), v] [] N (fun v N => v = some (.inl (if w = 0 then ((runS C row n).1 : Nat) else ((runS C row n).2 : Nat))) ∧ InvM N σ) := by
  intro m
  induction m with
  | zero =>
    intro t N v ht hI
    rw [show t = n by omega]
    refine ev_iload (np := 47) dX10_run_45 rfl rfl ?_
    refine ev_iload_n (np := 48) dX10_run_47 rfl rfl ?_
    refine ev_icmp_ge (tgt := 95) (np := 51) dX10_run_48 (by decide) rfl (by omega) (by omega) (fun _ => ?_) (fun h => absurd (by omega) h)
    refine ev_iload (np := 97) dX10_run_95 rfl rfl ?_
    refine ev_if_ne (tgt := 105) (np := 100) dX10_run_97 (by decide) rfl (by omega) (fun g => ?_) (fun g => ?_)
    · refine ev_iload (np := 107) dX10_run_105 rfl rfl ?_
      refine ev_iret dX10_run_107 rfl ?_
      exact ⟨by rw [if_neg (by omega)], hI⟩
    · refine ev_iload (np := 102) dX10_run_100 rfl rfl ?_
      refine ev_goto (np := 107) dX10_run_102 (by decide) ?_
      refine ev_iret dX10_run_107 rfl ?_
      exact ⟨by rw [if_pos (by omega)], hI⟩
  | succ m ih =>
    intro t N v ht hI
    have l1 := run1_lt hC row t
    have l2 := run2_lt C row t (by omega)
    have l3 := inp_lt row t
    have l4 := out_lt C (runS C row t).1 (inpS row t)
    refine ev_iload (np := 47) dX10_run_45 rfl rfl ?_
    refine ev_iload_n (np := 48) dX10_run_47 rfl rfl ?_
    refine ev_icmp_ge (tgt := 95) (np := 51) dX10_run_48 (by decide) rfl (by omega) (by omega) (fun h => absurd h (by omega)) (fun _ => ?_)
    refine ev_iload_n (np := 52) dX10_run_51 rfl rfl ?_
    refine ev_iconst (np := 53) dX10_run_52 rfl ?_
    refine ev_iload (np := 55) dX10_run_53 rfl rfl ?_
    refine ev_imul (np := 56) dX10_run_55 rfl ?_
    refine ev_ishr (np := 57) dX10_run_56 (by omega) (by omega) rfl ?_
    refine ev_iconst (np := 58) dX10_run_57 rfl ?_
    refine ev_iandm 2 (np := 59) dX10_run_58 (by omega) rfl rfl ?_
    rw [show (((2 : Int) * (t : Int)).toNat) = 2 * t by omega, show ((2 ^ 2 : Nat) : Int) = 4 from rfl, show row / ((2 ^ (2 * t) : Nat) : Int) % 4 = (inpS row t : Int) by unfold inpS; rw [Int.toNat_of_nonneg (Int.emod_nonneg _ (by decide))]]
    refine ev_istore (np := 61) dX10_run_59 (by decide) rfl ?_
    refine ev_iload (np := 63) dX10_run_61 rfl rfl ?_
    refine ev_aload_n (np := 64) dX10_run_63 rfl rfl ?_
    refine ev_iload_n (np := 65) dX10_run_64 rfl rfl ?_
    refine ev_iload (np := 67) dX10_run_65 rfl rfl ?_
    refine ev_iload (np := 69) dX10_run_67 rfl rfl ?_
    refine ev_V3 (np := 72) moX10_out sX10_run_69 (sem_mout hC hb l1 l3 (sl N hI) ) rfl rfl (Nat.le_of_ble_eq_true rfl) rfl (fun v2 N2 hq => ?_)
    obtain ⟨rfl, f2⟩ := hq
    have i2 := hI.scr (f2.le (by decide))
    refine ev_iload (np := 74) dX10_run_72 rfl rfl ?_
    refine ev_ishl (np := 75) dX10_run_74 (by omega) rfl ?_
    refine ev_ior (np := 76) dX10_run_75 (by omega) (Int.mul_nonneg (by omega) (Int.natCast_nonneg _)) rfl ?_
    rw [Int.toNat_natCast t, or_sh t]
    refine ev_istore (np := 78) dX10_run_76 (by decide) rfl ?_
    refine ev_aload_n (np := 79) dX10_run_78 rfl rfl ?_
    refine ev_iload_n (np := 80) dX10_run_79 rfl rfl ?_
    refine ev_iload (np := 82) dX10_run_80 rfl rfl ?_
    refine ev_iload (np := 84) dX10_run_82 rfl rfl ?_
    refine ev_V3 (np := 87) moX10_then sX10_run_84 (sem_mthen hC hb l1 l3 (sl N2 i2) ) rfl rfl (Nat.le_of_ble_eq_true rfl) rfl (fun v3 N3 hq => ?_)
    obtain ⟨rfl, f3⟩ := hq
    have i3 := i2.scr (f3.le (by decide))
    refine ev_istore (np := 89) dX10_run_87 (by decide) rfl ?_
    refine ev_iinc (np := 92) dX10_run_89 rfl (by decide) rfl ?_
    refine ev_goto (np := 45) dX10_run_92 (by decide) ?_
    exact ih (t + 1) N3 _ (by omega) i3
theorem sem_mrun {M : Mem} {σ : Sg} (hW : SgW σ) (h : InvM M σ) {c row t w : Int} (hc : Rng c) (hr : Rng row) (ht : Rng t) (hw : Rng w) : Sem SM miX10_run [.inr (cX 0), .inl c, .inl row, .inl t, .inl w] M (fun v N => v = some (.inl (spRun σ c row t w)) ∧ InvM N σ) := by
  refine Sem.of (by decide) SM_ok (Nat.le_of_ble_eq_true rfl) (ls0 := [some (.inr (cX 0)), some (.inl c), some (.inl row), some (.inl t), some (.inl w), none, none, none, none]) rfl ?_
  have hC := sel_w hW c
  have bad : ¬ ((0 ≤ c ∧ c ≤ 1) ∧ (0 ≤ t ∧ t ≤ 16) ∧ (0 ≤ w ∧ w ≤ 1)) → Ev SM miX10_run 29 [some (.inr (cX 0)), some (.inl c), some (.inl row), some (.inl t), some (.inl w), none, none, none, none] [] M (fun v N => v = some (.inl (spRun σ c row t w)) ∧ InvM N σ) := by
    intro hh
    refine ev_ldc (np := 31) sX10_run_29 rfl ?_
    refine ev_iret dX10_run_31 rfl ?_
    rw [spRun, if_neg hh]
    exact ⟨rfl, h⟩
  refine ev_iload_n (np := 1) dX10_run_0 rfl rfl ?_
  refine ev_iconst (np := 2) dX10_run_1 rfl ?_
  refine ev_iconst (np := 3) dX10_run_2 rfl ?_
  by_cases g1 : 0 ≤ c ∧ c ≤ 1
  · refine ev_Si3 (np := 6) moX10_in sX10_run_3 (sem_in_t M hc (by omega) (by omega) g1) (Nat.le_of_ble_eq_true rfl) rfl ?_
    refine ev_if_eq (tgt := 29) (np := 9) dX10_run_6 (by decide) rfl (by omega) (fun h => absurd h (by omega)) (fun _ => ?_)
    refine ev_iload_n (np := 10) dX10_run_9 rfl rfl ?_
    refine ev_iconst (np := 11) dX10_run_10 rfl ?_
    refine ev_bipush (np := 13) dX10_run_11 (by decide) rfl ?_
    by_cases g2 : 0 ≤ t ∧ t ≤ 16
    · refine ev_Si3 (np := 16) moX10_in sX10_run_13 (sem_in_t M ht (by omega) (by omega) g2) (Nat.le_of_ble_eq_true rfl) rfl ?_
      refine ev_if_eq (tgt := 29) (np := 19) dX10_run_16 (by decide) rfl (by omega) (fun h => absurd h (by omega)) (fun _ => ?_)
      refine ev_iload (np := 21) dX10_run_19 rfl rfl ?_
      refine ev_iconst (np := 22) dX10_run_21 rfl ?_
      refine ev_iconst (np := 23) dX10_run_22 rfl ?_
      by_cases g3 : 0 ≤ w ∧ w ≤ 1
      · refine ev_Si3 (np := 26) moX10_in sX10_run_23 (sem_in_t M hw (by omega) (by omega) g3) (Nat.le_of_ble_eq_true rfl) rfl ?_
        refine ev_if_ne (tgt := 32) (np := 29) dX10_run_26 (by decide) rfl (by omega) (fun _ => ?_) (fun h => absurd h (by omega))
        rw [spRun, if_pos ⟨g1, g2, g3⟩]
        have sl : ∀ N, InvM N σ → RefS N c.toNat (sel c σ) := fun N hN => hN.sel g1
        obtain ⟨c1, hc1⟩ := Int.eq_ofNat_of_zero_le g1.1
        obtain ⟨n, rfl⟩ := Int.eq_ofNat_of_zero_le g2.1
        rw [hc1, Int.toNat_natCast] at sl
        rw [Int.toNat_natCast, hc1]
        rw [hc1] at hC
        refine ev_aload_n (np := 33) dX10_run_32 rfl rfl ?_
        refine ev_iload_n (np := 34) dX10_run_33 rfl rfl ?_
        refine ev_Vi1 (np := 37) moX10_first sX10_run_34 (sem_mfirst hC (b := c1) (by omega) (sl M h)) rfl rfl (Nat.le_of_ble_eq_true rfl) rfl ?_
        refine ev_istore (np := 39) dX10_run_37 (by decide) rfl ?_
        refine ev_iconst (np := 40) dX10_run_39 rfl ?_
        refine ev_istore (np := 42) dX10_run_40 (by decide) rfl ?_
        refine ev_iconst (np := 43) dX10_run_42 rfl ?_
        refine ev_istore (np := 45) dX10_run_43 (by decide) rfl ?_
        exact mrun_loop hC (by omega) hr (by omega) g3 sl n 0 M none (by omega) h
      · refine ev_Si3 (np := 26) moX10_in sX10_run_23 (sem_in_f M hw (by omega) (by omega) g3) (Nat.le_of_ble_eq_true rfl) rfl ?_
        refine ev_if_ne (tgt := 32) (np := 29) dX10_run_26 (by decide) rfl (by omega) (fun h => absurd (by omega) h) (fun _ => ?_)
        exact bad (fun q => g3 q.2.2)
    · refine ev_Si3 (np := 16) moX10_in sX10_run_13 (sem_in_f M ht (by omega) (by omega) g2) (Nat.le_of_ble_eq_true rfl) rfl ?_
      refine ev_if_eq (tgt := 29) (np := 19) dX10_run_16 (by decide) rfl (by omega) (fun _ => ?_) (fun h => absurd (by omega) h)
      exact bad (fun q => g2 q.2.1)
  · refine ev_Si3 (np := 6) moX10_in sX10_run_3 (sem_in_f M hc (by omega) (by omega) g1) (Nat.le_of_ble_eq_true rfl) rfl ?_
    refine ev_if_eq (tgt := 29) (np := 9) dX10_run_6 (by decide) rfl (by omega) (fun _ => ?_) (fun h => absurd (by omega) h)
    exact bad (fun q => g1 q.1)
theorem fls_ok : ∀ n : Nat, n < 17 → ∀ h : Nat, h < 5 → n / 2 ^ h ≤ 1 → (h = 0 ∨ 1 < n / 2 ^ (h - 1)) → (if n = 0 then (0 : Int) else (((123 + h) * 8388608 : Nat) : Int) + ((n : Int) - ((2 ^ h : Nat) : Int)) * ((2 ^ (23 - h) : Nat) : Int)) = (flt n : Int) := by decide +kernel
theorem six_loop (M : Mem) {n : Nat} (hn : n < 17) : ∀ (m h : Nat), h + m = 4 → (h = 0 ∨ 1 < n / 2 ^ (h - 1)) → Ev SM miX10_sixteenths 2 [some (.inl (n : Int)), some (.inl (h : Int))] [] M (Ri (flt n : Nat) M) := by
  have fin : ∀ h : Nat, h < 5 → n / 2 ^ h ≤ 1 → (h = 0 ∨ 1 < n / 2 ^ (h - 1)) → Ev SM miX10_sixteenths 15 [some (.inl (n : Int)), some (.inl (h : Int))] [] M (Ri (flt n : Nat) M) := by
    intro h h1 h2 h3
    have e := fls_ok n hn h h1 h2 h3
    refine ev_iload_n (np := 16) dX10_sixteenths_15 rfl rfl ?_
    refine ev_if_ne (tgt := 23) (np := 19) dX10_sixteenths_16 (by decide) rfl (by omega) (fun g => ?_) (fun g => ?_)
    · rw [if_neg (by omega)] at e
      refine ev_bipush (np := 25) dX10_sixteenths_23 (by decide) rfl ?_
      refine ev_iload_n (np := 26) dX10_sixteenths_25 rfl rfl ?_
      refine ev_iadd (np := 27) dX10_sixteenths_26 rfl ?_
      refine ev_bipush (np := 29) dX10_sixteenths_27 (by decide) rfl ?_
      refine ev_ishl (np := 30) dX10_sixteenths_29 (by omega) rfl ?_
      refine ev_iload_n (np := 31) dX10_sixteenths_30 rfl rfl ?_
      refine ev_iconst (np := 32) dX10_sixteenths_31 rfl ?_
      refine ev_iload_n (np := 33) dX10_sixteenths_32 rfl rfl ?_
      refine ev_ishl (np := 34) dX10_sixteenths_33 (by omega) rfl ?_
      refine ev_isub (np := 35) dX10_sixteenths_34 rfl ?_
      refine ev_bipush (np := 37) dX10_sixteenths_35 (by decide) rfl ?_
      refine ev_iload_n (np := 38) dX10_sixteenths_37 rfl rfl ?_
      refine ev_isub (np := 39) dX10_sixteenths_38 rfl ?_
      refine ev_ishl (np := 40) dX10_sixteenths_39 (by omega) rfl ?_
      have e2 : ((123 : Int) + (h : Int)) * ((2 ^ (23 : Int).toNat : Nat) : Int) + ((n : Int) - 1 * ((2 ^ (h : Int).toNat : Nat) : Int)) * ((2 ^ ((23 : Int) - (h : Int)).toNat : Nat) : Int) = (flt n : Int) := by
        rw [← e, Int.toNat_natCast, Int.one_mul, show ((23 : Int) - (h : Int)).toNat = 23 - h by omega, show ((2 ^ (23 : Int).toNat : Nat) : Int) = 8388608 from rfl]
        congr 1
      refine ev_iadd (np := 41) dX10_sixteenths_40 rfl ?_
      rw [e2]
      refine ev_iret dX10_sixteenths_41 rfl ?_
      exact ⟨rfl, rfl⟩
    · rw [if_pos (by omega)] at e
      refine ev_iconst (np := 20) dX10_sixteenths_19 rfl ?_
      refine ev_goto (np := 41) dX10_sixteenths_20 (by decide) ?_
      refine ev_iret dX10_sixteenths_41 rfl ?_
      exact ⟨by rw [← e], rfl⟩
  intro m
  induction m with
  | zero =>
    intro h h0 h3
    have h4 : h = 4 := by omega
    subst h4
    refine ev_iload_n (np := 3) dX10_sixteenths_2 rfl rfl ?_
    refine ev_iload_n (np := 4) dX10_sixteenths_3 rfl rfl ?_
    refine ev_ishr (np := 5) dX10_sixteenths_4 (by omega) (by omega) rfl ?_
    have e : (n : Int) / ((2 ^ ((4 : Nat) : Int).toNat : Nat) : Int) = ((n / 2 ^ 4 : Nat) : Int) := by
      rw [Int.toNat_natCast]
      norm_cast
    rw [e]
    refine ev_iconst (np := 6) dX10_sixteenths_5 rfl ?_
    refine ev_icmp_le (tgt := 15) (np := 9) dX10_sixteenths_6 (by decide) rfl (by omega) (by omega) (fun _ => ?_) (fun h => absurd (by omega) h)
    exact fin 4 (by omega) (by omega) h3
  | succ m ih =>
    intro h h0 h3
    have ihn := ih (h + 1) (by omega)
    have finn := fin h (by omega)
    rw [show h + 1 - 1 = h by omega] at ihn
    refine ev_iload_n (np := 3) dX10_sixteenths_2 rfl rfl ?_
    refine ev_iload_n (np := 4) dX10_sixteenths_3 rfl rfl ?_
    refine ev_ishr (np := 5) dX10_sixteenths_4 (by omega) (by omega) rfl ?_
    have e : (n : Int) / ((2 ^ (h : Int).toNat : Nat) : Int) = ((n / 2 ^ h : Nat) : Int) := by
      rw [Int.toNat_natCast]
      norm_cast
    rw [e]
    have hd : n / 2 ^ h ≤ n := Nat.div_le_self _ _
    clear ih fin e
    generalize n / 2 ^ h = z at hd ihn finn ⊢
    refine ev_iconst (np := 6) dX10_sixteenths_5 rfl ?_
    refine ev_icmp_le (tgt := 15) (np := 9) dX10_sixteenths_6 (by decide) rfl (by omega) (by omega) (fun h2 => ?_) (fun h2 => ?_)
    · exact finn (by omega) h3
    · refine ev_iinc (np := 12) dX10_sixteenths_9 rfl (by decide) rfl ?_
      refine ev_goto (np := 2) dX10_sixteenths_12 (by decide) ?_
      exact ihn (Or.inr (by omega))
theorem sem_sixteenths (M : Mem) {n : Nat} (hn : n < 17) : Sem SM miX10_sixteenths [.inl (n : Int)] M (Ri (flt n : Nat) M) := by
  refine Sem.of (by decide) SM_ok (Nat.le_of_ble_eq_true rfl) (ls0 := [some (.inl (n : Int)), none]) rfl ?_
  refine ev_iconst (np := 1) dX10_sixteenths_0 rfl ?_
  refine ev_istore_n (np := 2) dX10_sixteenths_1 (by decide) rfl ?_
  exact six_loop M hn 4 0 rfl (Or.inl rfl)
theorem mshare_loop {b : Nat} {C : Circ} (hC : WF C) (hb : b ≤ 1) {σ : Sg} {i : Nat} (hi : i < 4) (sl : ∀ N, InvM N σ → RefS N b C) : ∀ (m s : Nat) (N : Mem), s + m = 16 → InvM N σ → Ev SM miX10_share 26 [some (.inr (cX 0)), some (.inl (b : Int)), some (.inl (i : Int)), some (.inl (onesS C i s : Nat)), some (.inl (s : Int))] [] N (fun v N => v = some (.inl (flt (onesS C i 16) : Nat)) ∧ InvM N σ) := by
  intro m
  induction m with
  | zero =>
    intro s N hs hI
    rw [show s = 16 by omega]
    have := ones_le C i 16
    refine ev_iload (np := 28) dX10_share_26 rfl rfl ?_
    refine ev_bipush (np := 30) dX10_share_28 (by decide) rfl ?_
    refine ev_icmp_ge (tgt := 50) (np := 33) dX10_share_30 (by decide) rfl (by omega) (by omega) (fun _ => ?_) (fun h => absurd (by omega) h)
    refine ev_iload_n (np := 51) dX10_share_50 rfl rfl ?_
    refine ev_Si1 (np := 54) moX10_sixteenths sX10_share_51 (sem_sixteenths N (n := onesS C i 16) (by omega)) (Nat.le_of_ble_eq_true rfl) rfl ?_
    refine ev_iret dX10_share_54 rfl ?_
    exact ⟨rfl, hI⟩
  | succ m ih =>
    intro s N hs hI
    have := ones_le C i s
    refine ev_iload (np := 28) dX10_share_26 rfl rfl ?_
    refine ev_bipush (np := 30) dX10_share_28 (by decide) rfl ?_
    refine ev_icmp_ge (tgt := 50) (np := 33) dX10_share_30 (by decide) rfl (by omega) (by omega) (fun h => absurd h (by omega)) (fun _ => ?_)
    refine ev_iload_n (np := 34) dX10_share_33 rfl rfl ?_
    refine ev_aload_n (np := 35) dX10_share_34 rfl rfl ?_
    refine ev_iload_n (np := 36) dX10_share_35 rfl rfl ?_
    refine ev_iload (np := 38) dX10_share_36 rfl rfl ?_
    refine ev_iload_n (np := 39) dX10_share_38 rfl rfl ?_
    refine ev_V3 (np := 42) moX10_out sX10_share_39 (sem_mout hC hb (s := s) (by omega) hi (sl N hI) ) rfl rfl (Nat.le_of_ble_eq_true rfl) rfl (fun v2 N2 hq => ?_)
    obtain ⟨rfl, f2⟩ := hq
    refine ev_iadd (np := 43) dX10_share_42 rfl ?_
    refine ev_istore_n (np := 44) dX10_share_43 (by decide) rfl ?_
    refine ev_iinc (np := 47) dX10_share_44 rfl (by decide) rfl ?_
    refine ev_goto (np := 26) dX10_share_47 (by decide) ?_
    exact ih (s + 1) N2 (by omega) (hI.scr (f2.le (by decide)))
theorem sem_mshare {M : Mem} {σ : Sg} (hW : SgW σ) (h : InvM M σ) {c i : Int} (hc : Rng c) (hi : Rng i) : Sem SM miX10_share [.inr (cX 0), .inl c, .inl i] M (fun v N => v = some (.inl (spShare σ c i)) ∧ InvM N σ) := by
  refine Sem.of (by decide) SM_ok (Nat.le_of_ble_eq_true rfl) (ls0 := [some (.inr (cX 0)), some (.inl c), some (.inl i), none, none]) rfl ?_
  have hC := sel_w hW c
  have bad : ¬ ((0 ≤ c ∧ c ≤ 1) ∧ (0 ≤ i ∧ i ≤ 3)) → Ev SM miX10_share 18 [some (.inr (cX 0)), some (.inl c), some (.inl i), none, none] [] M (fun v N => v = some (.inl (spShare σ c i)) ∧ InvM N σ) := by
    intro hh
    refine ev_ldc (np := 20) sX10_share_18 rfl ?_
    refine ev_iret dX10_share_20 rfl ?_
    rw [spShare, if_neg hh]
    exact ⟨rfl, h⟩
  refine ev_iload_n (np := 1) dX10_share_0 rfl rfl ?_
  refine ev_iconst (np := 2) dX10_share_1 rfl ?_
  refine ev_iconst (np := 3) dX10_share_2 rfl ?_
  by_cases g1 : 0 ≤ c ∧ c ≤ 1
  · refine ev_Si3 (np := 6) moX10_in sX10_share_3 (sem_in_t M hc (by omega) (by omega) g1) (Nat.le_of_ble_eq_true rfl) rfl ?_
    refine ev_if_eq (tgt := 18) (np := 9) dX10_share_6 (by decide) rfl (by omega) (fun h => absurd h (by omega)) (fun _ => ?_)
    refine ev_iload_n (np := 10) dX10_share_9 rfl rfl ?_
    refine ev_iconst (np := 11) dX10_share_10 rfl ?_
    refine ev_iconst (np := 12) dX10_share_11 rfl ?_
    by_cases g2 : 0 ≤ i ∧ i ≤ 3
    · refine ev_Si3 (np := 15) moX10_in sX10_share_12 (sem_in_t M hi (by omega) (by omega) g2) (Nat.le_of_ble_eq_true rfl) rfl ?_
      refine ev_if_ne (tgt := 21) (np := 18) dX10_share_15 (by decide) rfl (by omega) (fun _ => ?_) (fun h => absurd h (by omega))
      rw [spShare, if_pos ⟨g1, g2⟩]
      have sl : ∀ N, InvM N σ → RefS N c.toNat (sel c σ) := fun N hN => hN.sel g1
      obtain ⟨c1, hc1⟩ := Int.eq_ofNat_of_zero_le g1.1
      obtain ⟨I1, rfl⟩ := Int.eq_ofNat_of_zero_le g2.1
      rw [hc1, Int.toNat_natCast] at sl
      rw [Int.toNat_natCast, hc1]
      rw [hc1] at hC
      refine ev_iconst (np := 22) dX10_share_21 rfl ?_
      refine ev_istore_n (np := 23) dX10_share_22 (by decide) rfl ?_
      refine ev_iconst (np := 24) dX10_share_23 rfl ?_
      refine ev_istore (np := 26) dX10_share_24 (by decide) rfl ?_
      exact mshare_loop hC (by omega) (by omega) sl 16 0 M rfl h
    · refine ev_Si3 (np := 15) moX10_in sX10_share_12 (sem_in_f M hi (by omega) (by omega) g2) (Nat.le_of_ble_eq_true rfl) rfl ?_
      refine ev_if_ne (tgt := 21) (np := 18) dX10_share_15 (by decide) rfl (by omega) (fun h => absurd (by omega) h) (fun _ => ?_)
      exact bad (fun q => g2 q.2)
  · refine ev_Si3 (np := 6) moX10_in sX10_share_3 (sem_in_f M hc (by omega) (by omega) g1) (Nat.le_of_ble_eq_true rfl) rfl ?_
    refine ev_if_eq (tgt := 18) (np := 9) dX10_share_6 (by decide) rfl (by omega) (fun _ => ?_) (fun h => absurd (by omega) h)
    exact bad (fun q => g1 q.1)
