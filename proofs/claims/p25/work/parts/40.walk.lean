/-! THE WALK OVER THE PAIRS, in the class -/
def PwT (N : Mem) (s : Bst) : Prop := N (cX 1) 6 = (bn s : Int) ∧ (∀ c, c < 256 → N (cX 3) c = if bmet s c = true then 1 else 0) ∧ (∀ j, j < bn s → N (cX 5) j = (bz s j : Int)) ∧ (∀ j, j < bn s → N (cX 7) j = (bo s j : Int)) ∧ (∀ j, j < bn s → N (cX 9) j = (btk s j : Int)) ∧ (∀ j, 0 < j → j < bn s → N (cX 11) j = (bah s j : Int)) ∧ ∀ j, j < bn s → N (cX 13) j = (bli s j : Int)
theorem Fx.pw {U : Cc → Bool} {M N : Mem} (h : Fx U M N) (hu : ∀ n, n < 14 → U (cX n) = false) {s : Bst} (hp : PwT M s) : PwT N s := by
  obtain ⟨h1, h2, h3, h4, h5, h6, h7⟩ := hp
  refine ⟨by rw [h _ (hu _ (by decide))]; exact h1, ?_, ?_, ?_, ?_, ?_, ?_⟩
  · rw [h _ (hu _ (by decide))]; exact h2
  · rw [h _ (hu _ (by decide))]; exact h3
  · rw [h _ (hu _ (by decide))]; exact h4
  · rw [h _ (hu _ (by decide))]; exact h5
  · rw [h _ (hu _ (by decide))]; exact h6
  · rw [h _ (hu _ (by decide))]; exact h7
theorem rw2 : IsRow (cX 2) (cX 3) 256 := ⟨rfl, rfl, by decide⟩
theorem rw4 : IsRow (cX 4) (cX 5) 256 := ⟨rfl, rfl, by decide⟩
theorem rw6 : IsRow (cX 6) (cX 7) 256 := ⟨rfl, rfl, by decide⟩
theorem rw8 : IsRow (cX 8) (cX 9) 256 := ⟨rfl, rfl, by decide⟩
theorem rw10 : IsRow (cX 10) (cX 11) 256 := ⟨rfl, rfl, by decide⟩
theorem rw12 : IsRow (cX 12) (cX 13) 256 := ⟨rfl, rfl, by decide⟩
/-- the six writes of a new pair -/
def wPush (M : Mem) (n c : Nat) (z o t a i : Int) : Mem := updM (updM (updM (updM (updM (updM (updM M (cX 3) c 1) (cX 5) n z) (cX 7) n o) (cX 9) n t) (cX 11) n a) (cX 13) n i) (cX 1) 6 ((n : Int) + 1)
theorem wPush_ok {M : Mem} {s : Bst} (h : PwT M s) {z o t a i : Nat} (hz : z < 16) (ho : o < 16) (A : Int) (hA : 0 < bn s → A = (a : Int)) : PwT (wPush M (bn s) (16 * z + o) z o t A i) (bPush s z o t a i) ∧ Fx (uX 1 14) M (wPush M (bn s) (16 * z + o) z o t A i) := by
  obtain ⟨h1, h2, h3, h4, h5, h6, h7⟩ := h
  refine ⟨⟨?_, fun c hc => ?_, fun j hj => ?_, fun j hj => ?_, fun j hj => ?_, fun j h0 hj => ?_, fun j hj => ?_⟩, ?_⟩
  · show _ = ((bn s + 1 : Nat) : Int)
    simp [wPush, updM]
  · show _ = if fup (bmet s) (16 * z + o) true c = true then (1 : Int) else 0
    by_cases e : c = 16 * z + o
    · rw [e, fup_s, if_pos rfl]; simp [wPush, updM]
    · rw [fup_n _ _ e, ← h2 c hc]; simp [wPush, updM, e]
  · have hj2 : j < bn s + 1 := hj
    show _ = ((fup (bz s) (bn s) z j : Nat) : Int)
    by_cases e : j = bn s
    · rw [e, fup_s]; simp [wPush, updM]
    · rw [fup_n _ _ e, ← h3 j (by omega)]; simp [wPush, updM, e]
  · have hj2 : j < bn s + 1 := hj
    show _ = ((fup (bo s) (bn s) o j : Nat) : Int)
    by_cases e : j = bn s
    · rw [e, fup_s]; simp [wPush, updM]
    · rw [fup_n _ _ e, ← h4 j (by omega)]; simp [wPush, updM, e]
  · have hj2 : j < bn s + 1 := hj
    show _ = ((fup (btk s) (bn s) t j : Nat) : Int)
    by_cases e : j = bn s
    · rw [e, fup_s]; simp [wPush, updM]
    · rw [fup_n _ _ e, ← h5 j (by omega)]; simp [wPush, updM, e]
  · have hj2 : j < bn s + 1 := hj
    show _ = ((fup (bah s) (bn s) a j : Nat) : Int)
    by_cases e : j = bn s
    · rw [e, fup_s, ← hA (by omega)]; simp [wPush, updM]
    · rw [fup_n _ _ e, ← h6 j h0 (by omega)]; simp [wPush, updM, e]
  · have hj2 : j < bn s + 1 := hj
    show _ = ((fup (bli s) (bn s) i j : Nat) : Int)
    by_cases e : j = bn s
    · rw [e, fup_s]; simp [wPush, updM]
    · rw [fup_n _ _ e, ← h7 j (by omega)]; simp [wPush, updM, e]
  · unfold wPush
    exact ((((((Fx.upd rfl).tr (Fx.upd rfl)).tr (Fx.upd rfl)).tr (Fx.upd rfl)).tr (Fx.upd rfl)).tr (Fx.upd rfl)).tr (Fx.upd rfl)
theorem sem_pmeet {M : Mem} {s : Bst} (hB : BI s) (h : PwT M s) {z o k i : Nat} (hz : z < 16) (ho : o < 16) (hk : k < bn s) : Sem ST miX4_meet [.inr (cX 1), .inl (z : Int), .inl (o : Int), .inl (k : Int), .inl (i : Int)] M (fun v N => v = none ∧ PwT N (bMeet s z o k i) ∧ Fx (uX 1 14) M N) := by
  refine Sem.of (by decide) ST_ok (Nat.le_of_ble_eq_true rfl) (ls0 := [some (.inr (cX 1)), some (.inl (z : Int)), some (.inl (o : Int)), some (.inl (k : Int)), some (.inl (i : Int)), none]) rfl ?_
  have hle := hB.le
  obtain ⟨h1, h2, h3, h4, h5, h6, h7⟩ := id h
  have hmm := h2 (16 * z + o) (by omega)
  refine ev_iload_n (np := 1) dX4_meet_0 rfl rfl ?_
  refine ev_bipush (np := 3) dX4_meet_1 (by decide) rfl ?_
  refine ev_imul (np := 4) dX4_meet_3 rfl ?_
  refine ev_iload_n (np := 5) dX4_meet_4 rfl rfl ?_
  refine ev_iadd (np := 6) dX4_meet_5 rfl ?_
  refine ev_istore (np := 8) dX4_meet_6 (by decide) rfl ?_
  refine ev_aload_n (np := 9) dX4_meet_8 rfl rfl ?_
  refine ev_getR (np := 12) sX4_meet_9 rfl rfl rfl ?_
  refine ev_iload (np := 14) dX4_meet_12 rfl rfl ?_
  refine ev_Vi1 (np := 17) moX6_get sX4_meet_14 (sem_get rw2 M (by omega)) rfl rfl (Nat.le_of_ble_eq_true rfl) rfl ?_
  rw [show ((z : Int) * 16 + (o : Int)).toNat = 16 * z + o by omega, hmm]
  refine ev_iconst (np := 18) dX4_meet_17 rfl ?_
  by_cases hm : bmet s (16 * z + o) = true
  · rw [if_pos hm]
    refine ev_icmp_eq (tgt := 31) (np := 21) dX4_meet_18 (by decide) rfl (by omega) (by omega) (fun _ => ?_) (fun h => absurd (by omega) h)
    refine ev_vret dX4_meet_31 rfl ?_
    rw [bMeet, if_pos hm]
    exact ⟨rfl, h, Fx.rf⟩
  · have hn := hB.lt hz ho hm
    have htk := (hB.2 k hk).2.2.1
    rw [if_neg hm]
    refine ev_icmp_eq (tgt := 31) (np := 21) dX4_meet_18 (by decide) rfl (by omega) (by omega) (fun h => absurd h (by omega)) (fun _ => ?_)
    refine ev_aload_n (np := 22) dX4_meet_21 rfl rfl ?_
    refine ev_getI (np := 25) sX4_meet_22 rfl rfl rfl ?_
    rw [h1]
    refine ev_sipush (np := 28) dX4_meet_25 (by decide) rfl ?_
    refine ev_icmp_lt (tgt := 32) (np := 31) dX4_meet_28 (by decide) rfl (by omega) (by omega) (fun _ => ?_) (fun h => absurd (by omega) h)
    refine ev_aload_n (np := 33) dX4_meet_32 rfl rfl ?_
    refine ev_getR (np := 36) sX4_meet_33 rfl rfl rfl ?_
    refine ev_iload (np := 38) dX4_meet_36 rfl rfl ?_
    refine ev_iconst (np := 39) dX4_meet_38 rfl ?_
    refine ev_Vv2 (np := 42) moX6_set sX4_meet_39 (sem_set rw2 M (by omega)) rfl rfl (Nat.le_of_ble_eq_true rfl) rfl ?_
    rw [show ((z : Int) * 16 + (o : Int)).toNat = 16 * z + o by omega]
    refine ev_aload_n (np := 43) dX4_meet_42 rfl rfl ?_
    refine ev_getR (np := 46) sX4_meet_43 rfl rfl rfl ?_
    refine ev_aload_n (np := 47) dX4_meet_46 rfl rfl ?_
    refine ev_getI (np := 50) sX4_meet_47 rfl rfl rfl ?_
    rw [show updM M (cX 3) (16 * z + o) 1 (cX 1) 6 = (bn s : Int) by rw [← h1]; simp [updM]]
    refine ev_iload_n (np := 51) dX4_meet_50 rfl rfl ?_
    refine ev_Vv2 (np := 54) moX6_set sX4_meet_51 (sem_set rw4 _ (by omega)) rfl rfl (Nat.le_of_ble_eq_true rfl) rfl ?_
    rw [Int.toNat_natCast]
    refine ev_aload_n (np := 55) dX4_meet_54 rfl rfl ?_
    refine ev_getR (np := 58) sX4_meet_55 rfl rfl rfl ?_
    refine ev_aload_n (np := 59) dX4_meet_58 rfl rfl ?_
    refine ev_getI (np := 62) sX4_meet_59 rfl rfl rfl ?_
    rw [show updM (updM M (cX 3) (16 * z + o) 1) (cX 5) (bn s) (z : Int) (cX 1) 6 = (bn s : Int) by rw [← h1]; simp [updM]]
    refine ev_iload_n (np := 63) dX4_meet_62 rfl rfl ?_
    refine ev_Vv2 (np := 66) moX6_set sX4_meet_63 (sem_set rw6 _ (by omega)) rfl rfl (Nat.le_of_ble_eq_true rfl) rfl ?_
    rw [Int.toNat_natCast]
    refine ev_aload_n (np := 67) dX4_meet_66 rfl rfl ?_
    refine ev_getR (np := 70) sX4_meet_67 rfl rfl rfl ?_
    refine ev_aload_n (np := 71) dX4_meet_70 rfl rfl ?_
    refine ev_getI (np := 74) sX4_meet_71 rfl rfl rfl ?_
    rw [show updM (updM (updM M (cX 3) (16 * z + o) 1) (cX 5) (bn s) (z : Int)) (cX 7) (bn s) (o : Int) (cX 1) 6 = (bn s : Int) by rw [← h1]; simp [updM]]
    refine ev_iload_n (np := 75) dX4_meet_74 rfl rfl ?_
    refine ev_if_ge (tgt := 82) (np := 78) dX4_meet_75 (by decide) rfl (by omega) (fun _ => ?_) (fun h => absurd (by omega) h)
    refine ev_aload_n (np := 83) dX4_meet_82 rfl rfl ?_
    refine ev_getR (np := 86) sX4_meet_83 rfl rfl rfl ?_
    refine ev_iload_n (np := 87) dX4_meet_86 rfl rfl ?_
    refine ev_Vi1 (np := 90) moX6_get sX4_meet_87 (sem_get rw8 _ (by omega)) rfl rfl (Nat.le_of_ble_eq_true rfl) rfl ?_
    rw [Int.toNat_natCast, show updM (updM (updM M (cX 3) (16 * z + o) 1) (cX 5) (bn s) (z : Int)) (cX 7) (bn s) (o : Int) (cX 9) k = (btk s k : Int) by rw [← h5 k hk]; simp [updM]]
    refine ev_iconst (np := 91) dX4_meet_90 rfl ?_
    refine ev_iadd (np := 92) dX4_meet_91 rfl ?_
    refine ev_Vv2 (np := 95) moX6_set sX4_meet_92 (sem_set rw8 _ (by omega)) rfl rfl (Nat.le_of_ble_eq_true rfl) rfl ?_
    rw [Int.toNat_natCast]
    refine ev_aload_n (np := 96) dX4_meet_95 rfl rfl ?_
    refine ev_getR (np := 99) sX4_meet_96 rfl rfl rfl ?_
    refine ev_aload_n (np := 100) dX4_meet_99 rfl rfl ?_
    refine ev_getI (np := 103) sX4_meet_100 rfl rfl rfl ?_
    rw [show updM (updM (updM (updM M (cX 3) (16 * z + o) 1) (cX 5) (bn s) (z : Int)) (cX 7) (bn s) (o : Int)) (cX 9) (bn s) ((btk s k : Int) + 1) (cX 1) 6 = (bn s : Int) by rw [← h1]; simp [updM]]
    refine ev_iload_n (np := 104) dX4_meet_103 rfl rfl ?_
    refine ev_Vv2 (np := 107) moX6_set sX4_meet_104 (sem_set rw10 _ (by omega)) rfl rfl (Nat.le_of_ble_eq_true rfl) rfl ?_
    rw [Int.toNat_natCast]
    refine ev_aload_n (np := 108) dX4_meet_107 rfl rfl ?_
    refine ev_getR (np := 111) sX4_meet_108 rfl rfl rfl ?_
    refine ev_aload_n (np := 112) dX4_meet_111 rfl rfl ?_
    refine ev_getI (np := 115) sX4_meet_112 rfl rfl rfl ?_
    rw [show updM (updM (updM (updM (updM M (cX 3) (16 * z + o) 1) (cX 5) (bn s) (z : Int)) (cX 7) (bn s) (o : Int)) (cX 9) (bn s) ((btk s k : Int) + 1)) (cX 11) (bn s) (k : Int) (cX 1) 6 = (bn s : Int) by rw [← h1]; simp [updM]]
    refine ev_iload (np := 117) dX4_meet_115 rfl rfl ?_
    refine ev_Vv2 (np := 120) moX6_set sX4_meet_117 (sem_set rw12 _ (by omega)) rfl rfl (Nat.le_of_ble_eq_true rfl) rfl ?_
    rw [Int.toNat_natCast]
    refine ev_aload_n (np := 121) dX4_meet_120 rfl rfl ?_
    refine ev_dup (np := 122) dX4_meet_121 rfl ?_
    refine ev_getI (np := 125) sX4_meet_122 rfl rfl rfl ?_
    rw [show updM (updM (updM (updM (updM (updM M (cX 3) (16 * z + o) 1) (cX 5) (bn s) (z : Int)) (cX 7) (bn s) (o : Int)) (cX 9) (bn s) ((btk s k : Int) + 1)) (cX 11) (bn s) (k : Int)) (cX 13) (bn s) (i : Int) (cX 1) 6 = (bn s : Int) by rw [← h1]; simp [updM]]
    refine ev_iconst (np := 126) dX4_meet_125 rfl ?_
    refine ev_iadd (np := 127) dX4_meet_126 rfl ?_
    refine ev_put (np := 130) sX4_meet_127 rfl rfl rfl ?_
    refine ev_vret dX4_meet_130 rfl ?_
    rw [bMeet, if_neg hm]
    have := wPush_ok h hz ho (t := btk s k + 1) (a := k) (i := i) (k : Int) (fun _ => rfl)
    exact ⟨rfl, this.1, this.2⟩
theorem sem_pmeet0 {M : Mem} (h : PwT M b0) {z o : Nat} (hz : z < 16) (ho : o < 16) : Sem ST miX4_meet [.inr (cX 1), .inl (z : Int), .inl (o : Int), .inl (-1), .inl 0] M (fun v N => v = none ∧ PwT N (bPush b0 z o 0 0 0) ∧ Fx (uX 1 14) M N) := by
  refine Sem.of (by decide) ST_ok (Nat.le_of_ble_eq_true rfl) (ls0 := [some (.inr (cX 1)), some (.inl (z : Int)), some (.inl (o : Int)), some (.inl (-1)), some (.inl 0), none]) rfl ?_
  obtain ⟨h1, h2, h3, h4, h5, h6, h7⟩ := id h
  have h1 : M (cX 1) 6 = 0 := h1
  have hmm : M (cX 3) (16 * z + o) = 0 := h2 (16 * z + o) (by omega)
  refine ev_iload_n (np := 1) dX4_meet_0 rfl rfl ?_
  refine ev_bipush (np := 3) dX4_meet_1 (by decide) rfl ?_
  refine ev_imul (np := 4) dX4_meet_3 rfl ?_
  refine ev_iload_n (np := 5) dX4_meet_4 rfl rfl ?_
  refine ev_iadd (np := 6) dX4_meet_5 rfl ?_
  refine ev_istore (np := 8) dX4_meet_6 (by decide) rfl ?_
  refine ev_aload_n (np := 9) dX4_meet_8 rfl rfl ?_
  refine ev_getR (np := 12) sX4_meet_9 rfl rfl rfl ?_
  refine ev_iload (np := 14) dX4_meet_12 rfl rfl ?_
  refine ev_Vi1 (np := 17) moX6_get sX4_meet_14 (sem_get rw2 M (by omega)) rfl rfl (Nat.le_of_ble_eq_true rfl) rfl ?_
  rw [show ((z : Int) * 16 + (o : Int)).toNat = 16 * z + o by omega, hmm]
  refine ev_iconst (np := 18) dX4_meet_17 rfl ?_
  refine ev_icmp_eq (tgt := 31) (np := 21) dX4_meet_18 (by decide) rfl (by omega) (by omega) (fun h => absurd h (by omega)) (fun _ => ?_)
  refine ev_aload_n (np := 22) dX4_meet_21 rfl rfl ?_
  refine ev_getI (np := 25) sX4_meet_22 rfl rfl rfl ?_
  rw [h1]
  refine ev_sipush (np := 28) dX4_meet_25 (by decide) rfl ?_
  refine ev_icmp_lt (tgt := 32) (np := 31) dX4_meet_28 (by decide) rfl (by omega) (by omega) (fun _ => ?_) (fun h => absurd (by omega) h)
  refine ev_aload_n (np := 33) dX4_meet_32 rfl rfl ?_
  refine ev_getR (np := 36) sX4_meet_33 rfl rfl rfl ?_
  refine ev_iload (np := 38) dX4_meet_36 rfl rfl ?_
  refine ev_iconst (np := 39) dX4_meet_38 rfl ?_
  refine ev_Vv2 (np := 42) moX6_set sX4_meet_39 (sem_set rw2 M (by omega)) rfl rfl (Nat.le_of_ble_eq_true rfl) rfl ?_
  rw [show ((z : Int) * 16 + (o : Int)).toNat = 16 * z + o by omega]
  refine ev_aload_n (np := 43) dX4_meet_42 rfl rfl ?_
  refine ev_getR (np := 46) sX4_meet_43 rfl rfl rfl ?_
  refine ev_aload_n (np := 47) dX4_meet_46 rfl rfl ?_
  refine ev_getI (np := 50) sX4_meet_47 rfl rfl rfl ?_
  rw [show updM M (cX 3) (16 * z + o) 1 (cX 1) 6 = 0 by rw [← h1]; simp [updM]]
  refine ev_iload_n (np := 51) dX4_meet_50 rfl rfl ?_
  refine ev_Vv2 (np := 54) moX6_set sX4_meet_51 (sem_set rw4 _ (by omega)) rfl rfl (Nat.le_of_ble_eq_true rfl) rfl ?_
  refine ev_aload_n (np := 55) dX4_meet_54 rfl rfl ?_
  refine ev_getR (np := 58) sX4_meet_55 rfl rfl rfl ?_
  refine ev_aload_n (np := 59) dX4_meet_58 rfl rfl ?_
  refine ev_getI (np := 62) sX4_meet_59 rfl rfl rfl ?_
  rw [show updM (updM M (cX 3) (16 * z + o) 1) (cX 5) (0 : Int).toNat (z : Int) (cX 1) 6 = 0 by rw [← h1]; simp [updM]]
  refine ev_iload_n (np := 63) dX4_meet_62 rfl rfl ?_
  refine ev_Vv2 (np := 66) moX6_set sX4_meet_63 (sem_set rw6 _ (by omega)) rfl rfl (Nat.le_of_ble_eq_true rfl) rfl ?_
  refine ev_aload_n (np := 67) dX4_meet_66 rfl rfl ?_
  refine ev_getR (np := 70) sX4_meet_67 rfl rfl rfl ?_
  refine ev_aload_n (np := 71) dX4_meet_70 rfl rfl ?_
  refine ev_getI (np := 74) sX4_meet_71 rfl rfl rfl ?_
  rw [show updM (updM (updM M (cX 3) (16 * z + o) 1) (cX 5) (0 : Int).toNat (z : Int)) (cX 7) (0 : Int).toNat (o : Int) (cX 1) 6 = 0 by rw [← h1]; simp [updM]]
  refine ev_iload_n (np := 75) dX4_meet_74 rfl rfl ?_
  refine ev_if_ge (tgt := 82) (np := 78) dX4_meet_75 (by decide) rfl (by omega) (fun h => absurd h (by omega)) (fun _ => ?_)
  refine ev_iconst (np := 79) dX4_meet_78 rfl ?_
  refine ev_goto (np := 92) dX4_meet_79 (by decide) ?_
  refine ev_Vv2 (np := 95) moX6_set sX4_meet_92 (sem_set rw8 _ (by omega)) rfl rfl (Nat.le_of_ble_eq_true rfl) rfl ?_
  refine ev_aload_n (np := 96) dX4_meet_95 rfl rfl ?_
  refine ev_getR (np := 99) sX4_meet_96 rfl rfl rfl ?_
  refine ev_aload_n (np := 100) dX4_meet_99 rfl rfl ?_
  refine ev_getI (np := 103) sX4_meet_100 rfl rfl rfl ?_
  rw [show updM (updM (updM (updM M (cX 3) (16 * z + o) 1) (cX 5) (0 : Int).toNat (z : Int)) (cX 7) (0 : Int).toNat (o : Int)) (cX 9) (0 : Int).toNat 0 (cX 1) 6 = 0 by rw [← h1]; simp [updM]]
  refine ev_iload_n (np := 104) dX4_meet_103 rfl rfl ?_
  refine ev_Vv2 (np := 107) moX6_set sX4_meet_104 (sem_set rw10 _ (by omega)) rfl rfl (Nat.le_of_ble_eq_true rfl) rfl ?_
  refine ev_aload_n (np := 108) dX4_meet_107 rfl rfl ?_
  refine ev_getR (np := 111) sX4_meet_108 rfl rfl rfl ?_
  refine ev_aload_n (np := 112) dX4_meet_111 rfl rfl ?_
  refine ev_getI (np := 115) sX4_meet_112 rfl rfl rfl ?_
  rw [show updM (updM (updM (updM (updM M (cX 3) (16 * z + o) 1) (cX 5) (0 : Int).toNat (z : Int)) (cX 7) (0 : Int).toNat (o : Int)) (cX 9) (0 : Int).toNat 0) (cX 11) (0 : Int).toNat (-1) (cX 1) 6 = 0 by rw [← h1]; simp [updM]]
  refine ev_iload (np := 117) dX4_meet_115 rfl rfl ?_
  refine ev_Vv2 (np := 120) moX6_set sX4_meet_117 (sem_set rw12 _ (by omega)) rfl rfl (Nat.le_of_ble_eq_true rfl) rfl ?_
  refine ev_aload_n (np := 121) dX4_meet_120 rfl rfl ?_
  refine ev_dup (np := 122) dX4_meet_121 rfl ?_
  refine ev_getI (np := 125) sX4_meet_122 rfl rfl rfl ?_
  rw [show updM (updM (updM (updM (updM (updM M (cX 3) (16 * z + o) 1) (cX 5) (0 : Int).toNat (z : Int)) (cX 7) (0 : Int).toNat (o : Int)) (cX 9) (0 : Int).toNat 0) (cX 11) (0 : Int).toNat (-1)) (cX 13) (0 : Int).toNat 0 (cX 1) 6 = 0 by rw [← h1]; simp [updM]]
  refine ev_iconst (np := 126) dX4_meet_125 rfl ?_
  refine ev_iadd (np := 127) dX4_meet_126 rfl ?_
  refine ev_put (np := 130) sX4_meet_127 rfl rfl rfl ?_
  refine ev_vret dX4_meet_130 rfl ?_
  have := wPush_ok h hz ho (t := 0) (a := 0) (i := 0) (-1) (fun h => absurd h (by decide))
  exact ⟨rfl, this.1, this.2⟩
theorem sem_psize {M : Mem} {s : Bst} (h : PwT M s) : Sem ST miX4_size [.inr (cX 1)] M (Ri (bn s : Nat) M) := by
  refine Sem.of (by decide) ST_ok (Nat.le_of_ble_eq_true rfl) (ls0 := [some (.inr (cX 1))]) rfl ?_
  refine ev_aload_n (np := 1) dX4_size_0 rfl rfl ?_
  refine ev_getI (np := 4) sX4_size_1 rfl rfl rfl ?_
  rw [h.1]
  refine ev_iret dX4_size_4 rfl ?_
  exact ⟨rfl, rfl⟩
theorem sem_pzero {M : Mem} {s : Bst} (hB : BI s) (h : PwT M s) {p : Nat} (hp : p < bn s) : Sem ST miX4_zeroState [.inr (cX 1), .inl (p : Int)] M (Ri (bz s p : Nat) M) := by
  refine Sem.of (by decide) ST_ok (Nat.le_of_ble_eq_true rfl) (ls0 := [some (.inr (cX 1)), some (.inl (p : Int))]) rfl ?_
  have := hB.le
  refine ev_aload_n (np := 1) dX4_zeroState_0 rfl rfl ?_
  refine ev_getR (np := 4) sX4_zeroState_1 rfl rfl rfl ?_
  refine ev_iload_n (np := 5) dX4_zeroState_4 rfl rfl ?_
  refine ev_Vi1 (np := 8) moX6_get sX4_zeroState_5 (sem_get rw4 M (by omega)) rfl rfl (Nat.le_of_ble_eq_true rfl) rfl ?_
  rw [Int.toNat_natCast, h.2.2.1 p hp]
  refine ev_iret dX4_zeroState_8 rfl ?_
  exact ⟨rfl, rfl⟩
theorem sem_pone {M : Mem} {s : Bst} (hB : BI s) (h : PwT M s) {p : Nat} (hp : p < bn s) : Sem ST miX4_oneState [.inr (cX 1), .inl (p : Int)] M (Ri (bo s p : Nat) M) := by
  refine Sem.of (by decide) ST_ok (Nat.le_of_ble_eq_true rfl) (ls0 := [some (.inr (cX 1)), some (.inl (p : Int))]) rfl ?_
  have := hB.le
  refine ev_aload_n (np := 1) dX4_oneState_0 rfl rfl ?_
  refine ev_getR (np := 4) sX4_oneState_1 rfl rfl rfl ?_
  refine ev_iload_n (np := 5) dX4_oneState_4 rfl rfl ?_
  refine ev_Vi1 (np := 8) moX6_get sX4_oneState_5 (sem_get rw6 M (by omega)) rfl rfl (Nat.le_of_ble_eq_true rfl) rfl ?_
  rw [Int.toNat_natCast, h.2.2.2.1 p hp]
  refine ev_iret dX4_oneState_8 rfl ?_
  exact ⟨rfl, rfl⟩
theorem sem_pticks {M : Mem} {s : Bst} (hB : BI s) (h : PwT M s) {p : Nat} (hp : p < bn s) : Sem ST miX4_ticksTo [.inr (cX 1), .inl (p : Int)] M (Ri (btk s p : Nat) M) := by
  refine Sem.of (by decide) ST_ok (Nat.le_of_ble_eq_true rfl) (ls0 := [some (.inr (cX 1)), some (.inl (p : Int))]) rfl ?_
  have := hB.le
  refine ev_aload_n (np := 1) dX4_ticksTo_0 rfl rfl ?_
  refine ev_getR (np := 4) sX4_ticksTo_1 rfl rfl rfl ?_
  refine ev_iload_n (np := 5) dX4_ticksTo_4 rfl rfl ?_
  refine ev_Vi1 (np := 8) moX6_get sX4_ticksTo_5 (sem_get rw8 M (by omega)) rfl rfl (Nat.le_of_ble_eq_true rfl) rfl ?_
  rw [Int.toNat_natCast, h.2.2.2.2.1 p hp]
  refine ev_iret dX4_ticksTo_8 rfl ?_
  exact ⟨rfl, rfl⟩
theorem way_loop {M : Mem} {s : Bst} (hB : BI s) (h : PwT M s) {a b : Option Val} : ∀ (f p : Nat), p < bn s → f < btk s p → Ev ST miX4_inputsOnWay 13 [some (.inr (cX 1)), a, b, some (.inl (p : Int)), some (.inl (f : Int))] [] M (Ri (bli s (bback s f p) : Nat) M) := by
  have hle := hB.le
  intro f
  induction f with
  | zero =>
    intro p hp hf
    refine ev_iload (np := 15) dX4_inputsOnWay_13 rfl rfl ?_
    refine ev_if_le (tgt := 33) (np := 18) dX4_inputsOnWay_15 (by decide) rfl (by omega) (fun _ => ?_) (fun h => absurd (by omega) h)
    refine ev_aload_n (np := 34) dX4_inputsOnWay_33 rfl rfl ?_
    refine ev_getR (np := 37) sX4_inputsOnWay_34 rfl rfl rfl ?_
    refine ev_iload_n (np := 38) dX4_inputsOnWay_37 rfl rfl ?_
    refine ev_Vi1 (np := 41) moX6_get sX4_inputsOnWay_38 (sem_get rw12 M (by omega)) rfl rfl (Nat.le_of_ble_eq_true rfl) rfl ?_
    rw [Int.toNat_natCast, h.2.2.2.2.2.2 p hp]
    refine ev_iret dX4_inputsOnWay_41 rfl ?_
    exact ⟨rfl, rfl⟩
  | succ f ih =>
    intro p hp hf
    have h1 := (hB.2 p hp).2.2.1
    have h2 := (hB.2 p hp).2.2.2.2 (by omega)
    refine ev_iload (np := 15) dX4_inputsOnWay_13 rfl rfl ?_
    refine ev_if_le (tgt := 33) (np := 18) dX4_inputsOnWay_15 (by decide) rfl (by omega) (fun h => absurd h (by omega)) (fun _ => ?_)
    refine ev_aload_n (np := 19) dX4_inputsOnWay_18 rfl rfl ?_
    refine ev_getR (np := 22) sX4_inputsOnWay_19 rfl rfl rfl ?_
    refine ev_iload_n (np := 23) dX4_inputsOnWay_22 rfl rfl ?_
    refine ev_Vi1 (np := 26) moX6_get sX4_inputsOnWay_23 (sem_get rw10 M (by omega)) rfl rfl (Nat.le_of_ble_eq_true rfl) rfl ?_
    rw [Int.toNat_natCast, h.2.2.2.2.2.1 p (by omega) hp]
    refine ev_istore_n (np := 27) dX4_inputsOnWay_26 (by decide) rfl ?_
    refine ev_iinc (np := 30) dX4_inputsOnWay_27 rfl (by decide) rfl ?_
    refine ev_goto (np := 13) dX4_inputsOnWay_30 (by decide) ?_
    rw [show ((f + 1 : Nat) : Int) + (-1) = (f : Int) by omega]
    exact ih (bah s p) (by omega) (by omega)
theorem sem_pway {M : Mem} {s : Bst} (hB : BI s) (h : PwT M s) {p t : Nat} (hp : p < bn s) (ht : t < btk s p) : Sem ST miX4_inputsOnWay [.inr (cX 1), .inl (p : Int), .inl (t : Int)] M (Ri (bway s p t : Nat) M) := by
  refine Sem.of (by decide) ST_ok (Nat.le_of_ble_eq_true rfl) (ls0 := [some (.inr (cX 1)), some (.inl (p : Int)), some (.inl (t : Int)), none, none]) rfl ?_
  refine ev_iload_n (np := 1) dX4_inputsOnWay_0 rfl rfl ?_
  refine ev_istore_n (np := 2) dX4_inputsOnWay_1 (by decide) rfl ?_
  refine ev_aload_n (np := 3) dX4_inputsOnWay_2 rfl rfl ?_
  refine ev_iload_n (np := 4) dX4_inputsOnWay_3 rfl rfl ?_
  refine ev_Vi1 (np := 7) moX4_ticksTo sX4_inputsOnWay_4 (sem_pticks hB h hp) rfl rfl (Nat.le_of_ble_eq_true rfl) rfl ?_
  refine ev_iconst (np := 8) dX4_inputsOnWay_7 rfl ?_
  refine ev_isub (np := 9) dX4_inputsOnWay_8 rfl ?_
  refine ev_iload_n (np := 10) dX4_inputsOnWay_9 rfl rfl ?_
  refine ev_isub (np := 11) dX4_inputsOnWay_10 rfl ?_
  refine ev_istore (np := 13) dX4_inputsOnWay_11 (by decide) rfl ?_
  rw [show (btk s p : Int) - 1 - (t : Int) = ((btk s p - 1 - t : Nat) : Int) by omega]
  exact way_loop hB h (btk s p - 1 - t) p hp (by omega)
theorem walk_in {M : Mem} {t0 t1 : Fin 3} {T0 T1 : Tab} (h0 : TWF T0) (h1 : TWF T1) (g0 : TabT M t0 T0) (g1 : TabT M t1 T1) {s : Bst} (hB : BI s) {k : Nat} (hk : k < bn s) {Q : Option Val → Mem → Prop}
    (K : ∀ (N : Mem) (u : Option Val), PwT N (bIn T0 T1 k 4 s) → Fx (uX 1 14) M N → Ev ST miX4_walkFromFirst 87 [some (.inr (cX 1)), some (.inr (cT t0 0)), some (.inr (cT t1 0)), some (.inl (k : Int)), u] [] N Q) :
    ∀ (m i : Nat) (N : Mem), i + m = 4 → PwT N (bIn T0 T1 k i s) → Fx (uX 1 14) M N → Ev ST miX4_walkFromFirst 46 [some (.inr (cX 1)), some (.inr (cT t0 0)), some (.inr (cT t1 0)), some (.inl (k : Int)), some (.inl (i : Int))] [] N Q := by
  intro m
  induction m with
  | zero =>
    intro i N hi hp hf
    refine ev_iload (np := 48) dX4_walkFromFirst_46 rfl rfl ?_
    refine ev_iconst (np := 49) dX4_walkFromFirst_48 rfl ?_
    refine ev_icmp_ge (tgt := 87) (np := 52) dX4_walkFromFirst_49 (by decide) rfl (by omega) (by omega) (fun _ => ?_) (fun h => absurd (by omega) h)
    rw [show i = 4 by omega] at *
    exact K N _ hp hf
  | succ m ih =>
    intro i N hi hp hf
    obtain ⟨b1, b2⟩ := BI.inn h0 h1 hB hk i (by omega)
    have hk2 : k < bn (bIn T0 T1 k i s) := by omega
    obtain ⟨c1, c2, -⟩ := b1.2 k hk2
    refine ev_iload (np := 48) dX4_walkFromFirst_46 rfl rfl ?_
    refine ev_iconst (np := 49) dX4_walkFromFirst_48 rfl ?_
    refine ev_icmp_ge (tgt := 87) (np := 52) dX4_walkFromFirst_49 (by decide) rfl (by omega) (by omega) (fun h => absurd h (by omega)) (fun _ => ?_)
    refine ev_aload_n (np := 53) dX4_walkFromFirst_52 rfl rfl ?_
    refine ev_aload_n (np := 54) dX4_walkFromFirst_53 rfl rfl ?_
    refine ev_aload_n (np := 55) dX4_walkFromFirst_54 rfl rfl ?_
    refine ev_iload_n (np := 56) dX4_walkFromFirst_55 rfl rfl ?_
    refine ev_Vi1 (np := 59) moX4_zeroState sX4_walkFromFirst_56 (sem_pzero b1 hp hk2) rfl rfl (Nat.le_of_ble_eq_true rfl) rfl ?_
    refine ev_iload (np := 61) dX4_walkFromFirst_59 rfl rfl ?_
    refine ev_Vi2 (np := 64) moX7_stateBehind sX4_walkFromFirst_61 (sem_tBehind (hf.tab (fun o => rfl) g0) c1 (i := i) (by omega)) rfl rfl (Nat.le_of_ble_eq_true rfl) rfl ?_
    refine ev_aload_n (np := 65) dX4_walkFromFirst_64 rfl rfl ?_
    refine ev_aload_n (np := 66) dX4_walkFromFirst_65 rfl rfl ?_
    refine ev_iload_n (np := 67) dX4_walkFromFirst_66 rfl rfl ?_
    refine ev_Vi1 (np := 70) moX4_oneState sX4_walkFromFirst_67 (sem_pone b1 hp hk2) rfl rfl (Nat.le_of_ble_eq_true rfl) rfl ?_
    refine ev_iload (np := 72) dX4_walkFromFirst_70 rfl rfl ?_
    refine ev_Vi2 (np := 75) moX7_stateBehind sX4_walkFromFirst_72 (sem_tBehind (hf.tab (fun o => rfl) g1) c2 (i := i) (by omega)) rfl rfl (Nat.le_of_ble_eq_true rfl) rfl ?_
    refine ev_iload_n (np := 76) dX4_walkFromFirst_75 rfl rfl ?_
    refine ev_iload (np := 78) dX4_walkFromFirst_76 rfl rfl ?_
    refine ev_V4 (np := 81) moX4_meet sX4_walkFromFirst_78 (sem_pmeet b1 hp (h0.1 _ _) (h1.1 _ _) hk2 (i := i) ) rfl rfl (Nat.le_of_ble_eq_true rfl) rfl (fun v N2 hq => ?_)
    obtain ⟨rfl, q1, q2⟩ := hq
    refine ev_iinc (np := 84) dX4_walkFromFirst_81 rfl (by decide) rfl ?_
    refine ev_goto (np := 46) dX4_walkFromFirst_84 (by decide) ?_
    exact ih (i + 1) N2 (by omega) q1 (hf.tr q2)
theorem walk_out {M : Mem} {t0 t1 : Fin 3} {T0 T1 : Tab} (h0 : TWF T0) (h1 : TWF T1) (g0 : TabT M t0 T0) (g1 : TabT M t1 T1) : ∀ (f k : Nat) (s : Bst) (N : Mem) (u : Option Val), BI s → k + f = 257 → PwT N s → Fx (uX 1 14) M N → Ev ST miX4_walkFromFirst 28 [some (.inr (cX 1)), some (.inr (cT t0 0)), some (.inr (cT t1 0)), some (.inl (k : Int)), u] [] N (fun v N => v = none ∧ PwT N (bOut T0 T1 f k s) ∧ Fx (uX 1 14) M N) := by
  intro f
  induction f with
  | zero =>
    intro k s N u hB hk hp hf
    have hle := hB.le
    refine ev_iload_n (np := 29) dX4_walkFromFirst_28 rfl rfl ?_
    refine ev_aload_n (np := 30) dX4_walkFromFirst_29 rfl rfl ?_
    refine ev_getI (np := 33) sX4_walkFromFirst_30 rfl rfl rfl ?_
    rw [hp.1]
    refine ev_icmp_ge (tgt := 93) (np := 36) dX4_walkFromFirst_33 (by decide) rfl (by omega) (by omega) (fun _ => ?_) (fun h => absurd (by omega) h)
    refine ev_vret dX4_walkFromFirst_93 rfl ?_
    exact ⟨rfl, hp, hf⟩
  | succ f ih =>
    intro k s N u hB hk hp hf
    have hle := hB.le
    refine ev_iload_n (np := 29) dX4_walkFromFirst_28 rfl rfl ?_
    refine ev_aload_n (np := 30) dX4_walkFromFirst_29 rfl rfl ?_
    refine ev_getI (np := 33) sX4_walkFromFirst_30 rfl rfl rfl ?_
    rw [hp.1]
    unfold bOut
    by_cases hkn : k < bn s
    · refine ev_icmp_ge (tgt := 93) (np := 36) dX4_walkFromFirst_33 (by decide) rfl (by omega) (by omega) (fun h => absurd h (by omega)) (fun _ => ?_)
      refine ev_iload_n (np := 37) dX4_walkFromFirst_36 rfl rfl ?_
      refine ev_sipush (np := 40) dX4_walkFromFirst_37 (by decide) rfl ?_
      refine ev_icmp_ge (tgt := 93) (np := 43) dX4_walkFromFirst_40 (by decide) rfl (by omega) (by omega) (fun h => absurd h (by omega)) (fun _ => ?_)
      refine ev_iconst (np := 44) dX4_walkFromFirst_43 rfl ?_
      refine ev_istore (np := 46) dX4_walkFromFirst_44 (by decide) rfl ?_
      rw [if_pos hkn]
      refine walk_in h0 h1 g0 g1 hB hkn ?_ 4 0 N rfl hp hf
      intro N2 u2 hp2 hf2
      refine ev_iinc (np := 90) dX4_walkFromFirst_87 rfl (by decide) rfl ?_
      refine ev_goto (np := 28) dX4_walkFromFirst_90 (by decide) ?_
      exact ih (k + 1) _ N2 _ (BI.inn h0 h1 hB hkn 4 (by decide)).1 (by omega) hp2 hf2
    · refine ev_icmp_ge (tgt := 93) (np := 36) dX4_walkFromFirst_33 (by decide) rfl (by omega) (by omega) (fun _ => ?_) (fun h => absurd (by omega) h)
      refine ev_vret dX4_walkFromFirst_93 rfl ?_
      rw [if_neg hkn]
      exact ⟨rfl, hp, hf⟩
theorem sem_walk {M : Mem} {t0 t1 : Fin 3} {T0 T1 : Tab} (h0 : TWF T0) (h1 : TWF T1) (g0 : TabT M t0 T0) (g1 : TabT M t1 T1) : Sem ST miX4_walkFromFirst [.inr (cX 1), .inr (cT t0 0), .inr (cT t1 0)] M (fun v N => v = none ∧ PwT N (bfs T0 T1) ∧ Fx (uX 1 14) M N) := by
  refine Sem.of (by decide) ST_ok (Nat.le_of_ble_eq_true rfl) (ls0 := [some (.inr (cX 1)), some (.inr (cT t0 0)), some (.inr (cT t1 0)), none, none]) rfl ?_
  refine ev_aload_n (np := 1) dX4_walkFromFirst_0 rfl rfl ?_
  refine ev_getR (np := 4) sX4_walkFromFirst_1 rfl rfl rfl ?_
  refine ev_Vv0 (np := 7) moX6_clear sX4_walkFromFirst_4 (sem_clear rw2 M) rfl rfl (Nat.le_of_ble_eq_true rfl) rfl ?_
  refine ev_aload_n (np := 8) dX4_walkFromFirst_7 rfl rfl ?_
  refine ev_iconst (np := 9) dX4_walkFromFirst_8 rfl ?_
  refine ev_put (np := 12) sX4_walkFromFirst_9 rfl rfl rfl ?_
  refine ev_aload_n (np := 13) dX4_walkFromFirst_12 rfl rfl ?_
  refine ev_aload_n (np := 14) dX4_walkFromFirst_13 rfl rfl ?_
  generalize hN : updM (fillM M (cX 3) 0 ((256 : Nat) : Int) 0) (cX 1) 6 0 = N
  have f1 : Fx (uX 1 14) M N := by
    intro c hc
    funext j
    rw [← hN]
    unfold updM fillM
    rw [if_neg (by rintro ⟨e, -⟩; rw [e] at hc; simp [uX] at hc), if_neg (by rintro ⟨e, -⟩; rw [e] at hc; simp [uX] at hc)]
  have p0 : PwT N b0 := by
    refine ⟨?_, fun c hc => ?_, fun j hj => absurd hj (Nat.not_lt_zero j), fun j hj => absurd hj (Nat.not_lt_zero j), fun j hj => absurd hj (Nat.not_lt_zero j), fun j _ hj => absurd hj (Nat.not_lt_zero j), fun j hj => absurd hj (Nat.not_lt_zero j)⟩
    · rw [← hN, updM_same]; rfl
    · rw [← hN]
      have : updM (fillM M (cX 3) 0 ((256 : Nat) : Int) 0) (cX 1) 6 0 (cX 3) c = fillM M (cX 3) 0 ((256 : Nat) : Int) 0 (cX 3) c := by simp [updM]
      rw [this]
      unfold fillM
      rw [if_pos ⟨rfl, by omega, by omega⟩]
      rfl
  refine ev_Vi0 (np := 17) moX7_firstState sX4_walkFromFirst_14 (sem_tFirst (f1.tab (fun o => rfl) g0)) rfl rfl (Nat.le_of_ble_eq_true rfl) rfl ?_
  refine ev_aload_n (np := 18) dX4_walkFromFirst_17 rfl rfl ?_
  refine ev_Vi0 (np := 21) moX7_firstState sX4_walkFromFirst_18 (sem_tFirst (f1.tab (fun o => rfl) g1)) rfl rfl (Nat.le_of_ble_eq_true rfl) rfl ?_
  refine ev_iconst (np := 22) dX4_walkFromFirst_21 rfl ?_
  refine ev_iconst (np := 23) dX4_walkFromFirst_22 rfl ?_
  refine ev_V4 (np := 26) moX4_meet sX4_walkFromFirst_23 (sem_pmeet0 p0 h0.2.2 h1.2.2 ) rfl rfl (Nat.le_of_ble_eq_true rfl) rfl (fun v N2 hq => ?_)
  obtain ⟨rfl, q1, q2⟩ := hq
  refine ev_iconst (np := 27) dX4_walkFromFirst_26 rfl ?_
  refine ev_istore_n (np := 28) dX4_walkFromFirst_27 (by decide) rfl ?_
  exact walk_out h0 h1 g0 g1 257 0 _ N2 none (BI.init h0 h1) rfl q1 (f1.tr q2)
