theorem sem_savedCell (M : Mem) (k : Fin 4) {i : Nat} (hi : i < 14) : Sem ST miX1_savedCell [.inr (cC k 0), .inl (i : Int)] M (Ri (scell M k i) M) := by
  refine Sem.of (by decide) ST_ok (Nat.le_of_ble_eq_true rfl) (ls0 := [some (.inr (cC k 0)), some (.inl (i : Int))]) rfl ?_
  unfold scell
  refine ev_iload_n (np := 1) dX1_savedCell_0 rfl rfl ?_
  refine ev_if_ne (tgt := 9) (np := 4) dX1_savedCell_1 (by decide) rfl (by omega) (fun h0 => ?_) (fun h0 => ?_)
  · rw [if_neg (by omega)]
    refine ev_iload_n (np := 10) dX1_savedCell_9 rfl rfl ?_
    refine ev_iconst (np := 11) dX1_savedCell_10 rfl ?_
    refine ev_icmp_ne (tgt := 19) (np := 14) dX1_savedCell_11 (by decide) rfl (by omega) (by omega) (fun h1 => ?_) (fun h1 => ?_)
    · rw [if_neg (by omega)]
      refine ev_iload_n (np := 20) dX1_savedCell_19 rfl rfl ?_
      refine ev_bipush (np := 22) dX1_savedCell_20 (by decide) rfl ?_
      refine ev_icmp_ge (tgt := 38) (np := 25) dX1_savedCell_22 (by decide) rfl (by omega) (by omega) (fun h6 => ?_) (fun h6 => ?_)
      · rw [if_neg (by omega)]
        refine ev_aload_n (np := 39) dX1_savedCell_38 rfl rfl ?_
        refine ev_getR (np := 42) sX1_savedCell_39 rfl rfl rfl ?_
        refine ev_iload_n (np := 43) dX1_savedCell_42 rfl rfl ?_
        refine ev_iconst (np := 44) dX1_savedCell_43 rfl ?_
        refine ev_isub (np := 45) dX1_savedCell_44 rfl ?_
        refine ev_iconst (np := 46) dX1_savedCell_45 rfl ?_
        refine ev_isub (np := 47) dX1_savedCell_46 rfl ?_
        refine ev_Vi1 (np := 50) moX6_get sX1_savedCell_47 (sem_get (rowG k) M (by omega)) rfl rfl (Nat.le_of_ble_eq_true rfl) rfl ?_
        rw [show ((i : Int) - 2 - 4).toNat = i - 6 by omega]
        refine ev_iret dX1_savedCell_50 rfl ?_
        exact ⟨rfl, rfl⟩
      · rw [if_pos (by omega)]
        refine ev_aload_n (np := 26) dX1_savedCell_25 rfl rfl ?_
        refine ev_getR (np := 29) sX1_savedCell_26 rfl rfl rfl ?_
        refine ev_iload_n (np := 30) dX1_savedCell_29 rfl rfl ?_
        refine ev_iconst (np := 31) dX1_savedCell_30 rfl ?_
        refine ev_isub (np := 32) dX1_savedCell_31 rfl ?_
        refine ev_Vi1 (np := 35) moX6_get sX1_savedCell_32 (sem_get (rowR k) M (by omega)) rfl rfl (Nat.le_of_ble_eq_true rfl) rfl ?_
        rw [show ((i : Int) - 2).toNat = i - 2 by omega]
        refine ev_goto (np := 50) dX1_savedCell_35 (by decide) ?_
        refine ev_iret dX1_savedCell_50 rfl ?_
        exact ⟨rfl, rfl⟩
    · rw [if_pos (by omega)]
      refine ev_aload_n (np := 15) dX1_savedCell_14 rfl rfl ?_
      refine ev_getI (np := 18) sX1_savedCell_15 rfl rfl rfl ?_
      refine ev_iret dX1_savedCell_18 rfl ?_
      exact ⟨rfl, rfl⟩
  · rw [if_pos (by omega)]
    refine ev_aload_n (np := 5) dX1_savedCell_4 rfl rfl ?_
    refine ev_getI (np := 8) sX1_savedCell_5 rfl rfl rfl ?_
    refine ev_iret dX1_savedCell_8 rfl ?_
    exact ⟨rfl, rfl⟩
theorem sem_setSavedCell (M : Mem) (k : Fin 4) {i : Nat} (hi : i < 14) (v : Int) : Sem ST miX1_setSavedCell [.inr (cC k 0), .inl (i : Int), .inl v] M (Rv (setS M k i v)) := by
  refine Sem.of (by decide) ST_ok (Nat.le_of_ble_eq_true rfl) (ls0 := [some (.inr (cC k 0)), some (.inl (i : Int)), some (.inl v)]) rfl ?_
  unfold setS
  refine ev_iload_n (np := 1) dX1_setSavedCell_0 rfl rfl ?_
  refine ev_if_ne (tgt := 12) (np := 4) dX1_setSavedCell_1 (by decide) rfl (by omega) (fun h0 => ?_) (fun h0 => ?_)
  · rw [if_neg (by omega)]
    refine ev_iload_n (np := 13) dX1_setSavedCell_12 rfl rfl ?_
    refine ev_iconst (np := 14) dX1_setSavedCell_13 rfl ?_
    refine ev_icmp_ne (tgt := 25) (np := 17) dX1_setSavedCell_14 (by decide) rfl (by omega) (by omega) (fun h1 => ?_) (fun h1 => ?_)
    · rw [if_neg (by omega)]
      refine ev_iload_n (np := 26) dX1_setSavedCell_25 rfl rfl ?_
      refine ev_bipush (np := 28) dX1_setSavedCell_26 (by decide) rfl ?_
      refine ev_icmp_ge (tgt := 45) (np := 31) dX1_setSavedCell_28 (by decide) rfl (by omega) (by omega) (fun h6 => ?_) (fun h6 => ?_)
      · rw [if_neg (by omega)]
        refine ev_aload_n (np := 46) dX1_setSavedCell_45 rfl rfl ?_
        refine ev_getR (np := 49) sX1_setSavedCell_46 rfl rfl rfl ?_
        refine ev_iload_n (np := 50) dX1_setSavedCell_49 rfl rfl ?_
        refine ev_iconst (np := 51) dX1_setSavedCell_50 rfl ?_
        refine ev_isub (np := 52) dX1_setSavedCell_51 rfl ?_
        refine ev_iconst (np := 53) dX1_setSavedCell_52 rfl ?_
        refine ev_isub (np := 54) dX1_setSavedCell_53 rfl ?_
        refine ev_iload_n (np := 55) dX1_setSavedCell_54 rfl rfl ?_
        refine ev_Vv2 (np := 58) moX6_set sX1_setSavedCell_55 (sem_set (rowG k) M (by omega)) rfl rfl (Nat.le_of_ble_eq_true rfl) rfl ?_
        rw [show ((i : Int) - 2 - 4).toNat = i - 6 by omega]
        refine ev_vret dX1_setSavedCell_58 rfl ?_
        exact ⟨rfl, rfl⟩
      · rw [if_pos (by omega)]
        refine ev_aload_n (np := 32) dX1_setSavedCell_31 rfl rfl ?_
        refine ev_getR (np := 35) sX1_setSavedCell_32 rfl rfl rfl ?_
        refine ev_iload_n (np := 36) dX1_setSavedCell_35 rfl rfl ?_
        refine ev_iconst (np := 37) dX1_setSavedCell_36 rfl ?_
        refine ev_isub (np := 38) dX1_setSavedCell_37 rfl ?_
        refine ev_iload_n (np := 39) dX1_setSavedCell_38 rfl rfl ?_
        refine ev_Vv2 (np := 42) moX6_set sX1_setSavedCell_39 (sem_set (rowR k) M (by omega)) rfl rfl (Nat.le_of_ble_eq_true rfl) rfl ?_
        rw [show ((i : Int) - 2).toNat = i - 2 by omega]
        refine ev_goto (np := 58) dX1_setSavedCell_42 (by decide) ?_
        refine ev_vret dX1_setSavedCell_58 rfl ?_
        exact ⟨rfl, rfl⟩
    · rw [if_pos (by omega)]
      refine ev_aload_n (np := 18) dX1_setSavedCell_17 rfl rfl ?_
      refine ev_iload_n (np := 19) dX1_setSavedCell_18 rfl rfl ?_
      refine ev_put (np := 22) sX1_setSavedCell_19 rfl rfl rfl ?_
      refine ev_goto (np := 58) dX1_setSavedCell_22 (by decide) ?_
      refine ev_vret dX1_setSavedCell_58 rfl ?_
      exact ⟨rfl, rfl⟩
  · rw [if_pos (by omega)]
    refine ev_aload_n (np := 5) dX1_setSavedCell_4 rfl rfl ?_
    refine ev_iload_n (np := 6) dX1_setSavedCell_5 rfl rfl ?_
    refine ev_put (np := 9) sX1_setSavedCell_6 rfl rfl rfl ?_
    refine ev_goto (np := 58) dX1_setSavedCell_9 (by decide) ?_
    refine ev_vret dX1_setSavedCell_58 rfl ?_
    exact ⟨rfl, rfl⟩
/-- a circuit's cells copied -/
def Tk (k k' : Fin 4) (M N : Mem) : Prop := (∀ i, i < 14 → scell N k i = scell M k' i) ∧ Fr k M N
theorem Tk.circ {k k' : Fin 4} {M N : Mem} {C : Circ} (hC : WF C) (h : Tk k k' M N) (h2 : CircT M k' C) : CircT N k C := CircS.of hC h2 h.1
theorem take_loop {k k' : Fin 4} (hk : k' ≠ k) (M : Mem) : ∀ (m i : Nat) (N : Mem), i + m = 14 → (∀ j, j < i → scell N k j = scell M k' j) → Fr k M N → Ev ST miX1_takeFrom 2 [some (.inr (cC k 0)), some (.inr (cC k' 0)), some (.inl (i : Int))] [] N (fun v N => v = none ∧ Tk k k' M N) := by
  intro m
  induction m with
  | zero =>
    intro i N h1 h2 h3
    refine ev_iload_n (np := 3) dX1_takeFrom_2 rfl rfl ?_
    refine ev_bipush (np := 5) dX1_takeFrom_3 (by decide) rfl ?_
    refine ev_icmp_ge (tgt := 24) (np := 8) dX1_takeFrom_5 (by decide) rfl (by omega) (by omega) (fun _ => ?_) (fun h => absurd (by omega) h)
    refine ev_vret dX1_takeFrom_24 rfl ?_
    exact ⟨rfl, fun j hj => h2 j (by omega), h3⟩
  | succ m ih =>
    intro i N h1 h2 h3
    refine ev_iload_n (np := 3) dX1_takeFrom_2 rfl rfl ?_
    refine ev_bipush (np := 5) dX1_takeFrom_3 (by decide) rfl ?_
    refine ev_icmp_ge (tgt := 24) (np := 8) dX1_takeFrom_5 (by decide) rfl (by omega) (by omega) (fun h => absurd h (by omega)) (fun _ => ?_)
    refine ev_aload_n (np := 9) dX1_takeFrom_8 rfl rfl ?_
    refine ev_iload_n (np := 10) dX1_takeFrom_9 rfl rfl ?_
    refine ev_aload_n (np := 11) dX1_takeFrom_10 rfl rfl ?_
    refine ev_iload_n (np := 12) dX1_takeFrom_11 rfl rfl ?_
    refine ev_Vi1 (np := 15) moX1_savedCell sX1_takeFrom_12 (sem_savedCell N k' (i := i) (by omega)) rfl rfl (Nat.le_of_ble_eq_true rfl) rfl ?_
    refine ev_Vv2 (np := 18) moX1_setSavedCell sX1_takeFrom_15 (sem_setSavedCell N k (i := i) (by omega) _) rfl rfl (Nat.le_of_ble_eq_true rfl) rfl ?_
    refine ev_iinc (np := 21) dX1_takeFrom_18 rfl (by decide) rfl ?_
    refine ev_goto (np := 2) dX1_takeFrom_21 (by decide) ?_
    refine ih (i + 1) _ (by omega) (fun j hj => ?_) (h3.tr (setS_fr _ _ _ _))
    rw [setS_sc]
    by_cases e : j = i
    · rw [if_pos e, e, h3.sc hk]
    · rw [if_neg e]; exact h2 j (by omega)
theorem sem_takeFrom {k k' : Fin 4} (hk : k' ≠ k) (M : Mem) : Sem ST miX1_takeFrom [.inr (cC k 0), .inr (cC k' 0)] M (fun v N => v = none ∧ Tk k k' M N) := by
  refine Sem.of (by decide) ST_ok (Nat.le_of_ble_eq_true rfl) (ls0 := [some (.inr (cC k 0)), some (.inr (cC k' 0)), none]) rfl ?_
  refine ev_iconst (np := 1) dX1_takeFrom_0 rfl ?_
  refine ev_istore_n (np := 2) dX1_takeFrom_1 (by decide) rfl ?_
  exact take_loop hk M 14 0 M rfl (fun j hj => absurd hj (Nat.not_lt_zero j)) Fr.rf
theorem anew_loop {k : Fin 4} (M : Mem) : ∀ (m i : Nat) (N : Mem), i + m = 4 → scell N k 0 = 0 → scell N k 1 = 14 → (∀ j, j < i → scell N k (2 + j) = 28) → Fr k M N → Ev ST miX1_startAnew 13 [some (.inr (cC k 0)), some (.inl (i : Int))] [] N (fun v N => v = none ∧ CircT N k newC ∧ Fr k M N) := by
  intro m
  induction m with
  | zero =>
    intro i N h1 h2 h3 h4 h5
    refine ev_iload_n (np := 14) dX1_startAnew_13 rfl rfl ?_
    refine ev_iconst (np := 15) dX1_startAnew_14 rfl ?_
    refine ev_icmp_ge (tgt := 32) (np := 18) dX1_startAnew_15 (by decide) rfl (by omega) (by omega) (fun _ => ?_) (fun h => absurd (by omega) h)
    refine ev_vret dX1_startAnew_32 rfl ?_
    exact ⟨rfl, ⟨h2, h3, fun r hr => h4 r (by omega), fun g hg => absurd hg (Nat.not_lt_zero g)⟩, h5⟩
  | succ m ih =>
    intro i N h1 h2 h3 h4 h5
    refine ev_iload_n (np := 14) dX1_startAnew_13 rfl rfl ?_
    refine ev_iconst (np := 15) dX1_startAnew_14 rfl ?_
    refine ev_icmp_ge (tgt := 32) (np := 18) dX1_startAnew_15 (by decide) rfl (by omega) (by omega) (fun h => absurd h (by omega)) (fun _ => ?_)
    refine ev_aload_n (np := 19) dX1_startAnew_18 rfl rfl ?_
    refine ev_iload_n (np := 20) dX1_startAnew_19 rfl rfl ?_
    refine ev_bipush (np := 22) dX1_startAnew_20 (by decide) rfl ?_
    refine ev_iconst (np := 23) dX1_startAnew_22 rfl ?_
    refine ev_Vv3 (np := 26) moX1_setRegister sX1_startAnew_23 (sem_setRegister N k (r := (i : Int)) (by omega) 14 0) rfl rfl (Nat.le_of_ble_eq_true rfl) rfl ?_
    refine ev_iinc (np := 29) dX1_startAnew_26 rfl (by decide) rfl ?_
    refine ev_goto (np := 13) dX1_startAnew_29 (by decide) ?_
    rw [Int.toNat_natCast, setS_r N k (by omega)]
    refine ih (i + 1) _ (by omega) ?_ ?_ (fun j hj => ?_) (h5.tr (setS_fr _ _ _ _))
    · rw [setS_sc, if_neg (by omega)]; exact h2
    · rw [setS_sc, if_neg (by omega)]; exact h3
    · rw [setS_sc]
      by_cases e : j = i
      · rw [if_pos (by omega)]; rfl
      · rw [if_neg (by omega)]; exact h4 j (by omega)
theorem sem_startAnew {k : Fin 4} (M : Mem) : Sem ST miX1_startAnew [.inr (cC k 0)] M (fun v N => v = none ∧ CircT N k newC ∧ Fr k M N) := by
  refine Sem.of (by decide) ST_ok (Nat.le_of_ble_eq_true rfl) (ls0 := [some (.inr (cC k 0)), none]) rfl ?_
  refine ev_aload_n (np := 1) dX1_startAnew_0 rfl rfl ?_
  refine ev_iconst (np := 2) dX1_startAnew_1 rfl ?_
  refine ev_put (np := 5) sX1_startAnew_2 rfl rfl rfl ?_
  refine ev_aload_n (np := 6) dX1_startAnew_5 rfl rfl ?_
  refine ev_bipush (np := 8) dX1_startAnew_6 (by decide) rfl ?_
  refine ev_put (np := 11) sX1_startAnew_8 rfl rfl rfl ?_
  refine ev_iconst (np := 12) dX1_startAnew_11 rfl ?_
  refine ev_istore_n (np := 13) dX1_startAnew_12 (by decide) rfl ?_
  rw [setS_n, setS_o]
  refine anew_loop M 4 0 _ rfl ?_ ?_ (fun j hj => absurd hj (Nat.not_lt_zero j)) ((setS_fr _ _ _ _).tr (setS_fr _ _ _ _))
  · rw [setS_sc, if_neg (by decide), setS_sc, if_pos rfl]
  · rw [setS_sc, if_pos rfl]
theorem sem_gateOnWire {M : Mem} {k : Fin 4} {C : Circ} (hC : WF C) (h : CircT M k C) {w : Nat} (hw : w < 16) : Sem ST miX1_gateOnWire [.inr (cC k 0), .inl (w : Int)] M (Ri (gw (cn C) w : Nat) M) := by
  refine Sem.of (by decide) ST_ok (Nat.le_of_ble_eq_true rfl) (ls0 := [some (.inr (cC k 0)), some (.inl (w : Int)), none]) rfl ?_
  have hn := hC.1
  refine ev_iload_n (np := 1) dX1_gateOnWire_0 rfl rfl ?_
  refine ev_bipush (np := 3) dX1_gateOnWire_1 (by decide) rfl ?_
  refine ev_isub (np := 4) dX1_gateOnWire_3 rfl ?_
  refine ev_istore_n (np := 5) dX1_gateOnWire_4 (by decide) rfl ?_
  refine ev_iload_n (np := 6) dX1_gateOnWire_5 rfl rfl ?_
  refine ev_iconst (np := 7) dX1_gateOnWire_6 rfl ?_
  refine ev_aload_n (np := 8) dX1_gateOnWire_7 rfl rfl ?_
  refine ev_getI (np := 11) sX1_gateOnWire_8 rfl rfl rfl ?_
  rw [h.n]
  refine ev_iconst (np := 12) dX1_gateOnWire_11 rfl ?_
  refine ev_isub (np := 13) dX1_gateOnWire_12 rfl ?_
  by_cases hq : 6 ≤ w ∧ w - 6 < cn C
  · refine ev_Ni3 (np := 16) moX9_isWithin sX1_gateOnWire_13 (sem_within_t M (by omega) (by omega) (by omega) (by omega)) (Nat.le_of_ble_eq_true rfl) rfl ?_
    refine ev_if_eq (tgt := 25) (np := 19) dX1_gateOnWire_16 (by decide) rfl (by omega) (fun h => absurd h (by omega)) (fun _ => ?_)
    refine ev_iconst (np := 20) dX1_gateOnWire_19 rfl ?_
    refine ev_iload_n (np := 21) dX1_gateOnWire_20 rfl rfl ?_
    refine ev_ishl (np := 22) dX1_gateOnWire_21 (by omega) rfl ?_
    refine ev_goto (np := 26) dX1_gateOnWire_22 (by decide) ?_
    refine ev_iret dX1_gateOnWire_26 rfl ?_
    refine ⟨?_, rfl⟩
    rw [gw, if_pos hq, Int.one_mul, show ((w : Int) - 6).toNat = w - 6 by omega]
  · refine ev_Ni3 (np := 16) moX9_isWithin sX1_gateOnWire_13 (sem_within_f M (by omega) (by omega) (by omega) (by omega)) (Nat.le_of_ble_eq_true rfl) rfl ?_
    refine ev_if_eq (tgt := 25) (np := 19) dX1_gateOnWire_16 (by decide) rfl (by omega) (fun _ => ?_) (fun h => absurd (by omega) h)
    refine ev_iconst (np := 26) dX1_gateOnWire_25 rfl ?_
    refine ev_iret dX1_gateOnWire_26 rfl ?_
    exact ⟨by rw [gw, if_neg hq]; rfl, rfl⟩
theorem bt_high {f n g : Nat} (hf : f < 2 ^ n) (hg : n ≤ g) : bt f g = 0 := by
  unfold bt
  rw [Nat.div_eq_of_lt (Nat.lt_of_lt_of_le hf (Nat.pow_le_pow_right (by decide) hg))]
theorem dep_loop {M : Mem} {k : Fin 4} {C : Circ} (hC : WF C) (h : CircT M k C) : ∀ (g f : Nat), g ≤ 8 → f < 2 ^ cn C → Ev ST miX1_gatesBehindOutput 12 [some (.inr (cC k 0)), some (.inl (f : Int)), some (.inl ((g : Int) - 1))] [] M (Ri (depS C g f : Nat) M) := by
  have hn := hC.1
  have h28 : 2 ^ cn C ≤ 2 ^ 8 := Nat.pow_le_pow_right (by decide) hn
  intro g
  induction g with
  | zero =>
    intro f hg hf
    refine ev_iload_n (np := 13) dX1_gatesBehindOutput_12 rfl rfl ?_
    refine ev_if_lt (tgt := 64) (np := 16) dX1_gatesBehindOutput_13 (by decide) rfl (by omega) (fun _ => ?_) (fun h => absurd (by omega) h)
    refine ev_iload_n (np := 65) dX1_gatesBehindOutput_64 rfl rfl ?_
    refine ev_iret dX1_gatesBehindOutput_65 rfl ?_
    exact ⟨rfl, rfl⟩
  | succ g ih =>
    intro f hg hf
    rw [show (((g + 1 : Nat) : Int)) - 1 = (g : Int) by omega]
    refine ev_iload_n (np := 13) dX1_gatesBehindOutput_12 rfl rfl ?_
    refine ev_if_lt (tgt := 64) (np := 16) dX1_gatesBehindOutput_13 (by decide) rfl (by omega) (fun h => absurd h (by omega)) (fun _ => ?_)
    refine ev_iload_n (np := 17) dX1_gatesBehindOutput_16 rfl rfl ?_
    refine ev_iload_n (np := 18) dX1_gatesBehindOutput_17 rfl rfl ?_
    refine ev_Ni2 (np := 21) moX9_bitOf sX1_gatesBehindOutput_18 (sem_bit M (b := f) (p := g) (by omega) (by omega)) (Nat.le_of_ble_eq_true rfl) rfl ?_
    have hb := bt_lt f g
    refine ev_iconst (np := 22) dX1_gatesBehindOutput_21 rfl ?_
    refine ev_icmp_ne (tgt := 58) (np := 25) dX1_gatesBehindOutput_22 (by decide) rfl (by omega) (by omega) (fun h1 => ?_) (fun h1 => ?_)
    · refine ev_iinc (np := 61) dX1_gatesBehindOutput_58 rfl (by decide) rfl ?_
      refine ev_goto (np := 12) dX1_gatesBehindOutput_61 (by decide) ?_
      unfold depS
      rw [if_neg (by omega)]
      exact ih f (by omega) hf
    · have hgn : g < cn C := by
        rcases Nat.lt_or_ge g (cn C) with a | a
        · exact a
        · have := bt_high hf a
          omega
      obtain ⟨k1, k2, k3⟩ := hC.2.2.2 g hgn
      have k4 := k2.lt (by omega)
      have k5 := k3.lt (by omega)
      have g1 := gw_lt (n := cn C) (w := cf C g)
      have g2 := gw_lt (n := cn C) (w := cs C g)
      have o1 : f ||| gw (cn C) (cf C g) < 2 ^ cn C := Nat.or_lt_two_pow hf g1
      have o2 : (f ||| gw (cn C) (cf C g)) ||| gw (cn C) (cs C g) < 2 ^ cn C := Nat.or_lt_two_pow o1 g2
      unfold depS
      rw [if_pos (by omega)]
      refine ev_iload_n (np := 26) dX1_gatesBehindOutput_25 rfl rfl ?_
      refine ev_aload_n (np := 27) dX1_gatesBehindOutput_26 rfl rfl ?_
      refine ev_aload_n (np := 28) dX1_gatesBehindOutput_27 rfl rfl ?_
      refine ev_iload_n (np := 29) dX1_gatesBehindOutput_28 rfl rfl ?_
      refine ev_Vi1 (np := 32) moX1_firstWire sX1_gatesBehindOutput_29 (sem_firstWire hC h hgn) rfl rfl (Nat.le_of_ble_eq_true rfl) rfl ?_
      refine ev_Vi1 (np := 35) moX1_gateOnWire sX1_gatesBehindOutput_32 (sem_gateOnWire hC h k4) rfl rfl (Nat.le_of_ble_eq_true rfl) rfl ?_
      refine ev_ior (np := 36) dX1_gatesBehindOutput_35 (by omega) (by omega) rfl ?_
      rw [Int.toNat_natCast, Int.toNat_natCast]
      refine ev_istore_n (np := 37) dX1_gatesBehindOutput_36 (by decide) rfl ?_
      refine ev_aload_n (np := 38) dX1_gatesBehindOutput_37 rfl rfl ?_
      refine ev_iload_n (np := 39) dX1_gatesBehindOutput_38 rfl rfl ?_
      refine ev_Vi1 (np := 42) moX1_kindOf sX1_gatesBehindOutput_39 (sem_kindOf hC h hgn) rfl rfl (Nat.le_of_ble_eq_true rfl) rfl ?_
      refine ev_iconst (np := 43) dX1_gatesBehindOutput_42 rfl ?_
      refine ev_icmp_ge (tgt := 58) (np := 46) dX1_gatesBehindOutput_43 (by decide) rfl (by omega) (by omega) (fun h2 => ?_) (fun h2 => ?_)
      · refine ev_iinc (np := 61) dX1_gatesBehindOutput_58 rfl (by decide) rfl ?_
        refine ev_goto (np := 12) dX1_gatesBehindOutput_61 (by decide) ?_
        rw [if_neg (by omega)]
        exact ih _ (by omega) o1
      · refine ev_iload_n (np := 47) dX1_gatesBehindOutput_46 rfl rfl ?_
        refine ev_aload_n (np := 48) dX1_gatesBehindOutput_47 rfl rfl ?_
        refine ev_aload_n (np := 49) dX1_gatesBehindOutput_48 rfl rfl ?_
        refine ev_iload_n (np := 50) dX1_gatesBehindOutput_49 rfl rfl ?_
        refine ev_Vi1 (np := 53) moX1_secondWire sX1_gatesBehindOutput_50 (sem_secondWire hC h hgn) rfl rfl (Nat.le_of_ble_eq_true rfl) rfl ?_
        refine ev_Vi1 (np := 56) moX1_gateOnWire sX1_gatesBehindOutput_53 (sem_gateOnWire hC h k5) rfl rfl (Nat.le_of_ble_eq_true rfl) rfl ?_
        refine ev_ior (np := 57) dX1_gatesBehindOutput_56 (by omega) (by omega) rfl ?_
        rw [Int.toNat_natCast, Int.toNat_natCast]
        refine ev_istore_n (np := 58) dX1_gatesBehindOutput_57 (by decide) rfl ?_
        refine ev_iinc (np := 61) dX1_gatesBehindOutput_58 rfl (by decide) rfl ?_
        refine ev_goto (np := 12) dX1_gatesBehindOutput_61 (by decide) ?_
        rw [if_pos (by omega)]
        exact ih _ (by omega) o2
theorem sem_gatesBehind {M : Mem} {k : Fin 4} {C : Circ} (hC : WF C) (h : CircT M k C) : Sem ST miX1_gatesBehindOutput [.inr (cC k 0)] M (Ri (depS C 8 (gw (cn C) (co C)) : Nat) M) := by
  refine Sem.of (by decide) ST_ok (Nat.le_of_ble_eq_true rfl) (ls0 := [some (.inr (cC k 0)), none, none]) rfl ?_
  refine ev_aload_n (np := 1) dX1_gatesBehindOutput_0 rfl rfl ?_
  refine ev_aload_n (np := 2) dX1_gatesBehindOutput_1 rfl rfl ?_
  refine ev_getI (np := 5) sX1_gatesBehindOutput_2 rfl rfl rfl ?_
  rw [h.o]
  refine ev_Vi1 (np := 8) moX1_gateOnWire sX1_gatesBehindOutput_5 (sem_gateOnWire hC h hC.2.1) rfl rfl (Nat.le_of_ble_eq_true rfl) rfl ?_
  refine ev_istore_n (np := 9) dX1_gatesBehindOutput_8 (by decide) rfl ?_
  refine ev_bipush (np := 11) dX1_gatesBehindOutput_9 (by decide) rfl ?_
  refine ev_istore_n (np := 12) dX1_gatesBehindOutput_11 (by decide) rfl ?_
  exact dep_loop hC h 8 _ (by decide) gw_lt
