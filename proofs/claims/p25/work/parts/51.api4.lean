theorem uL_inv {M N : Mem} {σ : Sg} (h : InvT M σ) (hz : LZ N) (f : Fx (uX 14 19) M N) : InvT N σ := by
  obtain ⟨a, b, c, d, -⟩ := h
  exact ⟨f.circ (fun o => rfl) a, f.circ (fun o => rfl) b, f.hist rfl rfl c, f.txt rfl rfl d, hz⟩
theorem late5 {P : Nat → Bool} : ∀ j : Nat, j < 5 → P j = true → (∀ k, k < j → P k = false) → (if P 0 = true then (0 : Int) else if P 1 = true then 1 else if P 2 = true then 2 else if P 3 = true then 3 else if P 4 = true then 4 else -1000004) = (j : Int) := by
  intro j hj h hk
  rcases (show j = 0 ∨ j = 1 ∨ j = 2 ∨ j = 3 ∨ j = 4 by omega) with rfl | rfl | rfl | rfl | rfl
  · simp [h]
  · simp [h, hk 0]
  · simp [h, hk 0, hk 1]
  · simp [h, hk 0, hk 1, hk 2]
  · simp [h, hk 0, hk 1, hk 2, hk 3]
theorem lateA_loop {σ : Sg} (hW : SgW σ) : ∀ (m j : Nat) (N : Mem), j + m = 5 → InvT N σ → TabT N 0 (tabOf σ.1) → TabT N 1 (tabOf σ.2.1) → (∀ k, k < j → isLateB k (tabOf σ.1) (tabOf σ.2.1) = false) → Ev ST miX9_late 24 [some (.inr (cX 0)), some (.inl (j : Int))] [] N (fun v N => v = some (.inl (spLate σ)) ∧ InvT N σ) := by
  have h0 := tabOf_wf hW.1
  have h1 := tabOf_wf hW.2.1
  intro m
  induction m with
  | zero =>
    intro j N hj hI t0 t1 hk
    refine ev_iload_n (np := 25) dX9_late_24 rfl rfl ?_
    refine ev_iconst (np := 26) dX9_late_25 rfl ?_
    refine ev_icmp_gt (tgt := 56) (np := 29) dX9_late_26 (by decide) rfl (by omega) (by omega) (fun _ => ?_) (fun h => absurd (by omega) h)
    refine ev_ldc (np := 58) sX9_late_56 rfl ?_
    refine ev_iret dX9_late_58 rfl ?_
    refine ⟨?_, hI⟩
    unfold spLate tz _root_.Jvm.Pilot.@@N@@.t1
    rw [if_neg (by rw [hk 0 (by omega)]; decide), if_neg (by rw [hk 1 (by omega)]; decide), if_neg (by rw [hk 2 (by omega)]; decide), if_neg (by rw [hk 3 (by omega)]; decide), if_neg (by rw [hk 4 (by omega)]; decide)]
  | succ m ih =>
    intro j N hj hI t0 t1 hk
    refine ev_iload_n (np := 25) dX9_late_24 rfl rfl ?_
    refine ev_iconst (np := 26) dX9_late_25 rfl ?_
    refine ev_icmp_gt (tgt := 56) (np := 29) dX9_late_26 (by decide) rfl (by omega) (by omega) (fun h => absurd h (by omega)) (fun _ => ?_)
    refine ev_aload_n (np := 30) dX9_late_29 rfl rfl ?_
    refine ev_getR (np := 33) sX9_late_30 rfl rfl rfl ?_
    refine ev_iload_n (np := 34) dX9_late_33 rfl rfl ?_
    refine ev_aload_n (np := 35) dX9_late_34 rfl rfl ?_
    refine ev_getR (np := 38) sX9_late_35 rfl rfl rfl ?_
    refine ev_aload_n (np := 39) dX9_late_38 rfl rfl ?_
    refine ev_getR (np := 42) sX9_late_39 rfl rfl rfl ?_
    refine ev_V3 (np := 45) moX3_isLateBy sX9_late_42 (sem_isLateBy h0 h1 t0 t1 (b := j) (by omega) hI.2.2.2.2 ) rfl rfl (Nat.le_of_ble_eq_true rfl) rfl (fun v N2 hq => ?_)
    obtain ⟨rfl, hz, f⟩ := hq
    by_cases g : isLateB j (tabOf σ.1) (tabOf σ.2.1) = true
    · rw [if_pos g]
      refine ev_if_eq (tgt := 50) (np := 48) dX9_late_45 (by decide) rfl (by omega) (fun h => absurd h (by omega)) (fun _ => ?_)
      refine ev_iload_n (np := 49) dX9_late_48 rfl rfl ?_
      refine ev_iret dX9_late_49 rfl ?_
      exact ⟨congrArg (fun x => some (Sum.inl x)) (late5 (P := fun b => isLateB b (tabOf σ.1) (tabOf σ.2.1)) j (by omega) g hk).symm, uL_inv hI hz f⟩
    · rw [if_neg g]
      refine ev_if_eq (tgt := 50) (np := 48) dX9_late_45 (by decide) rfl (by omega) (fun _ => ?_) (fun h => absurd (by omega) h)
      refine ev_iinc (np := 53) dX9_late_50 rfl (by decide) rfl ?_
      refine ev_goto (np := 24) dX9_late_53 (by decide) ?_
      refine ih (j + 1) N2 (by omega) (uL_inv hI hz f) (f.tab (fun o => rfl) t0) (f.tab (fun o => rfl) t1) (fun k hk2 => ?_)
      by_cases e : k = j
      · rw [e]; simpa using g
      · exact hk k (by omega)
theorem sem_late {M : Mem} {σ : Sg} (hW : SgW σ) (h : InvT M σ) : Sem ST miX9_late [.inr (cX 0)] M (fun v N => v = some (.inl (spLate σ)) ∧ InvT N σ) := by
  refine Sem.of (by decide) ST_ok (Nat.le_of_ble_eq_true rfl) (ls0 := [some (.inr (cX 0)), none]) rfl ?_
  refine ev_aload_n (np := 1) dX9_late_0 rfl rfl ?_
  refine ev_getR (np := 4) sX9_late_1 rfl rfl rfl ?_
  refine ev_aload_n (np := 5) dX9_late_4 rfl rfl ?_
  refine ev_getR (np := 8) sX9_late_5 rfl rfl rfl ?_
  refine ev_V1 (np := 11) moX7_fillFrom sX9_late_8 (sem_fillFrom hW.1 h.1 ) rfl rfl (Nat.le_of_ble_eq_true rfl) rfl (fun v N hq => ?_)
  obtain ⟨rfl, t0, f0⟩ := hq
  refine ev_aload_n (np := 12) dX9_late_11 rfl rfl ?_
  refine ev_getR (np := 15) sX9_late_12 rfl rfl rfl ?_
  refine ev_aload_n (np := 16) dX9_late_15 rfl rfl ?_
  refine ev_getR (np := 19) sX9_late_16 rfl rfl rfl ?_
  refine ev_V1 (np := 22) moX7_fillFrom sX9_late_19 (sem_fillFrom hW.2.1 (f0.circ (fun o => rfl) h.2.1) ) rfl rfl (Nat.le_of_ble_eq_true rfl) rfl (fun v N2 hq => ?_)
  obtain ⟨rfl, t1, f1⟩ := hq
  refine ev_iconst (np := 23) dX9_late_22 rfl ?_
  refine ev_istore_n (np := 24) dX9_late_23 (by decide) rfl ?_
  exact lateA_loop hW 5 0 N2 rfl ((h.scr (uT_scr f0)).scr (uT_scr f1)) (f1.tab (fun o => rfl) t0) t1 (fun k hk => absurd hk (Nat.not_lt_zero k))
theorem same_loop {σ : Sg} (hW : SgW σ) {N : Mem} (hI : InvT N σ) (k : WkT N (tabOf σ.1) (tabOf σ.2.1)) {r : Nat} (hr : r < 4) : ∀ (m p : Nat) (v : Option Val), p + m = bn (bfs (tabOf σ.1) (tabOf σ.2.1)) → Ev ST miX9_same 22 [some (.inr (cX 0)), some (.inl (r : Int)), some (.inl (unS (bfs (tabOf σ.1) (tabOf σ.2.1)) r p : Nat)), some (.inl (p : Int)), v] [] N (fun v N => v = some (.inl ((15 - (15 &&& unS (bfs (tabOf σ.1) (tabOf σ.2.1)) r (bn (bfs (tabOf σ.1) (tabOf σ.2.1)))) : Nat))) ∧ InvT N σ) := by
  have h0 := tabOf_wf hW.1
  have h1 := tabOf_wf hW.2.1
  have hB := BI.bfs h0 h1
  have hle := hB.le
  intro m
  induction m with
  | zero =>
    intro p v hp
    have hu := un_lt hB r p (by omega)
    rw [← hp, Nat.add_zero]
    refine ev_iload_n (np := 23) dX9_same_22 rfl rfl ?_
    refine ev_aload_n (np := 24) dX9_same_23 rfl rfl ?_
    refine ev_getR (np := 27) sX9_same_24 rfl rfl rfl ?_
    refine ev_Vi0 (np := 30) moX4_size sX9_same_27 (sem_psize k.2.2) rfl rfl (Nat.le_of_ble_eq_true rfl) rfl ?_
    refine ev_icmp_ge (tgt := 84) (np := 33) dX9_same_30 (by decide) rfl (by omega) (by omega) (fun _ => ?_) (fun h => absurd (by omega) h)
    refine ev_bipush (np := 86) dX9_same_84 (by decide) rfl ?_
    refine ev_iload_n (np := 87) dX9_same_86 rfl rfl ?_
    refine ev_iconst (np := 88) dX9_same_87 rfl ?_
    refine ev_inot (np := 89) dX9_same_88 rfl ?_
    refine ev_iandn (np := 90) dX9_same_89 (by omega) (by omega) rfl ?_
    refine ev_iret dX9_same_90 rfl ?_
    exact ⟨by rw [Int.toNat_natCast]; rfl, hI⟩
  | succ m ih =>
    intro p v hp
    have hu := un_lt hB r p (by omega)
    have hpn : p < bn (bfs (tabOf σ.1) (tabOf σ.2.1)) := by omega
    obtain ⟨b1, b2, -⟩ := hB.2 p hpn
    have hb := bt_lt (bz (bfs (tabOf σ.1) (tabOf σ.2.1)) p) r
    have go : ∀ e : Nat, e < 16 → unS (bfs (tabOf σ.1) (tabOf σ.2.1)) r (p + 1) = unS (bfs (tabOf σ.1) (tabOf σ.2.1)) r p ||| (bo (bfs (tabOf σ.1) (tabOf σ.2.1)) p ^^^ e) → Ev ST miX9_same 62 [some (.inr (cX 0)), some (.inl (r : Int)), some (.inl (unS (bfs (tabOf σ.1) (tabOf σ.2.1)) r p : Nat)), some (.inl (p : Int)), v] [.inl (e : Int)] N (fun v N => v = some (.inl ((15 - (15 &&& unS (bfs (tabOf σ.1) (tabOf σ.2.1)) r (bn (bfs (tabOf σ.1) (tabOf σ.2.1)))) : Nat))) ∧ InvT N σ) := by
      intro e he eq
      refine ev_istore (np := 64) dX9_same_62 (by decide) rfl ?_
      refine ev_iload_n (np := 65) dX9_same_64 rfl rfl ?_
      refine ev_aload_n (np := 66) dX9_same_65 rfl rfl ?_
      refine ev_getR (np := 69) sX9_same_66 rfl rfl rfl ?_
      refine ev_iload_n (np := 70) dX9_same_69 rfl rfl ?_
      refine ev_Vi1 (np := 73) moX4_oneState sX9_same_70 (sem_pone hB k.2.2 hpn) rfl rfl (Nat.le_of_ble_eq_true rfl) rfl ?_
      refine ev_iload (np := 75) dX9_same_73 rfl rfl ?_
      refine ev_ixor (np := 76) dX9_same_75 (by omega) (by omega) rfl ?_
      refine ev_ior (np := 77) dX9_same_76 (by omega) (Int.natCast_nonneg _) rfl ?_
      rw [Int.toNat_natCast, Int.toNat_natCast, Int.toNat_natCast, Int.toNat_natCast]
      refine ev_istore_n (np := 78) dX9_same_77 (by decide) rfl ?_
      refine ev_iinc (np := 81) dX9_same_78 rfl (by decide) rfl ?_
      refine ev_goto (np := 22) dX9_same_81 (by decide) ?_
      have := ih (p + 1) (some (.inl (e : Int))) (by omega)
      rw [eq] at this
      exact this
    refine ev_iload_n (np := 23) dX9_same_22 rfl rfl ?_
    refine ev_aload_n (np := 24) dX9_same_23 rfl rfl ?_
    refine ev_getR (np := 27) sX9_same_24 rfl rfl rfl ?_
    refine ev_Vi0 (np := 30) moX4_size sX9_same_27 (sem_psize k.2.2) rfl rfl (Nat.le_of_ble_eq_true rfl) rfl ?_
    refine ev_icmp_ge (tgt := 84) (np := 33) dX9_same_30 (by decide) rfl (by omega) (by omega) (fun h => absurd h (by omega)) (fun _ => ?_)
    refine ev_iload_n (np := 34) dX9_same_33 rfl rfl ?_
    refine ev_sipush (np := 37) dX9_same_34 (by decide) rfl ?_
    refine ev_icmp_ge (tgt := 84) (np := 40) dX9_same_37 (by decide) rfl (by omega) (by omega) (fun h => absurd h (by omega)) (fun _ => ?_)
    refine ev_aload_n (np := 41) dX9_same_40 rfl rfl ?_
    refine ev_getR (np := 44) sX9_same_41 rfl rfl rfl ?_
    refine ev_iload_n (np := 45) dX9_same_44 rfl rfl ?_
    refine ev_Vi1 (np := 48) moX4_zeroState sX9_same_45 (sem_pzero hB k.2.2 hpn) rfl rfl (Nat.le_of_ble_eq_true rfl) rfl ?_
    refine ev_iload_n (np := 49) dX9_same_48 rfl rfl ?_
    refine ev_Si2 (np := 52) moX9_bitOf sX9_same_49 (sem_bit N (b := bz (bfs (tabOf σ.1) (tabOf σ.2.1)) p) (p := r) (by omega) (by omega)) (Nat.le_of_ble_eq_true rfl) rfl ?_
    refine ev_iconst (np := 53) dX9_same_52 rfl ?_
    refine ev_icmp_ne (tgt := 61) (np := 56) dX9_same_53 (by decide) rfl (by omega) (by omega) (fun g => ?_) (fun g => ?_)
    · refine ev_iconst (np := 62) dX9_same_61 rfl ?_
      exact go 0 (by decide) (by rw [unS, if_neg (by omega)])
    · refine ev_bipush (np := 58) dX9_same_56 (by decide) rfl ?_
      refine ev_goto (np := 62) dX9_same_58 (by decide) ?_
      exact go 15 (by decide) (by rw [unS, if_pos (by omega)])
theorem sem_same {M : Mem} {σ : Sg} (hW : SgW σ) (h : InvT M σ) {r : Int} (hr : Rng r) : Sem ST miX9_same [.inr (cX 0), .inl r] M (fun v N => v = some (.inl (spSame σ r)) ∧ InvT N σ) := by
  refine Sem.of (by decide) ST_ok (Nat.le_of_ble_eq_true rfl) (ls0 := [some (.inr (cX 0)), some (.inl r), none, none, none]) rfl ?_
  unfold spSame bs tz t1
  refine ev_iload_n (np := 1) dX9_same_0 rfl rfl ?_
  by_cases g1 : 0 ≤ r ∧ r ≤ 3
  · rw [if_pos g1]
    obtain ⟨R, rfl⟩ := Int.eq_ofNat_of_zero_le g1.1
    rw [Int.toNat_natCast]
    refine ev_Si1 (np := 4) moX9_isRegister sX9_same_1 (sem_isReg_t M hr g1) (Nat.le_of_ble_eq_true rfl) rfl ?_
    refine ev_if_ne (tgt := 10) (np := 7) dX9_same_4 (by decide) rfl (by omega) (fun _ => ?_) (fun h => absurd h (by omega))
    refine ev_aload_n (np := 11) dX9_same_10 rfl rfl ?_
    refine ev_aload_n (np := 12) dX9_same_11 rfl rfl ?_
    refine ev_getR (np := 15) sX9_same_12 rfl rfl rfl ?_
    refine ev_V1 (np := 18) moX9_walkWith sX9_same_15 (sem_walkWith hW.1 hW.2.1 h.1 h.2.1 ) rfl rfl (Nat.le_of_ble_eq_true rfl) rfl (fun v N hq => ?_)
    obtain ⟨rfl, k, f⟩ := hq
    refine ev_iconst (np := 19) dX9_same_18 rfl ?_
    refine ev_istore_n (np := 20) dX9_same_19 (by decide) rfl ?_
    refine ev_iconst (np := 21) dX9_same_20 rfl ?_
    refine ev_istore_n (np := 22) dX9_same_21 (by decide) rfl ?_
    exact same_loop hW (h.scr f) k (by omega) _ 0 none (Nat.zero_add _)
  · rw [if_neg g1]
    refine ev_Si1 (np := 4) moX9_isRegister sX9_same_1 (sem_isReg_f M hr g1) (Nat.le_of_ble_eq_true rfl) rfl ?_
    refine ev_if_ne (tgt := 10) (np := 7) dX9_same_4 (by decide) rfl (by omega) (fun h => absurd (by omega) h) (fun _ => ?_)
    refine ev_ldc (np := 9) sX9_same_7 rfl ?_
    refine ev_iret dX9_same_9 rfl ?_
    exact ⟨rfl, h⟩
theorem kinds_loop {σ : Sg} (hW : SgW σ) {g : Nat} (hg : g < cn σ.1) : ∀ (m k : Nat) (N : Mem), k + m = 6 → InvT N σ → Ev ST miX9_kinds 31 [some (.inr (cX 0)), some (.inl (g : Int)), some (.inl (kdS σ.1 (tabOf σ.2.1) g k : Nat)), some (.inl (k : Int))] [] N (fun v N => v = some (.inl (kdS σ.1 (tabOf σ.2.1) g 6 : Nat)) ∧ InvT N σ) := by
  have hZ := hW.1
  have hn := hZ.1
  obtain ⟨q1, q2, q3⟩ := hZ.2.2.2 g hg
  have l2 := q2.lt (by omega)
  have l3 := q3.lt (by omega)
  intro m
  induction m with
  | zero =>
    intro k N hk hI
    rw [show k = 6 by omega]
    refine ev_iload_n (np := 32) dX9_kinds_31 rfl rfl ?_
    refine ev_iconst (np := 33) dX9_kinds_32 rfl ?_
    refine ev_icmp_gt (tgt := 95) (np := 36) dX9_kinds_33 (by decide) rfl (by omega) (by omega) (fun _ => ?_) (fun h => absurd (by omega) h)
    refine ev_iload_n (np := 96) dX9_kinds_95 rfl rfl ?_
    refine ev_iret dX9_kinds_96 rfl ?_
    exact ⟨rfl, hI⟩
  | succ m ih =>
    intro k N hk hI
    have hl := kd_lt σ.1 (tabOf σ.2.1) g k (by omega)
    refine ev_iload_n (np := 32) dX9_kinds_31 rfl rfl ?_
    refine ev_iconst (np := 33) dX9_kinds_32 rfl ?_
    refine ev_icmp_gt (tgt := 95) (np := 36) dX9_kinds_33 (by decide) rfl (by omega) (by omega) (fun h => absurd h (by omega)) (fun _ => ?_)
    refine ev_aload_n (np := 37) dX9_kinds_36 rfl rfl ?_
    refine ev_getR (np := 40) sX9_kinds_37 rfl rfl rfl ?_
    refine ev_aload_n (np := 41) dX9_kinds_40 rfl rfl ?_
    refine ev_getR (np := 44) sX9_kinds_41 rfl rfl rfl ?_
    refine ev_V1 (np := 47) moX1_takeFrom sX9_kinds_44 (sem_takeFrom (k := 2) (k' := 0) (by decide) N ) rfl rfl (Nat.le_of_ble_eq_true rfl) rfl (fun v N2 hq => ?_)
    obtain ⟨rfl, tk⟩ := hq
    have f2 : Fx uScr N N2 := tk.2.fx.mono (fun c hc => by
      rcases c with n | ⟨k, o⟩ | ⟨t, o⟩ <;> simp [uC] at hc
      simp [uScr, hc])
    have i2 := hI.scr f2
    have ct : CircT N2 2 σ.1 := tk.circ hZ hI.1
    refine ev_aload_n (np := 48) dX9_kinds_47 rfl rfl ?_
    refine ev_getR (np := 51) sX9_kinds_48 rfl rfl rfl ?_
    refine ev_iload_n (np := 52) dX9_kinds_51 rfl rfl ?_
    refine ev_iload_n (np := 53) dX9_kinds_52 rfl rfl ?_
    refine ev_aload_n (np := 54) dX9_kinds_53 rfl rfl ?_
    refine ev_getR (np := 57) sX9_kinds_54 rfl rfl rfl ?_
    refine ev_iload_n (np := 58) dX9_kinds_57 rfl rfl ?_
    refine ev_Vi1 (np := 61) moX1_firstWire sX9_kinds_58 (sem_firstWire hZ i2.1 hg) rfl rfl (Nat.le_of_ble_eq_true rfl) rfl ?_
    refine ev_aload_n (np := 62) dX9_kinds_61 rfl rfl ?_
    refine ev_getR (np := 65) sX9_kinds_62 rfl rfl rfl ?_
    refine ev_iload_n (np := 66) dX9_kinds_65 rfl rfl ?_
    refine ev_Vi1 (np := 69) moX1_secondWire sX9_kinds_66 (sem_secondWire hZ i2.1 hg) rfl rfl (Nat.le_of_ble_eq_true rfl) rfl ?_
    refine ev_V4 (np := 72) moX1_setGate sX9_kinds_69 (sem_setGate hZ ct (g := g) (a := k) (b := cf σ.1 g) (c := cs σ.1 g) (by omega) (by omega) (by omega) l2 l3 ) rfl rfl (Nat.le_of_ble_eq_true rfl) rfl (fun v N3 hq => ?_)
    obtain ⟨rfl, c3, f3⟩ := hq
    have f3' : Fx uScr N2 N3 := f3.fx.mono (fun c hc => by
      rcases c with n | ⟨k, o⟩ | ⟨t, o⟩ <;> simp [uC] at hc
      simp [uScr, hc])
    have i3 := i2.scr f3'
    have w3 : WF (setG σ.1 g (k, cf σ.1 g, cs σ.1 g)) := setG_wf hZ (by omega) (by omega) ⟨by show k < 6; omega, q2, q3⟩
    refine ev_aload_n (np := 73) dX9_kinds_72 rfl rfl ?_
    refine ev_aload_n (np := 74) dX9_kinds_73 rfl rfl ?_
    refine ev_getR (np := 77) sX9_kinds_74 rfl rfl rfl ?_
    refine ev_V1 (np := 80) moX9_neverApart sX9_kinds_77 (sem_never w3 hW.2.1 c3 i3.2.1 ) rfl rfl (Nat.le_of_ble_eq_true rfl) rfl (fun v N4 hq => ?_)
    obtain ⟨rfl, f4⟩ := hq
    have i4 := i3.scr f4
    by_cases hp : napS (tabOf (setG σ.1 g (k, cf σ.1 g, cs σ.1 g))) (tabOf σ.2.1) = true
    · rw [if_pos hp]
      refine ev_if_eq (tgt := 89) (np := 83) dX9_kinds_80 (by decide) rfl (by omega) (fun h => absurd h (by omega)) (fun _ => ?_)
      refine ev_iload_n (np := 84) dX9_kinds_83 rfl rfl ?_
      refine ev_iconst (np := 85) dX9_kinds_84 rfl ?_
      refine ev_iload_n (np := 86) dX9_kinds_85 rfl rfl ?_
      refine ev_ishl (np := 87) dX9_kinds_86 (by omega) rfl ?_
      refine ev_ior (np := 88) dX9_kinds_87 (by omega) (Int.mul_nonneg (by omega) (Int.natCast_nonneg _)) rfl ?_
      rw [Int.toNat_natCast k, Int.one_mul, Int.toNat_natCast, Int.toNat_natCast]
      refine ev_istore_n (np := 89) dX9_kinds_88 (by decide) rfl ?_
      refine ev_iinc (np := 92) dX9_kinds_89 rfl (by decide) rfl ?_
      refine ev_goto (np := 31) dX9_kinds_92 (by decide) ?_
      have := ih (k + 1) N4 (by omega) i4
      rw [show kdS σ.1 (tabOf σ.2.1) g (k + 1) = kdS σ.1 (tabOf σ.2.1) g k ||| 2 ^ k by rw [kdS, if_pos hp]] at this
      exact this
    · rw [if_neg hp]
      refine ev_if_eq (tgt := 89) (np := 83) dX9_kinds_80 (by decide) rfl (by omega) (fun _ => ?_) (fun h => absurd (by omega) h)
      refine ev_iinc (np := 92) dX9_kinds_89 rfl (by decide) rfl ?_
      refine ev_goto (np := 31) dX9_kinds_92 (by decide) ?_
      have := ih (k + 1) N4 (by omega) i4
      rw [show kdS σ.1 (tabOf σ.2.1) g (k + 1) = kdS σ.1 (tabOf σ.2.1) g k by rw [kdS, if_neg hp]] at this
      exact this
theorem sem_kinds {M : Mem} {σ : Sg} (hW : SgW σ) (h : InvT M σ) {g : Int} (hg : Rng g) : Sem ST miX9_kinds [.inr (cX 0), .inl g] M (fun v N => v = some (.inl (spKinds σ g)) ∧ InvT N σ) := by
  refine Sem.of (by decide) ST_ok (Nat.le_of_ble_eq_true rfl) (ls0 := [some (.inr (cX 0)), some (.inl g), none, none]) rfl ?_
  have hn := hW.1.1
  unfold spKinds t1
  refine ev_iload_n (np := 1) dX9_kinds_0 rfl rfl ?_
  refine ev_iconst (np := 2) dX9_kinds_1 rfl ?_
  refine ev_bipush (np := 4) dX9_kinds_2 (by decide) rfl ?_
  by_cases g1 : 0 ≤ g ∧ g ≤ 7
  · rw [if_pos g1]
    refine ev_Si3 (np := 7) moX9_isWithin sX9_kinds_4 (sem_within_t M hg (by omega) (by omega) g1) (Nat.le_of_ble_eq_true rfl) rfl ?_
    refine ev_if_ne (tgt := 13) (np := 10) dX9_kinds_7 (by decide) rfl (by omega) (fun _ => ?_) (fun h => absurd h (by omega))
    refine ev_iload_n (np := 14) dX9_kinds_13 rfl rfl ?_
    refine ev_aload_n (np := 15) dX9_kinds_14 rfl rfl ?_
    refine ev_getR (np := 18) sX9_kinds_15 rfl rfl rfl ?_
    refine ev_Vi0 (np := 21) moX1_gateCount sX9_kinds_18 (sem_gateCount M 0) rfl rfl (Nat.le_of_ble_eq_true rfl) rfl ?_
    rw [h.1.n]
    refine ev_icmp_lt (tgt := 27) (np := 24) dX9_kinds_21 (by decide) rfl (by omega) (by omega) (fun g2 => ?_) (fun g2 => ?_)
    · rw [if_pos g2]
      obtain ⟨G, rfl⟩ := Int.eq_ofNat_of_zero_le g1.1
      rw [Int.toNat_natCast]
      refine ev_iconst (np := 28) dX9_kinds_27 rfl ?_
      refine ev_istore_n (np := 29) dX9_kinds_28 (by decide) rfl ?_
      refine ev_iconst (np := 30) dX9_kinds_29 rfl ?_
      refine ev_istore_n (np := 31) dX9_kinds_30 (by decide) rfl ?_
      exact kinds_loop hW (by omega) 6 0 M rfl h
    · rw [if_neg g2]
      refine ev_ldc (np := 26) sX9_kinds_24 rfl ?_
      refine ev_iret dX9_kinds_26 rfl ?_
      exact ⟨rfl, h⟩
  · rw [if_neg g1]
    refine ev_Si3 (np := 7) moX9_isWithin sX9_kinds_4 (sem_within_f M hg (by omega) (by omega) g1) (Nat.le_of_ble_eq_true rfl) rfl ?_
    refine ev_if_ne (tgt := 13) (np := 10) dX9_kinds_7 (by decide) rfl (by omega) (fun h => absurd (by omega) h) (fun _ => ?_)
    refine ev_ldc (np := 12) sX9_kinds_10 rfl ?_
    refine ev_iret dX9_kinds_12 rfl ?_
    exact ⟨rfl, h⟩
theorem sem_count {M : Mem} {σ : Sg} (hW : SgW σ) (h : InvT M σ) {w : Int} (hw : Rng w) : Sem ST miX9_count [.inr (cX 0), .inl w] M (fun v N => v = some (.inl (spCount σ w)) ∧ InvT N σ) := by
  refine Sem.of (by decide) ST_ok (Nat.le_of_ble_eq_true rfl) (ls0 := [some (.inr (cX 0)), some (.inl w)]) rfl ?_
  refine ev_iload_n (np := 1) dX9_count_0 rfl rfl ?_
  by_cases g : 0 ≤ w ∧ w ≤ 3
  · rcases (show w = 0 ∨ w = 1 ∨ w = 2 ∨ w = 3 by omega) with rfl | rfl | rfl | rfl
    · refine ev_swIn (np := 32) dX9_count_1 (by omega) (by omega) (by first | rfl | (simp; done)) (by decide) ?_
      refine ev_aload_n (np := 33) dX9_count_32 rfl rfl ?_
      refine ev_getR (np := 36) sX9_count_33 rfl rfl rfl ?_
      refine ev_Vi0 (np := 39) moX1_gateCount sX9_count_36 (sem_gateCount M 0) rfl rfl (Nat.le_of_ble_eq_true rfl) rfl ?_
      rw [h.1.n]
      refine ev_aload_n (np := 40) dX9_count_39 rfl rfl ?_
      refine ev_getR (np := 43) sX9_count_40 rfl rfl rfl ?_
      refine ev_Vi0 (np := 46) moX1_gateCount sX9_count_43 (sem_gateCount M 1) rfl rfl (Nat.le_of_ble_eq_true rfl) rfl ?_
      rw [h.2.1.n]
      refine ev_iadd (np := 47) dX9_count_46 rfl ?_
      refine ev_iret dX9_count_47 rfl ?_
      exact ⟨by unfold spCount; rw [if_pos rfl]; congr 1, h⟩
    · refine ev_swIn (np := 48) dX9_count_1 (by omega) (by omega) (by first | rfl | (simp; done)) (by decide) ?_
      refine ev_aload_n (np := 49) dX9_count_48 rfl rfl ?_
      refine ev_aload_n (np := 50) dX9_count_49 rfl rfl ?_
      refine ev_getR (np := 53) sX9_count_50 rfl rfl rfl ?_
      refine ev_V1 (np := 56) moX9_neverApart sX9_count_53 (sem_never hW.1 hW.2.1 h.1 h.2.1 ) rfl rfl (Nat.le_of_ble_eq_true rfl) rfl (fun v N hq => ?_)
      obtain ⟨rfl, f⟩ := hq
      by_cases hp : napS (tabOf σ.1) (tabOf σ.2.1) = true
      · rw [if_pos hp]
        refine ev_if_eq (tgt := 63) (np := 59) dX9_count_56 (by decide) rfl (by omega) (fun h => absurd h (by omega)) (fun _ => ?_)
        refine ev_iconst (np := 60) dX9_count_59 rfl ?_
        refine ev_goto (np := 64) dX9_count_60 (by decide) ?_
        refine ev_iret dX9_count_64 rfl ?_
        exact ⟨by unfold spCount tz t1; rw [if_neg (by decide), if_pos rfl, if_pos hp], h.scr f⟩
      · rw [if_neg hp]
        refine ev_if_eq (tgt := 63) (np := 59) dX9_count_56 (by decide) rfl (by omega) (fun _ => ?_) (fun h => absurd (by omega) h)
        refine ev_iconst (np := 64) dX9_count_63 rfl ?_
        refine ev_iret dX9_count_64 rfl ?_
        exact ⟨by unfold spCount tz t1; rw [if_neg (by decide), if_pos rfl, if_neg hp], h.scr f⟩
    · refine ev_swIn (np := 65) dX9_count_1 (by omega) (by omega) (by first | rfl | (simp; done)) (by decide) ?_
      refine ev_aload_n (np := 66) dX9_count_65 rfl rfl ?_
      refine ev_getR (np := 69) sX9_count_66 rfl rfl rfl ?_
      refine ev_Vi0 (np := 72) moX2_size sX9_count_69 (sem_hsize h.2.2.1) rfl rfl (Nat.le_of_ble_eq_true rfl) rfl ?_
      refine ev_iret dX9_count_72 rfl ?_
      exact ⟨rfl, h⟩
    · refine ev_swIn (np := 73) dX9_count_1 (by omega) (by omega) (by first | rfl | (simp; done)) (by decide) ?_
      refine ev_aload_n (np := 74) dX9_count_73 rfl rfl ?_
      refine ev_getR (np := 77) sX9_count_74 rfl rfl rfl ?_
      refine ev_Vi0 (np := 80) moX8_length sX9_count_77 (sem_xlen h.2.2.2.1) rfl rfl (Nat.le_of_ble_eq_true rfl) rfl ?_
      refine ev_iret dX9_count_80 rfl ?_
      exact ⟨rfl, h⟩
  · refine ev_swOut (np := 81) dX9_count_1 (by omega) (by omega) (by decide) ?_
    refine ev_ldc (np := 83) sX9_count_81 rfl ?_
    refine ev_iret dX9_count_83 rfl ?_
    exact ⟨by rw [spCount, if_neg (by omega), if_neg (by omega), if_neg (by omega), if_neg (by omega)], h⟩
theorem sem_undo {M : Mem} {σ : Sg} (hW : SgW σ) (h : InvT M σ) : Sem ST miX9_undo [.inr (cX 0)] M (fun v N => v = some (.inl (spUndo σ).1) ∧ InvT N (spUndo σ).2) := by
  refine Sem.of (by decide) ST_ok (Nat.le_of_ble_eq_true rfl) (ls0 := [some (.inr (cX 0))]) rfl ?_
  have h4 := hW.2.2.1.1
  unfold spUndo
  refine ev_aload_n (np := 1) dX9_undo_0 rfl rfl ?_
  refine ev_getR (np := 4) sX9_undo_1 rfl rfl rfl ?_
  refine ev_Vi0 (np := 7) moX2_size sX9_undo_4 (sem_hsize h.2.2.1) rfl rfl (Nat.le_of_ble_eq_true rfl) rfl ?_
  refine ev_if_ne (tgt := 13) (np := 10) dX9_undo_7 (by decide) rfl (by omega) (fun g => ?_) (fun g => ?_)
  · rw [if_neg (by omega)]
    refine ev_aload_n (np := 14) dX9_undo_13 rfl rfl ?_
    refine ev_getR (np := 17) sX9_undo_14 rfl rfl rfl ?_
    refine ev_aload_n (np := 18) dX9_undo_17 rfl rfl ?_
    refine ev_getR (np := 21) sX9_undo_18 rfl rfl rfl ?_
    refine ev_aload_n (np := 22) dX9_undo_21 rfl rfl ?_
    refine ev_getR (np := 25) sX9_undo_22 rfl rfl rfl ?_
    refine ev_V2 (np := 28) moX2_giveBack sX9_undo_25 (sem_giveBack hW.2.2.1 h.2.2.1 (by omega) ) rfl rfl (Nat.le_of_ble_eq_true rfl) rfl (fun v N hq => ?_)
    obtain ⟨rfl, a, b, c, f⟩ := hq
    refine ev_aload_n (np := 29) dX9_undo_28 rfl rfl ?_
    refine ev_getR (np := 32) sX9_undo_29 rfl rfl rfl ?_
    refine ev_Vi0 (np := 35) moX2_size sX9_undo_32 (sem_hsize a) rfl rfl (Nat.le_of_ble_eq_true rfl) rfl ?_
    refine ev_iret dX9_undo_35 rfl ?_
    exact ⟨rfl, b, c, a, f.txt rfl rfl h.2.2.2.1, fun q hq => by rw [f (cX 16) rfl]; exact h.2.2.2.2 q hq⟩
  · rw [if_pos (by omega)]
    refine ev_ldc (np := 12) sX9_undo_10 rfl ?_
    refine ev_iret dX9_undo_12 rfl ?_
    exact ⟨rfl, h⟩
theorem uX_inv {M N : Mem} {σ : Sg} (h : InvT M σ) {x : Txt} (hx : TxT N x) (f : Fx (uX 25 28) M N) : InvT N (σ.1, σ.2.1, σ.2.2.1, x) := by
  obtain ⟨a, b, c, d, e⟩ := h
  exact ⟨f.circ (fun o => rfl) a, f.circ (fun o => rfl) b, f.hist rfl rfl c, hx, fun q hq => by rw [f (cX 16) rfl]; exact e q hq⟩
theorem uR_scr {M N : Mem} (f : Fx uRd M N) : Fx uScr M N := f.mono (fun c hc => by
  rcases c with n | ⟨k, o⟩ | ⟨t, o⟩ <;> simp [uRd, uC, uX] at hc
  · simp [uScr]; omega
  · simp [uScr, hc])