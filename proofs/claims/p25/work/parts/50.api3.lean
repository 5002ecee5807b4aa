/-- the walk's tables and pairs lie in the scratch cells -/
def WkT (M : Mem) (T0 T1 : Tab) : Prop := TabT M 0 T0 ∧ TabT M 1 T1 ∧ PwT M (bfs T0 T1)
theorem uT_scr {t : Fin 3} {M N : Mem} (f : Fx (uT t) M N) : Fx uScr M N := f.mono (fun c hc => by
  rcases c with n | ⟨k, o⟩ | ⟨t, o⟩ <;> simp [uT] at hc
  rfl)
theorem uW_scr {M N : Mem} (f : Fx (uX 1 14) M N) : Fx uScr M N := f.mono (fun c hc => by
  rcases c with n | ⟨k, o⟩ | ⟨t, o⟩ <;> simp [uX] at hc
  simp [uScr]; omega)
theorem sem_walkWith {M : Mem} {k : Fin 4} {Z O : Circ} (hZ : WF Z) (hO : WF O) (cz : CircT M k Z) (c1 : CircT M 1 O) : Sem ST miX9_walkWith [.inr (cX 0), .inr (cC k 0)] M (fun v N => v = none ∧ WkT N (tabOf Z) (tabOf O) ∧ Fx uScr M N) := by
  refine Sem.of (by decide) ST_ok (Nat.le_of_ble_eq_true rfl) (ls0 := [some (.inr (cX 0)), some (.inr (cC k 0))]) rfl ?_
  refine ev_aload_n (np := 1) dX9_walkWith_0 rfl rfl ?_
  refine ev_getR (np := 4) sX9_walkWith_1 rfl rfl rfl ?_
  refine ev_aload_n (np := 5) dX9_walkWith_4 rfl rfl ?_
  refine ev_V1 (np := 8) moX7_fillFrom sX9_walkWith_5 (sem_fillFrom hZ cz ) rfl rfl (Nat.le_of_ble_eq_true rfl) rfl (fun v N hq => ?_)
  obtain ⟨rfl, t0, f0⟩ := hq
  refine ev_aload_n (np := 9) dX9_walkWith_8 rfl rfl ?_
  refine ev_getR (np := 12) sX9_walkWith_9 rfl rfl rfl ?_
  refine ev_aload_n (np := 13) dX9_walkWith_12 rfl rfl ?_
  refine ev_getR (np := 16) sX9_walkWith_13 rfl rfl rfl ?_
  refine ev_V1 (np := 19) moX7_fillFrom sX9_walkWith_16 (sem_fillFrom hO (f0.circ (fun o => rfl) c1) ) rfl rfl (Nat.le_of_ble_eq_true rfl) rfl (fun v N2 hq => ?_)
  obtain ⟨rfl, t1, f1⟩ := hq
  refine ev_aload_n (np := 20) dX9_walkWith_19 rfl rfl ?_
  refine ev_getR (np := 23) sX9_walkWith_20 rfl rfl rfl ?_
  refine ev_aload_n (np := 24) dX9_walkWith_23 rfl rfl ?_
  refine ev_getR (np := 27) sX9_walkWith_24 rfl rfl rfl ?_
  refine ev_aload_n (np := 28) dX9_walkWith_27 rfl rfl ?_
  refine ev_getR (np := 31) sX9_walkWith_28 rfl rfl rfl ?_
  have t0' := f1.tab (t := 0) (fun o => rfl) t0
  refine ev_V2 (np := 34) moX4_walkFromFirst sX9_walkWith_31 (sem_walk (tabOf_wf hZ) (tabOf_wf hO) t0' t1 ) rfl rfl (Nat.le_of_ble_eq_true rfl) rfl (fun v N3 hq => ?_)
  obtain ⟨rfl, p, f2⟩ := hq
  refine ev_vret dX9_walkWith_34 rfl ?_
  exact ⟨rfl, ⟨f2.tab (fun o => rfl) t0', f2.tab (fun o => rfl) t1, p⟩, ((uT_scr f0).tr (uT_scr f1)).tr (uW_scr f2)⟩
theorem sem_differ {M : Mem} {T0 T1 : Tab} (h0 : TWF T0) (h1 : TWF T1) (h : WkT M T0 T1) {p : Nat} (hp : p < bn (bfs T0 T1)) : Sem ST miX9_differingInputs [.inr (cX 0), .inl (p : Int)] M (Ri (bdif T0 T1 (bfs T0 T1) p : Nat) M) := by
  refine Sem.of (by decide) ST_ok (Nat.le_of_ble_eq_true rfl) (ls0 := [some (.inr (cX 0)), some (.inl (p : Int))]) rfl ?_
  have hB := BI.bfs h0 h1
  obtain ⟨b1, b2, -⟩ := hB.2 p hp
  refine ev_aload_n (np := 1) dX9_differingInputs_0 rfl rfl ?_
  refine ev_getR (np := 4) sX9_differingInputs_1 rfl rfl rfl ?_
  refine ev_aload_n (np := 5) dX9_differingInputs_4 rfl rfl ?_
  refine ev_getR (np := 8) sX9_differingInputs_5 rfl rfl rfl ?_
  refine ev_iload_n (np := 9) dX9_differingInputs_8 rfl rfl ?_
  refine ev_Vi1 (np := 12) moX4_zeroState sX9_differingInputs_9 (sem_pzero hB h.2.2 hp) rfl rfl (Nat.le_of_ble_eq_true rfl) rfl ?_
  refine ev_Vi1 (np := 15) moX7_outputSet sX9_differingInputs_12 (sem_tOut h.1 b1) rfl rfl (Nat.le_of_ble_eq_true rfl) rfl ?_
  refine ev_aload_n (np := 16) dX9_differingInputs_15 rfl rfl ?_
  refine ev_getR (np := 19) sX9_differingInputs_16 rfl rfl rfl ?_
  refine ev_aload_n (np := 20) dX9_differingInputs_19 rfl rfl ?_
  refine ev_getR (np := 23) sX9_differingInputs_20 rfl rfl rfl ?_
  refine ev_iload_n (np := 24) dX9_differingInputs_23 rfl rfl ?_
  refine ev_Vi1 (np := 27) moX4_oneState sX9_differingInputs_24 (sem_pone hB h.2.2 hp) rfl rfl (Nat.le_of_ble_eq_true rfl) rfl ?_
  refine ev_Vi1 (np := 30) moX7_outputSet sX9_differingInputs_27 (sem_tOut h.2.1 b2) rfl rfl (Nat.le_of_ble_eq_true rfl) rfl ?_
  refine ev_ixor (np := 31) dX9_differingInputs_30 (by omega) (by omega) rfl ?_
  refine ev_iret dX9_differingInputs_31 rfl ?_
  exact ⟨by rw [Int.toNat_natCast, Int.toNat_natCast]; rfl, rfl⟩
theorem fpa_loop {M : Mem} {T0 T1 : Tab} (h0 : TWF T0) (h1 : TWF T1) (h : WkT M T0 T1) : ∀ (f p : Nat), p + f = 256 → Ev ST miX9_firstPairApart 2 [some (.inr (cX 0)), some (.inl (p : Int))] [] M (Ri (bap T0 T1 (bfs T0 T1) f p : Nat) M) := by
  have hB := BI.bfs h0 h1
  have hle := hB.le
  intro f
  induction f with
  | zero =>
    intro p hp
    refine ev_iload_n (np := 3) dX9_firstPairApart_2 rfl rfl ?_
    refine ev_aload_n (np := 4) dX9_firstPairApart_3 rfl rfl ?_
    refine ev_getR (np := 7) sX9_firstPairApart_4 rfl rfl rfl ?_
    refine ev_Vi0 (np := 10) moX4_size sX9_firstPairApart_7 (sem_psize h.2.2) rfl rfl (Nat.le_of_ble_eq_true rfl) rfl ?_
    refine ev_icmp_ge (tgt := 34) (np := 13) dX9_firstPairApart_10 (by decide) rfl (by omega) (by omega) (fun g => ?_) (fun g => ?_)
    · refine ev_iload_n (np := 35) dX9_firstPairApart_34 rfl rfl ?_
      refine ev_iret dX9_firstPairApart_35 rfl ?_
      exact ⟨rfl, rfl⟩
    · refine ev_iload_n (np := 14) dX9_firstPairApart_13 rfl rfl ?_
      refine ev_sipush (np := 17) dX9_firstPairApart_14 (by decide) rfl ?_
      refine ev_icmp_ge (tgt := 34) (np := 20) dX9_firstPairApart_17 (by decide) rfl (by omega) (by omega) (fun _ => ?_) (fun h => absurd (by omega) h)
      refine ev_iload_n (np := 35) dX9_firstPairApart_34 rfl rfl ?_
      refine ev_iret dX9_firstPairApart_35 rfl ?_
      exact ⟨rfl, rfl⟩
  | succ f ih =>
    intro p hp
    unfold bap
    refine ev_iload_n (np := 3) dX9_firstPairApart_2 rfl rfl ?_
    refine ev_aload_n (np := 4) dX9_firstPairApart_3 rfl rfl ?_
    refine ev_getR (np := 7) sX9_firstPairApart_4 rfl rfl rfl ?_
    refine ev_Vi0 (np := 10) moX4_size sX9_firstPairApart_7 (sem_psize h.2.2) rfl rfl (Nat.le_of_ble_eq_true rfl) rfl ?_
    refine ev_icmp_ge (tgt := 34) (np := 13) dX9_firstPairApart_10 (by decide) rfl (by omega) (by omega) (fun g => ?_) (fun g => ?_)
    · rw [if_neg (by omega)]
      refine ev_iload_n (np := 35) dX9_firstPairApart_34 rfl rfl ?_
      refine ev_iret dX9_firstPairApart_35 rfl ?_
      exact ⟨rfl, rfl⟩
    · rw [if_pos (by omega)]
      have hd := bdif_lt h0 h1 (bfs T0 T1) p
      refine ev_iload_n (np := 14) dX9_firstPairApart_13 rfl rfl ?_
      refine ev_sipush (np := 17) dX9_firstPairApart_14 (by decide) rfl ?_
      refine ev_icmp_ge (tgt := 34) (np := 20) dX9_firstPairApart_17 (by decide) rfl (by omega) (by omega) (fun h => absurd h (by omega)) (fun _ => ?_)
      refine ev_aload_n (np := 21) dX9_firstPairApart_20 rfl rfl ?_
      refine ev_iload_n (np := 22) dX9_firstPairApart_21 rfl rfl ?_
      refine ev_Vi1 (np := 25) moX9_differingInputs sX9_firstPairApart_22 (sem_differ h0 h1 h (p := p) (by omega)) rfl rfl (Nat.le_of_ble_eq_true rfl) rfl ?_
      refine ev_if_ne (tgt := 34) (np := 28) dX9_firstPairApart_25 (by decide) rfl (by omega) (fun g2 => ?_) (fun g2 => ?_)
      · rw [if_neg (by omega)]
        refine ev_iload_n (np := 35) dX9_firstPairApart_34 rfl rfl ?_
        refine ev_iret dX9_firstPairApart_35 rfl ?_
        exact ⟨rfl, rfl⟩
      · rw [if_pos (by omega)]
        refine ev_iinc (np := 31) dX9_firstPairApart_28 rfl (by decide) rfl ?_
        refine ev_goto (np := 2) dX9_firstPairApart_31 (by decide) ?_
        exact ih (p + 1) (by omega)
theorem sem_fpa {M : Mem} {T0 T1 : Tab} (h0 : TWF T0) (h1 : TWF T1) (h : WkT M T0 T1) : Sem ST miX9_firstPairApart [.inr (cX 0)] M (Ri (bapS T0 T1 : Nat) M) := by
  refine Sem.of (by decide) ST_ok (Nat.le_of_ble_eq_true rfl) (ls0 := [some (.inr (cX 0)), none]) rfl ?_
  refine ev_iconst (np := 1) dX9_firstPairApart_0 rfl ?_
  refine ev_istore_n (np := 2) dX9_firstPairApart_1 (by decide) rfl ?_
  exact fpa_loop h0 h1 h 256 0 rfl
theorem bap_le {T0 T1 : Tab} {s : Bst} : ∀ (f p : Nat), bap T0 T1 s f p ≤ p + f
  | 0, p => Nat.le_refl _
  | f + 1, p => by
    unfold bap
    split
    · split
      · have := bap_le (T0 := T0) (T1 := T1) (s := s) f (p + 1); omega
      · omega
    · omega
theorem sem_never {M : Mem} {k : Fin 4} {Z O : Circ} (hZ : WF Z) (hO : WF O) (cz : CircT M k Z) (c1 : CircT M 1 O) : Sem ST miX9_neverApart [.inr (cX 0), .inr (cC k 0)] M (fun v N => v = some (.inl (if napS (tabOf Z) (tabOf O) = true then 1 else 0)) ∧ Fx uScr M N) := by
  refine Sem.of (by decide) ST_ok (Nat.le_of_ble_eq_true rfl) (ls0 := [some (.inr (cX 0)), some (.inr (cC k 0))]) rfl ?_
  have h0 := tabOf_wf hZ
  have h1 := tabOf_wf hO
  have hle := (BI.bfs h0 h1).le
  have hbl : bapS (tabOf Z) (tabOf O) ≤ 0 + 256 := bap_le _ _
  refine ev_aload_n (np := 1) dX9_neverApart_0 rfl rfl ?_
  refine ev_aload_n (np := 2) dX9_neverApart_1 rfl rfl ?_
  refine ev_V1 (np := 5) moX9_walkWith sX9_neverApart_2 (sem_walkWith hZ hO cz c1 ) rfl rfl (Nat.le_of_ble_eq_true rfl) rfl (fun v N hq => ?_)
  obtain ⟨rfl, w, f⟩ := hq
  refine ev_aload_n (np := 6) dX9_neverApart_5 rfl rfl ?_
  refine ev_Vi0 (np := 9) moX9_firstPairApart sX9_neverApart_6 (sem_fpa h0 h1 w) rfl rfl (Nat.le_of_ble_eq_true rfl) rfl ?_
  refine ev_aload_n (np := 10) dX9_neverApart_9 rfl rfl ?_
  refine ev_getR (np := 13) sX9_neverApart_10 rfl rfl rfl ?_
  refine ev_Vi0 (np := 16) moX4_size sX9_neverApart_13 (sem_psize w.2.2) rfl rfl (Nat.le_of_ble_eq_true rfl) rfl ?_
  refine ev_icmp_lt (tgt := 23) (np := 19) dX9_neverApart_16 (by decide) rfl (by omega) (by omega) (fun g => ?_) (fun g => ?_)
  · refine ev_iconst (np := 24) dX9_neverApart_23 rfl ?_
    refine ev_zret dX9_neverApart_24 rfl (by first | exact Or.inl rfl | exact Or.inr rfl | omega) ?_
    exact ⟨by rw [napS, if_neg (by simp; omega)], f⟩
  · refine ev_iconst (np := 20) dX9_neverApart_19 rfl ?_
    refine ev_goto (np := 24) dX9_neverApart_20 (by decide) ?_
    refine ev_zret dX9_neverApart_24 rfl (by first | exact Or.inl rfl | exact Or.inr rfl | omega) ?_
    exact ⟨by rw [napS, if_pos (by simp; omega)], f⟩
theorem sem_pairs {M : Mem} {σ : Sg} (hW : SgW σ) (h : InvT M σ) : Sem ST miX9_pairs [.inr (cX 0)] M (fun v N => v = some (.inl (spPairs σ)) ∧ InvT N σ) := by
  refine Sem.of (by decide) ST_ok (Nat.le_of_ble_eq_true rfl) (ls0 := [some (.inr (cX 0))]) rfl ?_
  refine ev_aload_n (np := 1) dX9_pairs_0 rfl rfl ?_
  refine ev_aload_n (np := 2) dX9_pairs_1 rfl rfl ?_
  refine ev_getR (np := 5) sX9_pairs_2 rfl rfl rfl ?_
  refine ev_V1 (np := 8) moX9_walkWith sX9_pairs_5 (sem_walkWith hW.1 hW.2.1 h.1 h.2.1 ) rfl rfl (Nat.le_of_ble_eq_true rfl) rfl (fun v N hq => ?_)
  obtain ⟨rfl, w, f⟩ := hq
  refine ev_aload_n (np := 9) dX9_pairs_8 rfl rfl ?_
  refine ev_getR (np := 12) sX9_pairs_9 rfl rfl rfl ?_
  refine ev_Vi0 (np := 15) moX4_size sX9_pairs_12 (sem_psize w.2.2) rfl rfl (Nat.le_of_ble_eq_true rfl) rfl ?_
  refine ev_iret dX9_pairs_15 rfl ?_
  exact ⟨rfl, h.scr f⟩
theorem sem_apart {M : Mem} {σ : Sg} (hW : SgW σ) (h : InvT M σ) {i : Int} (hi : Rng i) : Sem ST miX9_apart [.inr (cX 0), .inl i] M (fun v N => v = some (.inl (spApart σ i)) ∧ InvT N σ) := by
  refine Sem.of (by decide) ST_ok (Nat.le_of_ble_eq_true rfl) (ls0 := [some (.inr (cX 0)), some (.inl i), none, none]) rfl ?_
  have h0 := tabOf_wf hW.1
  have h1 := tabOf_wf hW.2.1
  have hB := BI.bfs h0 h1
  have hle := hB.le
  have hbl : bapS (tabOf σ.1) (tabOf σ.2.1) ≤ 0 + 256 := bap_le _ _
  unfold spApart bs tz t1
  refine ev_iload_n (np := 1) dX9_apart_0 rfl rfl ?_
  refine ev_iconst (np := 2) dX9_apart_1 rfl ?_
  refine ev_icmp_ge (tgt := 8) (np := 5) dX9_apart_2 (by decide) rfl (by omega) (by omega) (fun g1 => ?_) (fun g1 => ?_)
  · rw [if_neg (by omega)]
    refine ev_aload_n (np := 9) dX9_apart_8 rfl rfl ?_
    refine ev_aload_n (np := 10) dX9_apart_9 rfl rfl ?_
    refine ev_getR (np := 13) sX9_apart_10 rfl rfl rfl ?_
    refine ev_V1 (np := 16) moX9_walkWith sX9_apart_13 (sem_walkWith hW.1 hW.2.1 h.1 h.2.1 ) rfl rfl (Nat.le_of_ble_eq_true rfl) rfl (fun v N hq => ?_)
    obtain ⟨rfl, k, f⟩ := hq
    have hN := h.scr f
    refine ev_aload_n (np := 17) dX9_apart_16 rfl rfl ?_
    refine ev_Vi0 (np := 20) moX9_firstPairApart sX9_apart_17 (sem_fpa h0 h1 k) rfl rfl (Nat.le_of_ble_eq_true rfl) rfl ?_
    refine ev_istore_n (np := 21) dX9_apart_20 (by decide) rfl ?_
    refine ev_iload_n (np := 22) dX9_apart_21 rfl rfl ?_
    refine ev_aload_n (np := 23) dX9_apart_22 rfl rfl ?_
    refine ev_getR (np := 26) sX9_apart_23 rfl rfl rfl ?_
    refine ev_Vi0 (np := 29) moX4_size sX9_apart_26 (sem_psize k.2.2) rfl rfl (Nat.le_of_ble_eq_true rfl) rfl ?_
    refine ev_icmp_lt (tgt := 35) (np := 32) dX9_apart_29 (by decide) rfl (by omega) (by omega) (fun g2 => ?_) (fun g2 => ?_)
    · have hP : bapS (tabOf σ.1) (tabOf σ.2.1) < bn (bfs (tabOf σ.1) (tabOf σ.2.1)) := by show bapS (tabOf σ.1) (tabOf σ.2.1) < bn (bfs (tabOf σ.1) (tabOf σ.2.1)); omega
      have htk := (hB.2 _ hP).2.2.1
      rw [if_neg (show ¬ napS (tabOf σ.1) (tabOf σ.2.1) = true by simp only [napS, decide_eq_true_eq]; exact Nat.not_le.mpr hP)]
      refine ev_aload_n (np := 36) dX9_apart_35 rfl rfl ?_
      refine ev_getR (np := 39) sX9_apart_36 rfl rfl rfl ?_
      refine ev_iload_n (np := 40) dX9_apart_39 rfl rfl ?_
      refine ev_Vi1 (np := 43) moX4_ticksTo sX9_apart_40 (sem_pticks hB k.2.2 hP) rfl rfl (Nat.le_of_ble_eq_true rfl) rfl ?_
      refine ev_istore_n (np := 44) dX9_apart_43 (by decide) rfl ?_
      refine ev_iload_n (np := 45) dX9_apart_44 rfl rfl ?_
      refine ev_iconst (np := 46) dX9_apart_45 rfl ?_
      have htk2 : btk (bfs (tabOf σ.1) (tabOf σ.2.1)) (bapS (tabOf σ.1) (tabOf σ.2.1)) < 65536 := by omega
      refine ev_icmp_ne (tgt := 53) (np := 49) dX9_apart_46 (by decide) rfl (by omega) (by omega) (fun g3 => ?_) (fun g3 => ?_)
      · rw [if_neg g3]
        refine ev_iload_n (np := 54) dX9_apart_53 rfl rfl ?_
        refine ev_iload_n (np := 55) dX9_apart_54 rfl rfl ?_
        refine ev_icmp_le (tgt := 61) (np := 58) dX9_apart_55 (by decide) rfl (by omega) (by omega) (fun g4 => ?_) (fun g4 => ?_)
        · rw [if_neg (show ¬ (i > (btk (bfs (tabOf σ.1) (tabOf σ.2.1)) (bapS (tabOf σ.1) (tabOf σ.2.1)) : Nat)) by show ¬ (i > (btk (bfs (tabOf σ.1) (tabOf σ.2.1)) (bapS (tabOf σ.1) (tabOf σ.2.1)) : Nat)); omega)]
          refine ev_iload_n (np := 62) dX9_apart_61 rfl rfl ?_
          refine ev_iload_n (np := 63) dX9_apart_62 rfl rfl ?_
          refine ev_icmp_ne (tgt := 77) (np := 66) dX9_apart_63 (by decide) rfl (by omega) (by omega) (fun g5 => ?_) (fun g5 => ?_)
          · rw [if_neg (show ¬ (i = (btk (bfs (tabOf σ.1) (tabOf σ.2.1)) (bapS (tabOf σ.1) (tabOf σ.2.1)) : Nat)) from g5)]
            refine ev_aload_n (np := 78) dX9_apart_77 rfl rfl ?_
            refine ev_getR (np := 81) sX9_apart_78 rfl rfl rfl ?_
            refine ev_iload_n (np := 82) dX9_apart_81 rfl rfl ?_
            refine ev_iload_n (np := 83) dX9_apart_82 rfl rfl ?_
            rw [← Int.toNat_of_nonneg (show 0 ≤ i by omega)]
            refine ev_Vi2 (np := 86) moX4_inputsOnWay sX9_apart_83 (sem_pway hB k.2.2 hP (t := i.toNat) (by omega)) rfl rfl (Nat.le_of_ble_eq_true rfl) rfl ?_
            refine ev_iret dX9_apart_86 rfl ?_
            exact ⟨by rw [Int.toNat_natCast], hN⟩
          · rw [if_pos (show (i = (btk (bfs (tabOf σ.1) (tabOf σ.2.1)) (bapS (tabOf σ.1) (tabOf σ.2.1)) : Nat)) from g5)]
            have hd := bdif_lt h0 h1 (bfs (tabOf σ.1) (tabOf σ.2.1)) (bapS (tabOf σ.1) (tabOf σ.2.1))
            refine ev_aload_n (np := 67) dX9_apart_66 rfl rfl ?_
            refine ev_iload_n (np := 68) dX9_apart_67 rfl rfl ?_
            refine ev_Vi1 (np := 71) moX9_differingInputs sX9_apart_68 (sem_differ h0 h1 k hP) rfl rfl (Nat.le_of_ble_eq_true rfl) rfl ?_
            refine ev_Si1 (np := 74) moX9_leastOf sX9_apart_71 (sem_least N (s := bdif (tabOf σ.1) (tabOf σ.2.1) (bfs (tabOf σ.1) (tabOf σ.2.1)) (bapS (tabOf σ.1) (tabOf σ.2.1))) (by omega)) (Nat.le_of_ble_eq_true rfl) rfl ?_
            refine ev_goto (np := 86) dX9_apart_74 (by decide) ?_
            refine ev_iret dX9_apart_86 rfl ?_
            exact ⟨rfl, hN⟩
        · rw [if_pos (show (i > (btk (bfs (tabOf σ.1) (tabOf σ.2.1)) (bapS (tabOf σ.1) (tabOf σ.2.1)) : Nat)) by show (i > (btk (bfs (tabOf σ.1) (tabOf σ.2.1)) (bapS (tabOf σ.1) (tabOf σ.2.1)) : Nat)); omega)]
          refine ev_ldc (np := 60) sX9_apart_58 rfl ?_
          refine ev_iret dX9_apart_60 rfl ?_
          exact ⟨rfl, hN⟩
      · rw [if_pos g3]
        refine ev_iload_n (np := 50) dX9_apart_49 rfl rfl ?_
        refine ev_iconst (np := 51) dX9_apart_50 rfl ?_
        refine ev_iadd (np := 52) dX9_apart_51 rfl ?_
        refine ev_iret dX9_apart_52 rfl ?_
        exact ⟨rfl, hN⟩
    · have hP : bn (bfs (tabOf σ.1) (tabOf σ.2.1)) ≤ bapS (tabOf σ.1) (tabOf σ.2.1) := by show bn (bfs (tabOf σ.1) (tabOf σ.2.1)) ≤ bapS (tabOf σ.1) (tabOf σ.2.1); omega
      rw [if_pos (show napS (tabOf σ.1) (tabOf σ.2.1) = true by simp only [napS, decide_eq_true_eq]; exact hP)]
      refine ev_ldc (np := 34) sX9_apart_32 rfl ?_
      refine ev_iret dX9_apart_34 rfl ?_
      exact ⟨rfl, hN⟩
  · rw [if_pos (by omega)]
    refine ev_ldc (np := 7) sX9_apart_5 rfl ?_
    refine ev_iret dX9_apart_7 rfl ?_
    exact ⟨rfl, h⟩
