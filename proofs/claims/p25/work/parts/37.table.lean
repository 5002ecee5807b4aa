/-! STEP TABLES -/
/-- only cells that U names have changed -/
def Fx (U : Cc → Bool) (M N : Mem) : Prop := ∀ c, U c = false → N c = M c
theorem Fx.rf {U : Cc → Bool} {M : Mem} : Fx U M M := fun _ _ => rfl
theorem Fx.tr {U : Cc → Bool} {M N O : Mem} (a : Fx U M N) (b : Fx U N O) : Fx U M O := fun c h => (b c h).trans (a c h)
theorem Fx.mono {U V : Cc → Bool} {M N : Mem} (a : Fx U M N) (h : ∀ c, U c = true → V c = true) : Fx V M N := fun c hc => a c (by
  cases e : U c with
  | false => rfl
  | true => rw [h c e] at hc; cases hc)
theorem Fx.upd {U : Cc → Bool} {M : Mem} {c : Cc} {j : Nat} {v : Int} (h : U c = true) : Fx U M (updM M c j v) := fun d hd => by
  funext i
  unfold updM
  rw [if_neg]
  intro e
  rw [e.1, h] at hd
  cases hd
def uC (k : Fin 4) : Cc → Bool
  | .inr (.inl (k', _)) => k' == k
  | _ => false
def uT (t : Fin 3) : Cc → Bool
  | .inr (.inr (t', _)) => t' == t
  | _ => false
def uX (lo hi : Nat) : Cc → Bool
  | .inl n => decide (lo ≤ n ∧ n < hi)
  | _ => false
theorem Fr.fx {k : Fin 4} {M N : Mem} (h : Fr k M N) : Fx (uC k) M N := fun c hc => h c (fun o e => by rw [e] at hc; simp [uC] at hc)
theorem Fx.sc {U : Cc → Bool} {M N : Mem} (h : Fx U M N) {k : Fin 4} (hk : ∀ o, U (cC k o) = false) : scell N k = scell M k := by
  funext i
  simp only [scell, h _ (hk _)]
theorem Fx.circ {U : Cc → Bool} {M N : Mem} (h : Fx U M N) {k : Fin 4} (hk : ∀ o, U (cC k o) = false) {C : Circ} (hC : CircT M k C) : CircT N k C := by
  show CircS (scell N k) C
  rw [h.sc hk]
  exact hC
def TabT (M : Mem) (t : Fin 3) (T : Tab) : Prop := (∀ s, s < 16 → ∀ i, i < 4 → M (cT t 2) (4 * s + i) = (T.1 s i : Int)) ∧ (∀ s, s < 16 → M (cT t 4) s = (T.2.1 s : Int)) ∧ M (cT t 0) 2 = (T.2.2 : Int)
theorem Fx.tab {U : Cc → Bool} {M N : Mem} (h : Fx U M N) {t : Fin 3} (ht : ∀ o, U (cT t o) = false) {T : Tab} (hT : TabT M t T) : TabT N t T :=
  ⟨fun s hs i hi => by rw [h _ (ht _)]; exact hT.1 s hs i hi, fun s hs => by rw [h _ (ht _)]; exact hT.2.1 s hs, by rw [h _ (ht _)]; exact hT.2.2⟩
theorem rowB (t : Fin 3) : IsRow (cT t 1) (cT t 2) 64 := ⟨rfl, rfl, by decide⟩
theorem rowO (t : Fin 3) : IsRow (cT t 3) (cT t 4) 16 := ⟨rfl, rfl, by decide⟩
theorem sem_tFirst {M : Mem} {t : Fin 3} {T : Tab} (h : TabT M t T) : Sem ST miX7_firstState [.inr (cT t 0)] M (Ri (T.2.2 : Nat) M) := by
  refine Sem.of (by decide) ST_ok (Nat.le_of_ble_eq_true rfl) (ls0 := [some (.inr (cT t 0))]) rfl ?_
  refine ev_aload_n (np := 1) dX7_firstState_0 rfl rfl ?_
  refine ev_getI (np := 4) sX7_firstState_1 rfl rfl rfl ?_
  rw [h.2.2]
  refine ev_iret dX7_firstState_4 rfl ?_
  exact ⟨rfl, rfl⟩
theorem sem_tBehind {M : Mem} {t : Fin 3} {T : Tab} (h : TabT M t T) {s i : Nat} (hs : s < 16) (hi : i < 4) : Sem ST miX7_stateBehind [.inr (cT t 0), .inl (s : Int), .inl (i : Int)] M (Ri (T.1 s i : Nat) M) := by
  refine Sem.of (by decide) ST_ok (Nat.le_of_ble_eq_true rfl) (ls0 := [some (.inr (cT t 0)), some (.inl (s : Int)), some (.inl (i : Int))]) rfl ?_
  refine ev_aload_n (np := 1) dX7_stateBehind_0 rfl rfl ?_
  refine ev_getR (np := 4) sX7_stateBehind_1 rfl rfl rfl ?_
  refine ev_iload_n (np := 5) dX7_stateBehind_4 rfl rfl ?_
  refine ev_iconst (np := 6) dX7_stateBehind_5 rfl ?_
  refine ev_imul (np := 7) dX7_stateBehind_6 rfl ?_
  refine ev_iload_n (np := 8) dX7_stateBehind_7 rfl rfl ?_
  refine ev_iadd (np := 9) dX7_stateBehind_8 rfl ?_
  refine ev_Vi1 (np := 12) moX6_get sX7_stateBehind_9 (sem_get (rowB t) M (by omega)) rfl rfl (Nat.le_of_ble_eq_true rfl) rfl ?_
  rw [show ((s : Int) * 4 + (i : Int)).toNat = 4 * s + i by omega, h.1 s hs i hi]
  refine ev_iret dX7_stateBehind_12 rfl ?_
  exact ⟨rfl, rfl⟩
theorem sem_tOut {M : Mem} {t : Fin 3} {T : Tab} (h : TabT M t T) {s : Nat} (hs : s < 16) : Sem ST miX7_outputSet [.inr (cT t 0), .inl (s : Int)] M (Ri (T.2.1 s : Nat) M) := by
  refine Sem.of (by decide) ST_ok (Nat.le_of_ble_eq_true rfl) (ls0 := [some (.inr (cT t 0)), some (.inl (s : Int))]) rfl ?_
  refine ev_aload_n (np := 1) dX7_outputSet_0 rfl rfl ?_
  refine ev_getR (np := 4) sX7_outputSet_1 rfl rfl rfl ?_
  refine ev_iload_n (np := 5) dX7_outputSet_4 rfl rfl ?_
  refine ev_Vi1 (np := 8) moX6_get sX7_outputSet_5 (sem_get (rowO t) M (by omega)) rfl rfl (Nat.le_of_ble_eq_true rfl) rfl ?_
  rw [Int.toNat_natCast, h.2.1 s hs]
  refine ev_iret dX7_outputSet_8 rfl ?_
  exact ⟨rfl, rfl⟩
/-- fillFrom: what stands behind s whole states and i inputs of the next -/
def FillI (M : Mem) (t : Fin 3) (C : Circ) (s i : Nat) (N : Mem) : Prop := Fx (uT t) M N ∧ N (cT t 0) 2 = (fstS C : Int) ∧ (∀ m, m < 4 * s + i → N (cT t 2) m = (nxtS C (m / 4) (m % 4) : Int)) ∧ ∀ m, m < s → N (cT t 4) m = (st4 (outS C m) : Int)
theorem fill_in {M : Mem} {k : Fin 4} {t : Fin 3} {C : Circ} (hC : WF C) (h : CircT M k C) {s : Nat} (hs : s < 16) {Q : Option Val → Mem → Prop}
    (K : ∀ (N : Mem) (u v : Option Val), FillI M t C s 4 N → Ev ST miX7_fillFrom 76 [some (.inr (cT t 0)), some (.inr (cC k 0)), some (.inl (s : Int)), some (.inl (st4 (outS C s) : Nat)), u, v] [] N Q) :
    ∀ (m i : Nat) (N : Mem) (v : Option Val), i + m = 4 → FillI M t C s i N → Ev ST miX7_fillFrom 21 [some (.inr (cT t 0)), some (.inr (cC k 0)), some (.inl (s : Int)), some (.inl (acc4 (outS C s) i : Nat)), some (.inl (i : Int)), v] [] N Q := by
  intro m
  induction m with
  | zero =>
    intro i N v hi hN
    refine ev_iload (np := 23) dX7_fillFrom_21 rfl rfl ?_
    refine ev_iconst (np := 24) dX7_fillFrom_23 rfl ?_
    refine ev_icmp_ge (tgt := 76) (np := 27) dX7_fillFrom_24 (by decide) rfl (by omega) (by omega) (fun _ => ?_) (fun h => absurd (by omega) h)
    have e : i = 4 := by omega
    subst e
    rw [acc4_4 (fun r _ => out_lt C s r)]
    exact K N _ _ hN
  | succ m ih =>
    intro i N v hi hN
    obtain ⟨a1, a2, a3, a4⟩ := hN
    have hNk : CircT N k C := a1.circ (fun o => rfl) h
    have hw : wbits C s i < 65536 := wb_lt hC hs (show i < 4 by omega) (cn C) (Nat.le_refl _)
    have ho := hC.2.1
    have hl := acc4_lt (f := outS C s) (out_lt C s) i (by omega)
    refine ev_iload (np := 23) dX7_fillFrom_21 rfl rfl ?_
    refine ev_iconst (np := 24) dX7_fillFrom_23 rfl ?_
    refine ev_icmp_ge (tgt := 76) (np := 27) dX7_fillFrom_24 (by decide) rfl (by omega) (by omega) (fun h => absurd h (by omega)) (fun _ => ?_)
    refine ev_aload_n (np := 28) dX7_fillFrom_27 rfl rfl ?_
    refine ev_iload_n (np := 29) dX7_fillFrom_28 rfl rfl ?_
    refine ev_iload (np := 31) dX7_fillFrom_29 rfl rfl ?_
    refine ev_Vi2 (np := 34) moX1_wireBits sX7_fillFrom_31 (sem_wireBits hC hNk hs (i := i) (by omega)) rfl rfl (Nat.le_of_ble_eq_true rfl) rfl ?_
    refine ev_istore (np := 36) dX7_fillFrom_34 (by decide) rfl ?_
    refine ev_iload_n (np := 37) dX7_fillFrom_36 rfl rfl ?_
    refine ev_iload (np := 39) dX7_fillFrom_37 rfl rfl ?_
    refine ev_aload_n (np := 40) dX7_fillFrom_39 rfl rfl ?_
    refine ev_Vi0 (np := 43) moX1_outputWire sX7_fillFrom_40 (sem_outputWire N k) rfl rfl (Nat.le_of_ble_eq_true rfl) rfl ?_
    rw [hNk.o]
    refine ev_Ni2 (np := 46) moX9_bitOf sX7_fillFrom_43 (sem_bit N (b := wbits C s i) (p := co C) (by omega) (by omega)) (Nat.le_of_ble_eq_true rfl) rfl ?_
    refine ev_iload (np := 48) dX7_fillFrom_46 rfl rfl ?_
    refine ev_ishl (np := 49) dX7_fillFrom_48 (by omega) rfl ?_
    refine ev_ior (np := 50) dX7_fillFrom_49 (by omega) (Int.mul_nonneg (by omega) (Int.natCast_nonneg _)) rfl ?_
    rw [Int.toNat_natCast i, or_sh i]
    refine ev_istore_n (np := 51) dX7_fillFrom_50 (by decide) rfl ?_
    refine ev_aload_n (np := 52) dX7_fillFrom_51 rfl rfl ?_
    refine ev_getR (np := 55) sX7_fillFrom_52 rfl rfl rfl ?_
    refine ev_iload_n (np := 56) dX7_fillFrom_55 rfl rfl ?_
    refine ev_iconst (np := 57) dX7_fillFrom_56 rfl ?_
    refine ev_imul (np := 58) dX7_fillFrom_57 rfl ?_
    refine ev_iload (np := 60) dX7_fillFrom_58 rfl rfl ?_
    refine ev_iadd (np := 61) dX7_fillFrom_60 rfl ?_
    refine ev_aload_n (np := 62) dX7_fillFrom_61 rfl rfl ?_
    refine ev_iload (np := 64) dX7_fillFrom_62 rfl rfl ?_
    refine ev_Vi1 (np := 67) moX1_stateAfter sX7_fillFrom_64 (sem_stateAfter hC hNk hw) rfl rfl (Nat.le_of_ble_eq_true rfl) rfl ?_
    refine ev_Vv2 (np := 70) moX6_set sX7_fillFrom_67 (sem_set (rowB t) N (by omega)) rfl rfl (Nat.le_of_ble_eq_true rfl) rfl ?_
    rw [show ((s : Int) * 4 + (i : Int)).toNat = 4 * s + i by omega]
    refine ev_iinc (np := 73) dX7_fillFrom_70 rfl (by decide) rfl ?_
    refine ev_goto (np := 21) dX7_fillFrom_73 (by decide) ?_
    refine ih (i + 1) _ _ (by omega) ⟨a1.tr (Fx.upd (by simp [uT])), ?_, fun j hj => ?_, fun j hj => ?_⟩
    · rw [← a2]; simp [updM]
    · by_cases e : j = 4 * s + i
      · rw [e, updM_same, show (4 * s + i) / 4 = s by omega, show (4 * s + i) % 4 = i by omega]
        rfl
      · rw [← a3 j (by omega)]; simp [updM, e]
    · rw [← a4 j hj]; simp [updM]
theorem fill_out {M : Mem} {k : Fin 4} {t : Fin 3} {C : Circ} (hC : WF C) (h : CircT M k C) : ∀ (m s : Nat) (N : Mem) (u v w : Option Val), s + m = 16 → FillI M t C s 0 N → Ev ST miX7_fillFrom 10 [some (.inr (cT t 0)), some (.inr (cC k 0)), some (.inl (s : Int)), u, v, w] [] N (fun v N => v = none ∧ TabT N t (tabOf C) ∧ Fx (uT t) M N) := by
  intro m
  induction m with
  | zero =>
    intro s N u v w hs hN
    obtain ⟨a1, a2, a3, a4⟩ := hN
    refine ev_iload_n (np := 11) dX7_fillFrom_10 rfl rfl ?_
    refine ev_bipush (np := 13) dX7_fillFrom_11 (by decide) rfl ?_
    refine ev_icmp_ge (tgt := 91) (np := 16) dX7_fillFrom_13 (by decide) rfl (by omega) (by omega) (fun _ => ?_) (fun h => absurd (by omega) h)
    refine ev_vret dX7_fillFrom_91 rfl ?_
    refine ⟨rfl, ⟨fun j hj i hi => ?_, fun j hj => a4 j (by omega), a2⟩, a1⟩
    rw [a3 (4 * j + i) (by omega), show (4 * j + i) / 4 = j by omega, show (4 * j + i) % 4 = i by omega]
    rfl
  | succ m ih =>
    intro s N u v w hs hN
    refine ev_iload_n (np := 11) dX7_fillFrom_10 rfl rfl ?_
    refine ev_bipush (np := 13) dX7_fillFrom_11 (by decide) rfl ?_
    refine ev_icmp_ge (tgt := 91) (np := 16) dX7_fillFrom_13 (by decide) rfl (by omega) (by omega) (fun h => absurd h (by omega)) (fun _ => ?_)
    refine ev_iconst (np := 17) dX7_fillFrom_16 rfl ?_
    refine ev_istore_n (np := 18) dX7_fillFrom_17 (by decide) rfl ?_
    refine ev_iconst (np := 19) dX7_fillFrom_18 rfl ?_
    refine ev_istore (np := 21) dX7_fillFrom_19 (by decide) rfl ?_
    refine fill_in hC h (show s < 16 by omega) ?_ 4 0 N _ rfl hN
    intro N2 u2 v2 hN2
    obtain ⟨a1, a2, a3, a4⟩ := hN2
    refine ev_aload_n (np := 77) dX7_fillFrom_76 rfl rfl ?_
    refine ev_getR (np := 80) sX7_fillFrom_77 rfl rfl rfl ?_
    refine ev_iload_n (np := 81) dX7_fillFrom_80 rfl rfl ?_
    refine ev_iload_n (np := 82) dX7_fillFrom_81 rfl rfl ?_
    refine ev_Vv2 (np := 85) moX6_set sX7_fillFrom_82 (sem_set (rowO t) N2 (by omega)) rfl rfl (Nat.le_of_ble_eq_true rfl) rfl ?_
    rw [Int.toNat_natCast]
    refine ev_iinc (np := 88) dX7_fillFrom_85 rfl (by decide) rfl ?_
    refine ev_goto (np := 10) dX7_fillFrom_88 (by decide) ?_
    refine ih (s + 1) _ _ _ _ (by omega) ⟨a1.tr (Fx.upd (by simp [uT])), ?_, fun j hj => ?_, fun j hj => ?_⟩
    · rw [← a2]; simp [updM]
    · rw [← a3 j (by omega)]; simp [updM]
    · by_cases e : j = s
      · rw [e, updM_same]
      · rw [← a4 j (by omega)]; simp [updM, e]
theorem sem_fillFrom {M : Mem} {k : Fin 4} {t : Fin 3} {C : Circ} (hC : WF C) (h : CircT M k C) : Sem ST miX7_fillFrom [.inr (cT t 0), .inr (cC k 0)] M (fun v N => v = none ∧ TabT N t (tabOf C) ∧ Fx (uT t) M N) := by
  refine Sem.of (by decide) ST_ok (Nat.le_of_ble_eq_true rfl) (ls0 := [some (.inr (cT t 0)), some (.inr (cC k 0)), none, none, none, none]) rfl ?_
  refine ev_aload_n (np := 1) dX7_fillFrom_0 rfl rfl ?_
  refine ev_aload_n (np := 2) dX7_fillFrom_1 rfl rfl ?_
  refine ev_Vi0 (np := 5) moX1_firstState sX7_fillFrom_2 (sem_firstState hC h) rfl rfl (Nat.le_of_ble_eq_true rfl) rfl ?_
  refine ev_put (np := 8) sX7_fillFrom_5 rfl rfl rfl ?_
  refine ev_iconst (np := 9) dX7_fillFrom_8 rfl ?_
  refine ev_istore_n (np := 10) dX7_fillFrom_9 (by decide) rfl ?_
  exact fill_out hC h 16 0 _ _ _ _ rfl ⟨Fx.upd (by simp [uT]), by rw [updM_same], fun j hj => absurd hj (by omega), fun j hj => absurd hj (by omega)⟩
theorem sba_in {M : Mem} {t : Fin 3} {T : Tab} (hT : TWF T) (h : TabT M t T) {X s : Nat} (hX : X < 65536) (hs : s < 16) {f0 : Nat} (hf0 : f0 < 65536) {Q : Option Val → Mem → Prop}
    (K : ∀ u : Option Val, Ev ST miX7_statesBehindAny 46 [some (.inr (cT t 0)), some (.inl (X : Int)), some (.inl ((if bt X s = 1 then sbI T s 4 f0 else f0 : Nat) : Int)), some (.inl (s : Int)), u] [] M Q) :
    ∀ (m i : Nat), i + m = 4 → (bt X s = 1 ∨ i = 0) → Ev ST miX7_statesBehindAny 13 [some (.inr (cT t 0)), some (.inl (X : Int)), some (.inl ((sbI T s i f0 : Nat) : Int)), some (.inl (s : Int)), some (.inl (i : Int))] [] M Q := by
  have hb := bt_lt X s
  intro m
  induction m with
  | zero =>
    intro i hi hc
    refine ev_iload (np := 15) dX7_statesBehindAny_13 rfl rfl ?_
    refine ev_iconst (np := 16) dX7_statesBehindAny_15 rfl ?_
    refine ev_icmp_ge (tgt := 46) (np := 19) dX7_statesBehindAny_16 (by decide) rfl (by omega) (by omega) (fun _ => ?_) (fun h => absurd (by omega) h)
    have := K (some (.inl (i : Int)))
    rw [if_pos (hc.resolve_right (by omega))] at this
    rw [show i = 4 by omega] at this ⊢
    exact this
  | succ m ih =>
    intro i hi hc
    have hl := sbI_lt (s := s) hT i f0 hf0
    refine ev_iload (np := 15) dX7_statesBehindAny_13 rfl rfl ?_
    refine ev_iconst (np := 16) dX7_statesBehindAny_15 rfl ?_
    refine ev_icmp_ge (tgt := 46) (np := 19) dX7_statesBehindAny_16 (by decide) rfl (by omega) (by omega) (fun h => absurd h (by omega)) (fun _ => ?_)
    refine ev_iload_n (np := 20) dX7_statesBehindAny_19 rfl rfl ?_
    refine ev_iload_n (np := 21) dX7_statesBehindAny_20 rfl rfl ?_
    refine ev_Ni2 (np := 24) moX9_bitOf sX7_statesBehindAny_21 (sem_bit M (b := X) (p := s) (by omega) (by omega)) (Nat.le_of_ble_eq_true rfl) rfl ?_
    refine ev_iconst (np := 25) dX7_statesBehindAny_24 rfl ?_
    refine ev_icmp_ne (tgt := 46) (np := 28) dX7_statesBehindAny_25 (by decide) rfl (by omega) (by omega) (fun h1 => ?_) (fun h1 => ?_)
    · have e : i = 0 := hc.resolve_left (by omega)
      subst e
      have := K (some (.inl ((0 : Nat) : Int)))
      rw [if_neg (by omega)] at this
      exact this
    · refine ev_iload_n (np := 29) dX7_statesBehindAny_28 rfl rfl ?_
      refine ev_iconst (np := 30) dX7_statesBehindAny_29 rfl ?_
      refine ev_aload_n (np := 31) dX7_statesBehindAny_30 rfl rfl ?_
      refine ev_iload_n (np := 32) dX7_statesBehindAny_31 rfl rfl ?_
      refine ev_iload (np := 34) dX7_statesBehindAny_32 rfl rfl ?_
      refine ev_Vi2 (np := 37) moX7_stateBehind sX7_statesBehindAny_34 (sem_tBehind h hs (i := i) (by omega)) rfl rfl (Nat.le_of_ble_eq_true rfl) rfl ?_
      have hx := hT.1 s i
      refine ev_ishl (np := 38) dX7_statesBehindAny_37 (by omega) rfl ?_
      refine ev_ior (np := 39) dX7_statesBehindAny_38 (by omega) (Int.mul_nonneg (by omega) (Int.natCast_nonneg _)) rfl ?_
      rw [Int.toNat_natCast (T.1 s i), show (((sbI T s i f0 : Int)).toNat ||| ((1 : Int) * ((2 ^ T.1 s i : Nat) : Int)).toNat : Nat) = sbI T s (i + 1) f0 by rw [Int.toNat_natCast, Int.one_mul, Int.toNat_natCast]; rfl]
      refine ev_istore_n (np := 40) dX7_statesBehindAny_39 (by decide) rfl ?_
      refine ev_iinc (np := 43) dX7_statesBehindAny_40 rfl (by decide) rfl ?_
      refine ev_goto (np := 13) dX7_statesBehindAny_43 (by decide) ?_
      exact ih (i + 1) (by omega) (Or.inl (by omega))
theorem sba_out {M : Mem} {t : Fin 3} {T : Tab} (hT : TWF T) (h : TabT M t T) {X : Nat} (hX : X < 65536) : ∀ (m s : Nat) (u : Option Val), s + m = 16 → Ev ST miX7_statesBehindAny 4 [some (.inr (cT t 0)), some (.inl (X : Int)), some (.inl ((sbS T X s : Nat) : Int)), some (.inl (s : Int)), u] [] M (Ri (sbS T X 16 : Nat) M) := by
  intro m
  induction m with
  | zero =>
    intro s u hs
    refine ev_iload_n (np := 5) dX7_statesBehindAny_4 rfl rfl ?_
    refine ev_bipush (np := 7) dX7_statesBehindAny_5 (by decide) rfl ?_
    refine ev_icmp_ge (tgt := 52) (np := 10) dX7_statesBehindAny_7 (by decide) rfl (by omega) (by omega) (fun _ => ?_) (fun h => absurd (by omega) h)
    refine ev_iload_n (np := 53) dX7_statesBehindAny_52 rfl rfl ?_
    refine ev_iret dX7_statesBehindAny_53 rfl ?_
    exact ⟨by rw [show s = 16 by omega], rfl⟩
  | succ m ih =>
    intro s u hs
    refine ev_iload_n (np := 5) dX7_statesBehindAny_4 rfl rfl ?_
    refine ev_bipush (np := 7) dX7_statesBehindAny_5 (by decide) rfl ?_
    refine ev_icmp_ge (tgt := 52) (np := 10) dX7_statesBehindAny_7 (by decide) rfl (by omega) (by omega) (fun h => absurd h (by omega)) (fun _ => ?_)
    refine ev_iconst (np := 11) dX7_statesBehindAny_10 rfl ?_
    refine ev_istore (np := 13) dX7_statesBehindAny_11 (by decide) rfl ?_
    refine sba_in hT h hX (show s < 16 by omega) (sbS_lt hT s) ?_ 4 0 rfl (Or.inr rfl)
    intro u2
    refine ev_iinc (np := 49) dX7_statesBehindAny_46 rfl (by decide) rfl ?_
    refine ev_goto (np := 4) dX7_statesBehindAny_49 (by decide) ?_
    exact ih (s + 1) _ (by omega)
theorem sem_sba {M : Mem} {t : Fin 3} {T : Tab} (hT : TWF T) (h : TabT M t T) {X : Nat} (hX : X < 65536) : Sem ST miX7_statesBehindAny [.inr (cT t 0), .inl (X : Int)] M (Ri (sbS T X 16 : Nat) M) := by
  refine Sem.of (by decide) ST_ok (Nat.le_of_ble_eq_true rfl) (ls0 := [some (.inr (cT t 0)), some (.inl (X : Int)), none, none, none]) rfl ?_
  refine ev_iconst (np := 1) dX7_statesBehindAny_0 rfl ?_
  refine ev_istore_n (np := 2) dX7_statesBehindAny_1 (by decide) rfl ?_
  refine ev_iconst (np := 3) dX7_statesBehindAny_2 rfl ?_
  refine ev_istore_n (np := 4) dX7_statesBehindAny_3 (by decide) rfl ?_
  exact sba_out hT h hX 16 0 none rfl
theorem sct_loop {M : Mem} {t : Fin 3} {T : Tab} (hT : TWF T) (h : TabT M t T) : ∀ (m r : Nat), r + m = 16 → Ev ST miX7_statesComeTo 9 [some (.inr (cT t 0)), some (.inl ((sct T r : Nat) : Int)), some (.inl (r : Int))] [] M (Ri (sct T 16 : Nat) M) := by
  intro m
  induction m with
  | zero =>
    intro r hr
    refine ev_iload_n (np := 10) dX7_statesComeTo_9 rfl rfl ?_
    refine ev_bipush (np := 12) dX7_statesComeTo_10 (by decide) rfl ?_
    refine ev_icmp_ge (tgt := 29) (np := 15) dX7_statesComeTo_12 (by decide) rfl (by omega) (by omega) (fun _ => ?_) (fun h => absurd (by omega) h)
    refine ev_iload_n (np := 30) dX7_statesComeTo_29 rfl rfl ?_
    refine ev_iret dX7_statesComeTo_30 rfl ?_
    exact ⟨by rw [show r = 16 by omega], rfl⟩
  | succ m ih =>
    intro r hr
    have h1 := sct_lt hT r
    have h2 := sbS_lt (X := sct T r) hT 16
    refine ev_iload_n (np := 10) dX7_statesComeTo_9 rfl rfl ?_
    refine ev_bipush (np := 12) dX7_statesComeTo_10 (by decide) rfl ?_
    refine ev_icmp_ge (tgt := 29) (np := 15) dX7_statesComeTo_12 (by decide) rfl (by omega) (by omega) (fun h => absurd h (by omega)) (fun _ => ?_)
    refine ev_iload_n (np := 16) dX7_statesComeTo_15 rfl rfl ?_
    refine ev_aload_n (np := 17) dX7_statesComeTo_16 rfl rfl ?_
    refine ev_iload_n (np := 18) dX7_statesComeTo_17 rfl rfl ?_
    refine ev_Vi1 (np := 21) moX7_statesBehindAny sX7_statesComeTo_18 (sem_sba hT h h1) rfl rfl (Nat.le_of_ble_eq_true rfl) rfl ?_
    refine ev_ior (np := 22) dX7_statesComeTo_21 (by omega) (by omega) rfl ?_
    rw [Int.toNat_natCast, Int.toNat_natCast]
    refine ev_istore_n (np := 23) dX7_statesComeTo_22 (by decide) rfl ?_
    refine ev_iinc (np := 26) dX7_statesComeTo_23 rfl (by decide) rfl ?_
    refine ev_goto (np := 9) dX7_statesComeTo_26 (by decide) ?_
    exact ih (r + 1) (by omega)
theorem sem_sct {M : Mem} {t : Fin 3} {T : Tab} (hT : TWF T) (h : TabT M t T) : Sem ST miX7_statesComeTo [.inr (cT t 0)] M (Ri (sct T 16 : Nat) M) := by
  refine Sem.of (by decide) ST_ok (Nat.le_of_ble_eq_true rfl) (ls0 := [some (.inr (cT t 0)), none, none]) rfl ?_
  have h0 := hT.2.2
  refine ev_iconst (np := 1) dX7_statesComeTo_0 rfl ?_
  refine ev_aload_n (np := 2) dX7_statesComeTo_1 rfl rfl ?_
  refine ev_getI (np := 5) sX7_statesComeTo_2 rfl rfl rfl ?_
  rw [h.2.2]
  refine ev_ishl (np := 6) dX7_statesComeTo_5 (by omega) rfl ?_
  rw [Int.toNat_natCast, Int.one_mul]
  refine ev_istore_n (np := 7) dX7_statesComeTo_6 (by decide) rfl ?_
  refine ev_iconst (np := 8) dX7_statesComeTo_7 rfl ?_
  refine ev_istore_n (np := 9) dX7_statesComeTo_8 (by decide) rfl ?_
  exact sct_loop hT h 16 0 rfl
theorem chg_loop {M : Mem} {t : Fin 3} {T : Tab} (hT : TWF T) (h : TabT M t T) {X : Nat} (hX : X < 65536) : ∀ (m s : Nat), s + m = 16 → Ev ST miX7_steadyRegisters 4 [some (.inr (cT t 0)), some (.inl (X : Int)), some (.inl ((chg T X s : Nat) : Int)), some (.inl (s : Int))] [] M (Ri ((15 - (15 &&& chg T X 16) : Nat)) M) := by
  intro m
  induction m with
  | zero =>
    intro s hs
    have h1 := chg_lt (X := X) hT s (by omega)
    refine ev_iload_n (np := 5) dX7_steadyRegisters_4 rfl rfl ?_
    refine ev_bipush (np := 7) dX7_steadyRegisters_5 (by decide) rfl ?_
    refine ev_icmp_ge (tgt := 34) (np := 10) dX7_steadyRegisters_7 (by decide) rfl (by omega) (by omega) (fun _ => ?_) (fun h => absurd (by omega) h)
    refine ev_bipush (np := 36) dX7_steadyRegisters_34 (by decide) rfl ?_
    refine ev_iload_n (np := 37) dX7_steadyRegisters_36 rfl rfl ?_
    refine ev_iconst (np := 38) dX7_steadyRegisters_37 rfl ?_
    refine ev_inot (np := 39) dX7_steadyRegisters_38 rfl ?_
    refine ev_iandn (np := 40) dX7_steadyRegisters_39 (by omega) (by omega) rfl ?_
    refine ev_iret dX7_steadyRegisters_40 rfl ?_
    exact ⟨by rw [Int.toNat_natCast, show s = 16 by omega]; rfl, rfl⟩
  | succ m ih =>
    intro s hs
    have h1 := chg_lt (X := X) hT s (by omega)
    have h2 := hT.2.2
    have hb := bt_lt X s
    refine ev_iload_n (np := 5) dX7_steadyRegisters_4 rfl rfl ?_
    refine ev_bipush (np := 7) dX7_steadyRegisters_5 (by decide) rfl ?_
    refine ev_icmp_ge (tgt := 34) (np := 10) dX7_steadyRegisters_7 (by decide) rfl (by omega) (by omega) (fun h => absurd h (by omega)) (fun _ => ?_)
    refine ev_iload_n (np := 11) dX7_steadyRegisters_10 rfl rfl ?_
    refine ev_iload_n (np := 12) dX7_steadyRegisters_11 rfl rfl ?_
    refine ev_Ni2 (np := 15) moX9_bitOf sX7_steadyRegisters_12 (sem_bit M (b := X) (p := s) (by omega) (by omega)) (Nat.le_of_ble_eq_true rfl) rfl ?_
    refine ev_iconst (np := 16) dX7_steadyRegisters_15 rfl ?_
    refine ev_icmp_ne (tgt := 28) (np := 19) dX7_steadyRegisters_16 (by decide) rfl (by omega) (by omega) (fun hq => ?_) (fun hq => ?_)
    · refine ev_iinc (np := 31) dX7_steadyRegisters_28 rfl (by decide) rfl ?_
      refine ev_goto (np := 4) dX7_steadyRegisters_31 (by decide) ?_
      have := ih (s + 1) (by omega)
      rw [show chg T X (s + 1) = chg T X s by rw [chg, if_neg (by omega)]] at this
      exact this
    · refine ev_iload_n (np := 20) dX7_steadyRegisters_19 rfl rfl ?_
      refine ev_iload_n (np := 21) dX7_steadyRegisters_20 rfl rfl ?_
      refine ev_aload_n (np := 22) dX7_steadyRegisters_21 rfl rfl ?_
      refine ev_getI (np := 25) sX7_steadyRegisters_22 rfl rfl rfl ?_
      rw [h.2.2]
      refine ev_ixor (np := 26) dX7_steadyRegisters_25 (by omega) (by omega) rfl ?_
      refine ev_ior (np := 27) dX7_steadyRegisters_26 (by omega) (Int.natCast_nonneg _) rfl ?_
      rw [Int.toNat_natCast, Int.toNat_natCast, Int.toNat_natCast, Int.toNat_natCast]
      refine ev_istore_n (np := 28) dX7_steadyRegisters_27 (by decide) rfl ?_
      refine ev_iinc (np := 31) dX7_steadyRegisters_28 rfl (by decide) rfl ?_
      refine ev_goto (np := 4) dX7_steadyRegisters_31 (by decide) ?_
      have := ih (s + 1) (by omega)
      rw [show chg T X (s + 1) = chg T X s ||| (s ^^^ T.2.2) by rw [chg, if_pos (by omega)]] at this
      exact this
theorem sem_steadyT {M : Mem} {t : Fin 3} {T : Tab} (hT : TWF T) (h : TabT M t T) {X : Nat} (hX : X < 65536) : Sem ST miX7_steadyRegisters [.inr (cT t 0), .inl (X : Int)] M (Ri ((15 - (15 &&& chg T X 16) : Nat)) M) := by
  refine Sem.of (by decide) ST_ok (Nat.le_of_ble_eq_true rfl) (ls0 := [some (.inr (cT t 0)), some (.inl (X : Int)), none, none]) rfl ?_
  refine ev_iconst (np := 1) dX7_steadyRegisters_0 rfl ?_
  refine ev_istore_n (np := 2) dX7_steadyRegisters_1 (by decide) rfl ?_
  refine ev_iconst (np := 3) dX7_steadyRegisters_2 rfl ?_
  refine ev_istore_n (np := 4) dX7_steadyRegisters_3 (by decide) rfl ?_
  exact chg_loop hT h hX 16 0 rfl
