/-! A WHOLE TEXT, in the reference -/
theorem pStep_go {x : Txt} {s : Pst} (h : (pStep x s).2.1 = 0) : s.1 < (pStep x s).1 := by
  revert h
  unfold pStep
  split
  · unfold pReg
    split
    · split
      · intro h; cases h
      · intro _; show s.1 < s.1 + 5; omega
    · intro h; cases h
  · split
    · unfold pOut
      split
      · split
        · intro h; cases h
        · intro _; show s.1 < s.1 + 3; omega
      · intro h; cases h
    · unfold pGate
      split
      · split
        · intro h; cases h
        · split
          · intro _; show s.1 < s.1 + 4; omega
          · intro h; cases h
      · intro h; cases h
theorem pAll_stay {x : Txt} : ∀ f s, ¬ (s.2.1 = 0 ∧ s.1 < x.1) → pAll x f s = s := by
  intro f s h
  cases f with
  | zero => rfl
  | succ f => unfold pAll; rw [if_neg h]
abbrev faP (M : Mem) (r : Pst) : Option Val → Mem → Prop := fun v N => v = some (.inl (if r.2.1 = 0 then -1000004 else (r.1 : Int))) ∧ (r.2.1 ≠ 0 → N (cX 0) 6 = (r.2.1 : Int)) ∧ RefC (N (cX 5)) r.2.2.2 ∧ Fy (uM [5] [6, 7, 9]) M N
theorem mfaulty_loop {M : Mem} {x : Txt} (hw : XW x) (hx : TxM M x) : ∀ (f : Nat) (s : Pst) (N : Mem) (u : Option Val), s.2.1 = 0 → PI x s → x.1 ≤ s.1 + f → PsM N s → Fy (uM [5] [6, 7, 9]) M N → Ev SM miX10_faulty 18 [some (.inr (cX 0)), u] [] N (faP M (pAll x f s)) := by
  have l1 := hw.1
  have fin : ∀ (s : Pst) (N : Mem) (u : Option Val), s.2.1 = 0 → PI x s → ¬ s.1 < x.1 → PsM N s → Fy (uM [5] [6, 7, 9]) M N → Ev SM miX10_faulty 18 [some (.inr (cX 0)), u] [] N (faP M s) := by
    intro s N u h0 hi hl hs hf
    have hxN := hx.fy hf rfl rfl
    have hi1 := hi.1
    refine ev_aload_n (np := 19) dX10_faulty_18 rfl rfl ?_
    refine ev_getI (np := 22) sX10_faulty_19 rfl rfl rfl ?_
    rw [hs.1]
    refine ev_aload_n (np := 23) dX10_faulty_22 rfl rfl ?_
    refine ev_getI (np := 26) sX10_faulty_23 rfl rfl rfl ?_
    rw [hxN.1]
    refine ev_icmp_ge (tgt := 106) (np := 29) dX10_faulty_26 (by decide) rfl (by omega) (by omega) (fun _ => ?_) (fun h => absurd (by omega) h)
    refine ev_ldc (np := 108) sX10_faulty_106 rfl ?_
    refine ev_iret dX10_faulty_108 rfl ?_
    exact ⟨by rw [if_pos h0], fun h => absurd h0 h, hs.2.2, hf⟩
  intro f
  induction f with
  | zero =>
    intro s N u h0 hi hl hs hf
    exact fin s N u h0 hi (by omega) hs hf
  | succ f ih =>
    intro s N u h0 hi hl hs hf
    by_cases g : s.1 < x.1
    · have hxN := hx.fy hf rfl rfl
      have sr := sgn_rng hw s.1
      have q114 := sgn_eq (x := x) (p := s.1) (c := 114) (by decide)
      have q111 := sgn_eq (x := x) (p := s.1) (c := 111) (by decide)
      have qd := sgn_dg (x := x) (p := s.1) (k := 5) (by decide)
      have hst := pStep_i hi
      have hgo := pStep_go (x := x) (s := s)
      rw [show pAll x (f + 1) s = pAll x f (pStep x s) by
        show (if s.2.1 = 0 ∧ s.1 < x.1 then _ else s) = _
        rw [if_pos ⟨h0, g⟩]]
      have at88 : ∀ (N2 : Mem) (u : Option Val), PsM N2 (pStep x s) → Fy (uM [5] [6, 7, 9]) M N2 → Ev SM miX10_faulty 88 [some (.inr (cX 0)), u] [.inl ((pStep x s).2.1 : Int), .inr (cX 0)] N2 (faP M (pAll x f (pStep x s))) := by
        intro N2 u hs2 hf2
        have r4 := hst.2.1
        refine ev_put (np := 91) sX10_faulty_88 rfl rfl rfl ?_
        refine ev_aload_n (np := 92) dX10_faulty_91 rfl rfl ?_
        refine ev_getI (np := 95) sX10_faulty_92 rfl rfl rfl ?_
        rw [updM_same]
        have f3 : Fy (uM [] [6]) N2 (updM N2 (cX 0) 6 ((pStep x s).2.1 : Int)) := Fy.upd rfl
        have hs3 : PsM (updM N2 (cX 0) 6 ((pStep x s).2.1 : Int)) (pStep x s) := by
          unfold PsM
          rw [f3.fld (j := 7) (by decide), f3.fld (j := 9) (by decide), f3.arr (n := 5) (by decide)]
          exact hs2
        refine ev_if_le (tgt := 103) (np := 98) dX10_faulty_95 (by decide) rfl (by omega) (fun g2 => ?_) (fun g2 => ?_)
        · refine ev_goto (np := 18) dX10_faulty_103 (by decide) ?_
          exact ih (pStep x s) _ _ (by omega) hst (by have := hgo (by omega); omega) hs3 (hf2.tr (f3.le (by decide)))
        · rw [pAll_stay f (pStep x s) (by omega)]
          have hp := hst.1
          refine ev_aload_n (np := 99) dX10_faulty_98 rfl rfl ?_
          refine ev_getI (np := 102) sX10_faulty_99 rfl rfl rfl ?_
          rw [hs3.1]
          refine ev_iret dX10_faulty_102 rfl ?_
          exact ⟨by rw [if_neg (by omega)], fun _ => updM_same _ _ _ _, hs3.2.2, hf2.tr (f3.le (by decide))⟩
      refine ev_aload_n (np := 19) dX10_faulty_18 rfl rfl ?_
      refine ev_getI (np := 22) sX10_faulty_19 rfl rfl rfl ?_
      rw [hs.1]
      refine ev_aload_n (np := 23) dX10_faulty_22 rfl rfl ?_
      refine ev_getI (np := 26) sX10_faulty_23 rfl rfl rfl ?_
      rw [hxN.1]
      refine ev_icmp_ge (tgt := 106) (np := 29) dX10_faulty_26 (by decide) rfl (by omega) (by omega) (fun h => absurd h (by omega)) (fun _ => ?_)
      refine ev_aload_n (np := 30) dX10_faulty_29 rfl rfl ?_
      refine ev_aload_n (np := 31) dX10_faulty_30 rfl rfl ?_
      refine ev_getI (np := 34) sX10_faulty_31 rfl rfl rfl ?_
      rw [hs.1]
      refine ev_Vi1 (np := 37) moX10_sign sX10_faulty_34 (sem_sign hw hxN (p := s.1) (by omega)) rfl rfl (Nat.le_of_ble_eq_true rfl) rfl ?_
      refine ev_istore_n (np := 38) dX10_faulty_37 (by decide) rfl ?_
      refine ev_aload_n (np := 39) dX10_faulty_38 rfl rfl ?_
      refine ev_iload_n (np := 40) dX10_faulty_39 rfl rfl ?_
      refine ev_bipush (np := 42) dX10_faulty_40 (by decide) rfl ?_
      refine ev_icmp_ne (tgt := 52) (np := 45) dX10_faulty_42 (by decide) rfl (by omega) (by omega) (fun g1 => ?_) (fun g1 => ?_)
      · refine ev_iload_n (np := 53) dX10_faulty_52 rfl rfl ?_
        refine ev_bipush (np := 55) dX10_faulty_53 (by decide) rfl ?_
        refine ev_icmp_ne (tgt := 65) (np := 58) dX10_faulty_55 (by decide) rfl (by omega) (by omega) (fun g2 => ?_) (fun g2 => ?_)
        · have ep : pStep x s = pGate x s := by rw [pStep, if_neg (fun h => g1 (q114.mpr h)), if_neg (fun h => g2 (q111.mpr h))]
          refine ev_iload_n (np := 66) dX10_faulty_65 rfl rfl ?_
          refine ev_bipush (np := 68) dX10_faulty_66 (by decide) rfl ?_
          refine ev_bipush (np := 70) dX10_faulty_68 (by decide) rfl ?_
          by_cases g3 : 48 ≤ sgn x s.1 ∧ sgn x s.1 ≤ 53
          · have v := sgn_val (x := x) (p := s.1) (by omega)
            obtain ⟨k, hk⟩ := Int.eq_ofNat_of_zero_le (show 0 ≤ sgn x s.1 - 48 by omega)
            refine ev_Si3 (np := 73) moX10_in sX10_faulty_70 (sem_in_t N (by omega) (by omega) (by omega) g3) (Nat.le_of_ble_eq_true rfl) rfl ?_
            refine ev_if_eq (tgt := 87) (np := 76) dX10_faulty_73 (by decide) rfl (by omega) (fun h => absurd h (by omega)) (fun _ => ?_)
            refine ev_aload_n (np := 77) dX10_faulty_76 rfl rfl ?_
            refine ev_iload_n (np := 78) dX10_faulty_77 rfl rfl ?_
            refine ev_bipush (np := 80) dX10_faulty_78 (by decide) rfl ?_
            refine ev_isub (np := 81) dX10_faulty_80 rfl ?_
            rw [hk]
            refine ev_V1 (np := 84) moX10_doesGate sX10_faulty_81 (sem_doesGate hw hxN hs hi h0 (k := k) (by omega) (by omega) ) rfl rfl (Nat.le_of_ble_eq_true rfl) rfl (fun v3 N3 hq => ?_)
            obtain ⟨rfl, q2, q3⟩ := hq
            rw [← ep] at q2 ⊢
            refine ev_goto (np := 88) dX10_faulty_84 (by decide) ?_
            exact at88 N3 _ q2 (hf.tr (q3.le (by decide)))
          · have ep2 : pStep x s = (s.1, 1, s.2.2.1, s.2.2.2) := by rw [ep, pGate, if_neg (fun h => g3 (by have := qd.mpr h.1; omega))]
            refine ev_Si3 (np := 73) moX10_in sX10_faulty_70 (sem_in_f N (by omega) (by omega) (by omega) g3) (Nat.le_of_ble_eq_true rfl) rfl ?_
            refine ev_if_eq (tgt := 87) (np := 76) dX10_faulty_73 (by decide) rfl (by omega) (fun _ => ?_) (fun h => absurd (by omega) h)
            refine ev_iconst (np := 88) dX10_faulty_87 rfl ?_
            have K := at88 N (some (.inl (sgn x s.1))) (by rw [ep2]; exact hs) hf
            have e1 : (pStep x s).2.1 = 1 := by rw [ep2]
            rw [e1] at K
            exact K
        · have ep : pStep x s = pOut x s := by rw [pStep, if_neg (fun h => g1 (q114.mpr h)), if_pos (q111.mp (by omega))]
          refine ev_aload_n (np := 59) dX10_faulty_58 rfl rfl ?_
          refine ev_V0 (np := 62) moX10_doesOutput sX10_faulty_59 (sem_doesOutput hw hxN hs hi h0 ) rfl rfl (Nat.le_of_ble_eq_true rfl) rfl (fun v3 N3 hq => ?_)
          obtain ⟨rfl, q2, q3⟩ := hq
          rw [← ep] at q2 ⊢
          refine ev_goto (np := 88) dX10_faulty_62 (by decide) ?_
          exact at88 N3 _ q2 (hf.tr (q3.le (by decide)))
      · have ep : pStep x s = pReg x s := by rw [pStep, if_pos (q114.mp (by omega))]
        refine ev_aload_n (np := 46) dX10_faulty_45 rfl rfl ?_
        refine ev_V0 (np := 49) moX10_doesRegister sX10_faulty_46 (sem_doesRegister hw hxN hs hi h0 ) rfl rfl (Nat.le_of_ble_eq_true rfl) rfl (fun v3 N3 hq => ?_)
        obtain ⟨rfl, q2, q3⟩ := hq
        rw [← ep] at q2 ⊢
        refine ev_goto (np := 88) dX10_faulty_49 (by decide) ?_
        exact at88 N3 _ q2 (hf.tr (q3.le (by decide)))
    · rw [pAll_stay (f + 1) s (fun h => g h.2)]
      exact fin s N u h0 hi g hs hf
theorem sem_mfaulty {M : Mem} {x : Txt} (hw : XW x) (hx : TxM M x) : Sem SM miX10_faulty [.inr (cX 0)] M (faP M (parse x)) := by
  refine Sem.of (by decide) SM_ok (Nat.le_of_ble_eq_true rfl) (ls0 := [some (.inr (cX 0)), none]) rfl ?_
  have l1 := hw.1
  refine ev_aload_n (np := 1) dX10_faulty_0 rfl rfl ?_
  refine ev_getR (np := 4) sX10_faulty_1 rfl rfl rfl ?_
  refine ev_iconst (np := 5) dX10_faulty_4 rfl ?_
  refine ev_S2 (np := 8) moX10_lays sX10_faulty_5 (sem_lays (M := M) (a := 5) (sz := 34) (base := 0) (by decide) rfl (by decide) (by decide) ) (Nat.le_of_ble_eq_true rfl) rfl (fun v N hq => ?_)
  obtain ⟨rfl, h1, h2⟩ := hq
  have fN : Fy (uM [5] []) M N := fun c j hc => h1 c j (by
    by_cases e : c = cX 5
    · rw [e] at hc; cases hc
    · exact Or.inl e)
  refine ev_aload_n (np := 9) dX10_faulty_8 rfl rfl ?_
  refine ev_iconst (np := 10) dX10_faulty_9 rfl ?_
  refine ev_put (np := 13) sX10_faulty_10 rfl rfl rfl ?_
  refine ev_aload_n (np := 14) dX10_faulty_13 rfl rfl ?_
  refine ev_iconst (np := 15) dX10_faulty_14 rfl ?_
  refine ev_put (np := 18) sX10_faulty_15 rfl rfl rfl ?_
  refine mfaulty_loop hw hx 80 p0 _ _ rfl (p0_i x) (by show x.1 ≤ 0 + 80; omega) ⟨by rw [updM_same]; rfl, by simp [updM]; rfl, ?_⟩ (((fN.le (by decide)).tr (Fy.upd rfl)).tr (Fy.upd rfl))
  refine lv_new (fun q hq => ?_)
  have := h2 q hq
  rw [Nat.zero_add] at this
  rw [← this]
  simp [updM]
theorem sem_mfault {M : Mem} {σ : Sg} (hW : SgW σ) (h : InvM M σ) {w : Int} (hw : Rng w) : Sem SM miX10_fault [.inr (cX 0), .inl w] M (fun v N => v = some (.inl (spFault σ w)) ∧ InvM N σ) := by
  refine Sem.of (by decide) SM_ok (Nat.le_of_ble_eq_true rfl) (ls0 := [some (.inr (cX 0)), some (.inl w), none]) rfl ?_
  have hx := hW.2.2.2
  have hp := parse_i σ.2.2.2
  have l1 := hx.1
  refine ev_iload_n (np := 1) dX10_fault_0 rfl rfl ?_
  refine ev_iconst (np := 2) dX10_fault_1 rfl ?_
  refine ev_iconst (np := 3) dX10_fault_2 rfl ?_
  by_cases g1 : 0 ≤ w ∧ w ≤ 1
  · rw [spFault, if_pos g1]
    obtain ⟨p1, p2, p3, p4⟩ := hp
    refine ev_Si3 (np := 6) moX10_in sX10_fault_3 (sem_in_t M hw (by omega) (by omega) g1) (Nat.le_of_ble_eq_true rfl) rfl ?_
    refine ev_if_ne (tgt := 12) (np := 9) dX10_fault_6 (by decide) rfl (by omega) (fun _ => ?_) (fun h => absurd h (by omega))
    refine ev_aload_n (np := 13) dX10_fault_12 rfl rfl ?_
    refine ev_V0 (np := 16) moX10_faulty sX10_fault_13 (sem_mfaulty hx h.2.2.2 ) rfl rfl (Nat.le_of_ble_eq_true rfl) rfl (fun v N hq => ?_)
    obtain ⟨rfl, q1, q2, q3⟩ := hq
    have hI := h.scr (q3.le (by decide))
    generalize parse σ.2.2.2 = r at *
    by_cases e : r.2.1 = 0
    · rw [if_pos e, if_pos e]
      refine ev_istore_n (np := 17) dX10_fault_16 (by decide) rfl ?_
      refine ev_iload_n (np := 18) dX10_fault_17 rfl rfl ?_
      refine ev_ldc (np := 20) sX10_fault_18 rfl ?_
      refine ev_icmp_eq (tgt := 27) (np := 23) dX10_fault_20 (by decide) rfl (by omega) (by omega) (fun _ => ?_) (fun h => absurd (by omega) h)
      refine ev_iload_n (np := 28) dX10_fault_27 rfl rfl ?_
      refine ev_goto (np := 35) dX10_fault_28 (by decide) ?_
      refine ev_iret dX10_fault_35 rfl ?_
      exact ⟨rfl, hI⟩
    · rw [if_neg e, if_neg e]
      refine ev_istore_n (np := 17) dX10_fault_16 (by decide) rfl ?_
      refine ev_iload_n (np := 18) dX10_fault_17 rfl rfl ?_
      refine ev_ldc (np := 20) sX10_fault_18 rfl ?_
      refine ev_icmp_eq (tgt := 27) (np := 23) dX10_fault_20 (by decide) rfl (by omega) (by omega) (fun h => absurd h (by omega)) (fun _ => ?_)
      refine ev_iload_n (np := 24) dX10_fault_23 rfl rfl ?_
      refine ev_if_ne (tgt := 31) (np := 27) dX10_fault_24 (by decide) rfl (by omega) (fun g2 => ?_) (fun g2 => ?_)
      · rw [if_neg (by omega)]
        refine ev_aload_n (np := 32) dX10_fault_31 rfl rfl ?_
        refine ev_getI (np := 35) sX10_fault_32 rfl rfl rfl ?_
        rw [q1 e]
        refine ev_iret dX10_fault_35 rfl ?_
        exact ⟨rfl, hI⟩
      · rw [if_pos (by omega)]
        refine ev_iload_n (np := 28) dX10_fault_27 rfl rfl ?_
        refine ev_goto (np := 35) dX10_fault_28 (by decide) ?_
        refine ev_iret dX10_fault_35 rfl ?_
        exact ⟨rfl, hI⟩
  · rw [spFault, if_neg g1]
    refine ev_Si3 (np := 6) moX10_in sX10_fault_3 (sem_in_f M hw (by omega) (by omega) g1) (Nat.le_of_ble_eq_true rfl) rfl ?_
    refine ev_if_ne (tgt := 12) (np := 9) dX10_fault_6 (by decide) rfl (by omega) (fun h => absurd (by omega) h) (fun _ => ?_)
    refine ev_ldc (np := 11) sX10_fault_9 rfl ?_
    refine ev_iret dX10_fault_11 rfl ?_
    exact ⟨rfl, h⟩
theorem mread_loop {M N1 : Mem} {σ : Sg} (hW : SgW σ) (h : InvM M σ) {b : Nat} (hb : b ≤ 1) {C : Circ} (hC : WF C) (r5 : RefC (N1 (cX 5)) C) (f1 : Fy (uM [3] []) M N1) (bg : ∀ q, q < 68 → N1 (cX 3) q = M (cX 1) q) : ∀ (m i : Nat) (N : Mem), i + m = 34 → Fy (uM [1] []) N1 N → (∀ j, (j < 34 * b ∨ 34 * b + 34 ≤ j) → N (cX 1) j = M (cX 1) j) → (∀ q, q < i → N (cX 1) (34 * b + q) = N1 (cX 5) q) → Ev SM miX10_read 30 [some (.inr (cX 0)), some (.inl (b : Int)), some (.inl (i : Int))] [] N (fun v N => v = some (.inl (cn C : Nat)) ∧ InvM N (put (b : Int) C (rec1 σ))) := by
  have hn := hC.1
  intro m
  induction m with
  | zero =>
    intro i N hi hf ho hd
    have e5 := hf.arr (n := 5) (by decide)
    refine ev_iload_n (np := 31) dX10_read_30 rfl rfl ?_
    refine ev_bipush (np := 33) dX10_read_31 (by decide) rfl ?_
    refine ev_icmp_ge (tgt := 59) (np := 36) dX10_read_33 (by decide) rfl (by omega) (by omega) (fun _ => ?_) (fun h => absurd (by omega) h)
    refine ev_aload_n (np := 60) dX10_read_59 rfl rfl ?_
    refine ev_aload_n (np := 61) dX10_read_60 rfl rfl ?_
    refine ev_getR (np := 64) sX10_read_61 rfl rfl rfl ?_
    refine ev_iconst (np := 65) dX10_read_64 rfl ?_
    refine ev_iaload (np := 66) dX10_read_65 rfl (by omega) (by omega) rfl ?_
    rw [show (0 : Int).toNat = 0 from rfl, e5, r5.1]
    refine ev_V1 (np := 69) moX10_acted sX10_read_66 (sem_mact hW h (c := (b : Int)) (b := b) rfl hb (C' := C) ((f1.le (by decide)).tr (hf.le (by decide))) ho (RefC.of hC r5 (fun i hi => hd i (by omega))) (fun q hq => by rw [hf.arr (n := 3) (by decide)]; exact bg q hq) (v := (cn C : Int)) (by omega) ) rfl rfl (Nat.le_of_ble_eq_true rfl) rfl (fun v5 N5 hq => ?_)
    obtain ⟨rfl, hI⟩ := hq
    refine ev_iret dX10_read_69 rfl ?_
    exact ⟨rfl, hI⟩
  | succ m ih =>
    intro i N hi hf ho hd
    have e5 := hf.arr (n := 5) (by decide)
    refine ev_iload_n (np := 31) dX10_read_30 rfl rfl ?_
    refine ev_bipush (np := 33) dX10_read_31 (by decide) rfl ?_
    refine ev_icmp_ge (tgt := 59) (np := 36) dX10_read_33 (by decide) rfl (by omega) (by omega) (fun h => absurd h (by omega)) (fun _ => ?_)
    refine ev_aload_n (np := 37) dX10_read_36 rfl rfl ?_
    refine ev_getR (np := 40) sX10_read_37 rfl rfl rfl ?_
    refine ev_bipush (np := 42) dX10_read_40 (by decide) rfl ?_
    refine ev_iload_n (np := 43) dX10_read_42 rfl rfl ?_
    refine ev_imul (np := 44) dX10_read_43 rfl ?_
    refine ev_iload_n (np := 45) dX10_read_44 rfl rfl ?_
    refine ev_iadd (np := 46) dX10_read_45 rfl ?_
    refine ev_aload_n (np := 47) dX10_read_46 rfl rfl ?_
    refine ev_getR (np := 50) sX10_read_47 rfl rfl rfl ?_
    refine ev_iload_n (np := 51) dX10_read_50 rfl rfl ?_
    refine ev_iaload (np := 52) dX10_read_51 rfl (by omega) (by omega) rfl ?_
    rw [Int.toNat_natCast, e5]
    refine ev_iastore (np := 53) dX10_read_52 rfl (by omega) (by omega) rfl ?_
    rw [show ((34 : Int) * (b : Int) + (i : Int)).toNat = 34 * b + i by omega]
    refine ev_iinc (np := 56) dX10_read_53 rfl (by decide) rfl ?_
    refine ev_goto (np := 30) dX10_read_56 (by decide) ?_
    refine ih (i + 1) _ (by omega) (hf.tr (Fy.upd rfl)) (fun j hj => ?_) (fun q hq => ?_)
    · rw [← ho j hj]
      have : ¬ j = 34 * b + i := by omega
      simp [updM, this]
    · by_cases e : q = i
      · rw [e, updM_same]
      · rw [← hd q (by omega)]
        simp [updM, e]
theorem sem_mread {M : Mem} {σ : Sg} (hW : SgW σ) (h : InvM M σ) {c : Int} (hc : Rng c) : Sem SM miX10_read [.inr (cX 0), .inl c] M (fun v N => v = some (.inl (spRead σ c).1) ∧ InvM N (spRead σ c).2) := by
  refine Sem.of (by decide) SM_ok (Nat.le_of_ble_eq_true rfl) (ls0 := [some (.inr (cX 0)), some (.inl c), none]) rfl ?_
  have hx := hW.2.2.2
  have hp := parse_i σ.2.2.2
  have l1 := hx.1
  refine ev_iload_n (np := 1) dX10_read_0 rfl rfl ?_
  refine ev_iconst (np := 2) dX10_read_1 rfl ?_
  refine ev_iconst (np := 3) dX10_read_2 rfl ?_
  by_cases g1 : 0 ≤ c ∧ c ≤ 1
  · rw [spRead, if_pos g1]
    obtain ⟨p1, p2, p3, p4⟩ := hp
    obtain ⟨b, rfl⟩ := Int.eq_ofNat_of_zero_le g1.1
    refine ev_Si3 (np := 6) moX10_in sX10_read_3 (sem_in_t M hc (by omega) (by omega) g1) (Nat.le_of_ble_eq_true rfl) rfl ?_
    refine ev_if_ne (tgt := 12) (np := 9) dX10_read_6 (by decide) rfl (by omega) (fun _ => ?_) (fun h => absurd h (by omega))
    refine ev_aload_n (np := 13) dX10_read_12 rfl rfl ?_
    refine ev_V0 (np := 16) moX10_faulty sX10_read_13 (sem_mfaulty hx h.2.2.2 ) rfl rfl (Nat.le_of_ble_eq_true rfl) rfl (fun v N hq => ?_)
    obtain ⟨rfl, q1, q2, q3⟩ := hq
    have hI := h.scr (q3.le (by decide))
    generalize parse σ.2.2.2 = r at *
    by_cases e : r.2.1 = 0
    · rw [if_pos e, if_pos e]
      refine ev_ldc (np := 18) sX10_read_16 rfl ?_
      refine ev_icmp_eq (tgt := 24) (np := 21) dX10_read_18 (by decide) rfl (by omega) (by omega) (fun _ => ?_) (fun h => absurd (by omega) h)
      refine ev_aload_n (np := 25) dX10_read_24 rfl rfl ?_
      refine ev_V0 (np := 28) moX10_keeps sX10_read_25 (sem_keeps N ) rfl rfl (Nat.le_of_ble_eq_true rfl) rfl (fun v N1 hq => ?_)
      obtain ⟨rfl, f1, bg⟩ := hq
      refine ev_iconst (np := 29) dX10_read_28 rfl ?_
      refine ev_istore_n (np := 30) dX10_read_29 (by decide) rfl ?_
      exact mread_loop hW hI (by omega) p4 (by rw [f1.arr (n := 5) (by decide)]; exact q2) f1 bg 34 0 N1 rfl Fy.rf (fun j hj => by rw [f1.arr (n := 1) (by decide)]) (fun q hq => absurd hq (Nat.not_lt_zero q))
    · rw [if_neg e, if_neg e]
      refine ev_ldc (np := 18) sX10_read_16 rfl ?_
      refine ev_icmp_eq (tgt := 24) (np := 21) dX10_read_18 (by decide) rfl (by omega) (by omega) (fun h => absurd h (by omega)) (fun _ => ?_)
      refine ev_ldc (np := 23) sX10_read_21 rfl ?_
      refine ev_iret dX10_read_23 rfl ?_
      exact ⟨rfl, hI⟩
  · rw [spRead, if_neg g1]
    refine ev_Si3 (np := 6) moX10_in sX10_read_3 (sem_in_f M hc (by omega) (by omega) g1) (Nat.le_of_ble_eq_true rfl) rfl ?_
    refine ev_if_ne (tgt := 12) (np := 9) dX10_read_6 (by decide) rfl (by omega) (fun h => absurd (by omega) h) (fun _ => ?_)
    refine ev_ldc (np := 11) sX10_read_9 rfl ?_
    refine ev_iret dX10_read_11 rfl ?_
    exact ⟨rfl, h⟩
