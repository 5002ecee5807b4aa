/-! THE READER, in the reference -/
def lvF (i : Nat) : Int := if i = 1 ∨ (2 ≤ i ∧ i < 6) then 14 else 0
theorem lays_loop {M : Mem} {a sz base : Nat} (ha : a ≠ 0) (hs : SM.1 (cX a) = some (.inl (false, sz))) (hb : base + 34 ≤ sz) (h68 : sz ≤ 68) : ∀ (m i : Nat) (N : Mem), i + m = 34 → (∀ c j, (c ≠ cX a ∨ j < base ∨ base + 34 ≤ j) → N c j = M c j) → (∀ q, q < i → N (cX a) (base + q) = lvF q) → Ev SM miX10_lays 2 [some (.inr (cX a)), some (.inl (base : Int)), some (.inl (i : Int))] [] N (fun v N => v = none ∧ (∀ c j, (c ≠ cX a ∨ j < base ∨ base + 34 ≤ j) → N c j = M c j) ∧ ∀ q, q < 34 → N (cX a) (base + q) = lvF q) := by
  intro m
  induction m with
  | zero =>
    intro i N hi hf hd
    refine ev_iload_n (np := 3) dX10_lays_2 rfl rfl ?_
    refine ev_bipush (np := 5) dX10_lays_3 (by decide) rfl ?_
    refine ev_icmp_ge (tgt := 41) (np := 8) dX10_lays_5 (by decide) rfl (by omega) (by omega) (fun _ => ?_) (fun h => absurd (by omega) h)
    refine ev_vret dX10_lays_41 rfl ?_
    exact ⟨rfl, hf, fun q hq => hd q (by omega)⟩
  | succ m ih =>
    intro i N hi hf hd
    have go : ∀ v : Int, v = lvF i → Ev SM miX10_lays 34 [some (.inr (cX a)), some (.inl (base : Int)), some (.inl (i : Int))] [.inl v, .inl ((base : Int) + (i : Int)), .inr (cX a)] N (fun v N => v = none ∧ (∀ c j, (c ≠ cX a ∨ j < base ∨ base + 34 ≤ j) → N c j = M c j) ∧ ∀ q, q < 34 → N (cX a) (base + q) = lvF q) := by
      intro v hv
      refine ev_iastore (np := 35) dX10_lays_34 hs (by omega) (by omega) rfl ?_
      rw [show ((base : Int) + (i : Int)).toNat = base + i by omega]
      refine ev_iinc (np := 38) dX10_lays_35 rfl (by decide) rfl ?_
      refine ev_goto (np := 2) dX10_lays_38 (by decide) ?_
      refine ih (i + 1) _ (by omega) (fun c j hc => ?_) (fun q hq => ?_)
      · rw [← hf c j hc]
        unfold updM
        rw [if_neg]
        rintro ⟨e1, e2⟩
        rcases hc with g | g
        · exact g e1
        · omega
      · by_cases e : q = i
        · rw [e, updM_same, hv]
        · rw [← hd q (by omega)]
          simp [updM, e]
    have at23 : (i < 2 ∨ 6 ≤ i) → Ev SM miX10_lays 23 [some (.inr (cX a)), some (.inl (base : Int)), some (.inl (i : Int))] [.inl ((base : Int) + (i : Int)), .inr (cX a)] N (fun v N => v = none ∧ (∀ c j, (c ≠ cX a ∨ j < base ∨ base + 34 ≤ j) → N c j = M c j) ∧ ∀ q, q < 34 → N (cX a) (base + q) = lvF q) := by
      intro hh
      refine ev_iload_n (np := 24) dX10_lays_23 rfl rfl ?_
      refine ev_iconst (np := 25) dX10_lays_24 rfl ?_
      refine ev_icmp_ne (tgt := 33) (np := 28) dX10_lays_25 (by decide) rfl (by omega) (by omega) (fun h1 => ?_) (fun h1 => ?_)
      · refine ev_iconst (np := 34) dX10_lays_33 rfl ?_
        exact go 0 (by rw [lvF, if_neg (by omega)])
      · refine ev_bipush (np := 30) dX10_lays_28 (by decide) rfl ?_
        refine ev_goto (np := 34) dX10_lays_30 (by decide) ?_
        exact go 14 (by rw [lvF, if_pos (by omega)])
    refine ev_iload_n (np := 3) dX10_lays_2 rfl rfl ?_
    refine ev_bipush (np := 5) dX10_lays_3 (by decide) rfl ?_
    refine ev_icmp_ge (tgt := 41) (np := 8) dX10_lays_5 (by decide) rfl (by omega) (by omega) (fun h => absurd h (by omega)) (fun _ => ?_)
    refine ev_aload_n (np := 9) dX10_lays_8 rfl rfl ?_
    refine ev_iload_n (np := 10) dX10_lays_9 rfl rfl ?_
    refine ev_iload_n (np := 11) dX10_lays_10 rfl rfl ?_
    refine ev_iadd (np := 12) dX10_lays_11 rfl ?_
    refine ev_iload_n (np := 13) dX10_lays_12 rfl rfl ?_
    refine ev_iconst (np := 14) dX10_lays_13 rfl ?_
    refine ev_icmp_lt (tgt := 23) (np := 17) dX10_lays_14 (by decide) rfl (by omega) (by omega) (fun h1 => ?_) (fun h1 => ?_)
    · exact at23 (by omega)
    · refine ev_iload_n (np := 18) dX10_lays_17 rfl rfl ?_
      refine ev_bipush (np := 20) dX10_lays_18 (by decide) rfl ?_
      refine ev_icmp_lt (tgt := 28) (np := 23) dX10_lays_20 (by decide) rfl (by omega) (by omega) (fun h2 => ?_) (fun h2 => ?_)
      · refine ev_bipush (np := 30) dX10_lays_28 (by decide) rfl ?_
        refine ev_goto (np := 34) dX10_lays_30 (by decide) ?_
        exact go 14 (by rw [lvF, if_pos (by omega)])
      · exact at23 (by omega)
theorem sem_lays {M : Mem} {a sz base : Nat} (ha : a ≠ 0) (hs : SM.1 (cX a) = some (.inl (false, sz))) (hb : base + 34 ≤ sz) (h68 : sz ≤ 68) : Sem SM miX10_lays [.inr (cX a), .inl (base : Int)] M (fun v N => v = none ∧ (∀ c j, (c ≠ cX a ∨ j < base ∨ base + 34 ≤ j) → N c j = M c j) ∧ ∀ q, q < 34 → N (cX a) (base + q) = lvF q) := by
  refine Sem.of (by decide) SM_ok (Nat.le_of_ble_eq_true rfl) (ls0 := [some (.inr (cX a)), some (.inl (base : Int)), none]) rfl ?_
  refine ev_iconst (np := 1) dX10_lays_0 rfl ?_
  refine ev_istore_n (np := 2) dX10_lays_1 (by decide) rfl ?_
  exact lays_loop ha hs hb h68 34 0 M rfl (fun c j _ => rfl) (fun q hq => absurd hq (Nat.not_lt_zero q))
theorem lv_new {f : Nat → Int} (h : ∀ q, q < 34 → f q = lvF q) : RefC f newC :=
  ⟨by rw [h 0 (by decide)]; rfl, by rw [h 1 (by decide)]; rfl, fun r hr => ⟨by rw [h _ (by omega), lvF, if_pos (by omega)]; rfl, by rw [h _ (by omega), lvF, if_neg (by omega)]; rfl⟩, fun g hg => absurd hg (Nat.not_lt_zero g)⟩
-- the signs
def sgn (x : Txt) (p : Nat) : Int := if p < x.1 then (x.2 p : Int) else -1
theorem sgn_rng {x : Txt} (h : XW x) (p : Nat) : -1 ≤ sgn x p ∧ sgn x p < 127 := by
  unfold sgn
  split
  · next g => have := h.2 p g; omega
  · omega
theorem sgn_eq {x : Txt} {p c : Nat} (hc : 0 < c) : sgn x p = (c : Int) ↔ chr x p = c := by
  unfold sgn chr
  split <;> omega
theorem sgn_dg {x : Txt} {p : Nat} {k : Int} (hk : k ≤ 9) : (0 ≤ sgn x p - 48 ∧ sgn x p - 48 ≤ k) ↔ (0 ≤ dgI (chr x p) ∧ dgI (chr x p) ≤ k) := by
  unfold sgn chr dgI
  split
  · split
    · omega
    · split <;> omega
  · simp
theorem sgn_val {x : Txt} {p : Nat} (h : 0 ≤ sgn x p - 48 ∧ sgn x p - 48 ≤ 9) : dgI (chr x p) = sgn x p - 48 := by
  by_cases g : p < x.1
  · simp only [sgn, chr, if_pos g] at h ⊢
    rw [dgI, if_pos (by omega)]
  · simp only [sgn, if_neg g] at h
    omega
theorem sem_sign {M : Mem} {x : Txt} (hw : XW x) (hx : TxM M x) {p : Nat} (hp : p < 100) : Sem SM miX10_sign [.inr (cX 0), .inl (p : Int)] M (Ri (sgn x p) M) := by
  refine Sem.of (by decide) SM_ok (Nat.le_of_ble_eq_true rfl) (ls0 := [some (.inr (cX 0)), some (.inl (p : Int))]) rfl ?_
  have h1 := hw.1
  refine ev_iload_n (np := 1) dX10_sign_0 rfl rfl ?_
  refine ev_aload_n (np := 2) dX10_sign_1 rfl rfl ?_
  refine ev_getI (np := 5) sX10_sign_2 rfl rfl rfl ?_
  rw [hx.1]
  refine ev_icmp_ge (tgt := 17) (np := 8) dX10_sign_5 (by decide) rfl (by omega) (by omega) (fun g => ?_) (fun g => ?_)
  · refine ev_iconst (np := 18) dX10_sign_17 rfl ?_
    refine ev_iret dX10_sign_18 rfl ?_
    exact ⟨by rw [sgn, if_neg (by omega)], rfl⟩
  · have := hw.2 p (by omega)
    refine ev_aload_n (np := 9) dX10_sign_8 rfl rfl ?_
    refine ev_getR (np := 12) sX10_sign_9 rfl rfl rfl ?_
    refine ev_iload_n (np := 13) dX10_sign_12 rfl rfl ?_
    refine ev_caload (np := 14) dX10_sign_13 rfl (by omega) (by omega) rfl ?_
    rw [Int.toNat_natCast, hx.2 p (by omega)]
    refine ev_goto (np := 18) dX10_sign_14 (by decide) ?_
    refine ev_iret dX10_sign_18 rfl ?_
    exact ⟨by rw [sgn, if_pos (by omega)], rfl⟩
theorem sem_wireAt {M : Mem} {x : Txt} (hw : XW x) (hx : TxM M x) {p : Nat} (hp : p < 100) : Sem SM miX10_wireAt [.inr (cX 0), .inl (p : Int)] M (Ri (dgI (chr x p)) M) := by
  refine Sem.of (by decide) SM_ok (Nat.le_of_ble_eq_true rfl) (ls0 := [some (.inr (cX 0)), some (.inl (p : Int)), none]) rfl ?_
  have hs := sgn_rng hw p
  have e1 : ∀ c : Nat, 0 < c → (sgn x p = (c : Int) ↔ chr x p = c) := fun c hc => sgn_eq hc
  have e2 : sgn x p = -1 ∨ sgn x p = (chr x p : Int) := by unfold sgn chr; split <;> simp
  have e3 : sgn x p = -1 → chr x p = 0 := by
    unfold sgn chr
    split
    · omega
    · intro _; rfl
  refine ev_aload_n (np := 1) dX10_wireAt_0 rfl rfl ?_
  refine ev_iload_n (np := 2) dX10_wireAt_1 rfl rfl ?_
  refine ev_Vi1 (np := 5) moX10_sign sX10_wireAt_2 (sem_sign hw hx hp) rfl rfl (Nat.le_of_ble_eq_true rfl) rfl ?_
  refine ev_istore_n (np := 6) dX10_wireAt_5 (by decide) rfl ?_
  refine ev_iload_n (np := 7) dX10_wireAt_6 rfl rfl ?_
  refine ev_bipush (np := 9) dX10_wireAt_7 (by decide) rfl ?_
  refine ev_bipush (np := 11) dX10_wireAt_9 (by decide) rfl ?_
  by_cases g : 48 ≤ sgn x p ∧ sgn x p ≤ 57
  · refine ev_Si3 (np := 14) moX10_in sX10_wireAt_11 (sem_in_t M (by omega) (by omega) (by omega) g) (Nat.le_of_ble_eq_true rfl) rfl ?_
    refine ev_if_eq (tgt := 24) (np := 17) dX10_wireAt_14 (by decide) rfl (by omega) (fun h => absurd h (by omega)) (fun _ => ?_)
    refine ev_iload_n (np := 18) dX10_wireAt_17 rfl rfl ?_
    refine ev_bipush (np := 20) dX10_wireAt_18 (by decide) rfl ?_
    refine ev_isub (np := 21) dX10_wireAt_20 rfl ?_
    refine ev_goto (np := 46) dX10_wireAt_21 (by decide) ?_
    refine ev_iret dX10_wireAt_46 rfl ?_
    exact ⟨by rw [dgI, if_pos (by omega)]; congr 2; omega, rfl⟩
  · refine ev_Si3 (np := 14) moX10_in sX10_wireAt_11 (sem_in_f M (by omega) (by omega) (by omega) g) (Nat.le_of_ble_eq_true rfl) rfl ?_
    refine ev_if_eq (tgt := 24) (np := 17) dX10_wireAt_14 (by decide) rfl (by omega) (fun _ => ?_) (fun h => absurd (by omega) h)
    refine ev_iload_n (np := 25) dX10_wireAt_24 rfl rfl ?_
    refine ev_bipush (np := 27) dX10_wireAt_25 (by decide) rfl ?_
    refine ev_bipush (np := 29) dX10_wireAt_27 (by decide) rfl ?_
    by_cases g2 : 97 ≤ sgn x p ∧ sgn x p ≤ 102
    · refine ev_Si3 (np := 32) moX10_in sX10_wireAt_29 (sem_in_t M (by omega) (by omega) (by omega) g2) (Nat.le_of_ble_eq_true rfl) rfl ?_
      refine ev_if_eq (tgt := 45) (np := 35) dX10_wireAt_32 (by decide) rfl (by omega) (fun h => absurd h (by omega)) (fun _ => ?_)
      refine ev_iload_n (np := 36) dX10_wireAt_35 rfl rfl ?_
      refine ev_bipush (np := 38) dX10_wireAt_36 (by decide) rfl ?_
      refine ev_isub (np := 39) dX10_wireAt_38 rfl ?_
      refine ev_bipush (np := 41) dX10_wireAt_39 (by decide) rfl ?_
      refine ev_iadd (np := 42) dX10_wireAt_41 rfl ?_
      refine ev_goto (np := 46) dX10_wireAt_42 (by decide) ?_
      refine ev_iret dX10_wireAt_46 rfl ?_
      exact ⟨by rw [dgI, if_neg (by omega), if_pos (by omega)]; congr 2; omega, rfl⟩
    · refine ev_Si3 (np := 32) moX10_in sX10_wireAt_29 (sem_in_f M (by omega) (by omega) (by omega) g2) (Nat.le_of_ble_eq_true rfl) rfl ?_
      refine ev_if_eq (tgt := 45) (np := 35) dX10_wireAt_32 (by decide) rfl (by omega) (fun _ => ?_) (fun h => absurd (by omega) h)
      refine ev_iconst (np := 46) dX10_wireAt_45 rfl ?_
      refine ev_iret dX10_wireAt_46 rfl ?_
      exact ⟨by rw [dgI, if_neg (by omega), if_neg (by omega)], rfl⟩
/-- what stands of a text that is read: position, told, the row that is made -/
def PsM (M : Mem) (s : Pst) : Prop := M (cX 0) 7 = (s.1 : Int) ∧ M (cX 0) 9 = (s.2.2.1 : Int) ∧ RefC (M (cX 5)) s.2.2.2
theorem TxM.fy {M N : Mem} {x : Txt} (h : TxM M x) {as fs : List Nat} (f : Fy (uM as fs) M N) (h1 : as.contains 4 = false) (h2 : fs.contains 5 = false) : TxM N x := by
  unfold TxM
  rw [f.fld h2, f.arr (n := 4) ⟨by decide, h1⟩]
  exact h
abbrev doP (M : Mem) (s' : Pst) : Option Val → Mem → Prop := fun v N => v = some (.inl (s'.2.1 : Int)) ∧ PsM N s' ∧ Fy (uM [5] [7, 9]) M N
theorem sem_doesOutput {M : Mem} {x : Txt} {s : Pst} (hw : XW x) (hx : TxM M x) (hs : PsM M s) (hi : PI x s) (h0 : s.2.1 = 0) : Sem SM miX10_doesOutput [.inr (cX 0)] M (doP M (pOut x s)) := by
  refine Sem.of (by decide) SM_ok (Nat.le_of_ble_eq_true rfl) (ls0 := [some (.inr (cX 0)), none]) rfl ?_
  obtain ⟨a1, a2, a3, a4⟩ := id hi
  obtain ⟨s1, s2, s3⟩ := id hs
  have l1 := hw.1
  have r1 := dgI_rng (chr x (s.1 + 1))
  have hb := bt_lt s.2.2.1 4
  have sr := sgn_rng hw (s.1 + 2)
  have se := sgn_eq (x := x) (p := s.1 + 2) (c := 59) (by decide)
  have bad : pOut x s = (s.1, 1, s.2.2.1, s.2.2.2) → ∀ u : Option Val, Ev SM miX10_doesOutput 30 [some (.inr (cX 0)), u] [] M (doP M (pOut x s)) := by
    intro e u
    rw [e]
    refine ev_iconst (np := 31) dX10_doesOutput_30 rfl ?_
    refine ev_iret dX10_doesOutput_31 rfl ?_
    exact ⟨rfl, hs, Fy.rf⟩
  refine ev_aload_n (np := 1) dX10_doesOutput_0 rfl rfl ?_
  refine ev_aload_n (np := 2) dX10_doesOutput_1 rfl rfl ?_
  refine ev_getI (np := 5) sX10_doesOutput_2 rfl rfl rfl ?_
  rw [s1]
  refine ev_iconst (np := 6) dX10_doesOutput_5 rfl ?_
  refine ev_iadd (np := 7) dX10_doesOutput_6 rfl ?_
  rw [show (s.1 : Int) + 1 = ((s.1 + 1 : Nat) : Int) by omega]
  refine ev_Vi1 (np := 10) moX10_wireAt sX10_doesOutput_7 (sem_wireAt hw hx (p := s.1 + 1) (by omega)) rfl rfl (Nat.le_of_ble_eq_true rfl) rfl ?_
  refine ev_istore_n (np := 11) dX10_doesOutput_10 (by decide) rfl ?_
  refine ev_iload_n (np := 12) dX10_doesOutput_11 rfl rfl ?_
  refine ev_if_lt (tgt := 30) (np := 15) dX10_doesOutput_12 (by decide) rfl (by omega) (fun g1 => ?_) (fun g1 => ?_)
  · exact bad (by rw [pOut, if_neg (by omega)]) _
  · refine ev_aload_n (np := 16) dX10_doesOutput_15 rfl rfl ?_
    refine ev_aload_n (np := 17) dX10_doesOutput_16 rfl rfl ?_
    refine ev_getI (np := 20) sX10_doesOutput_17 rfl rfl rfl ?_
    rw [s1]
    refine ev_iconst (np := 21) dX10_doesOutput_20 rfl ?_
    refine ev_iadd (np := 22) dX10_doesOutput_21 rfl ?_
    rw [show (s.1 : Int) + 2 = ((s.1 + 2 : Nat) : Int) by omega]
    refine ev_Vi1 (np := 25) moX10_sign sX10_doesOutput_22 (sem_sign hw hx (p := s.1 + 2) (by omega)) rfl rfl (Nat.le_of_ble_eq_true rfl) rfl ?_
    refine ev_bipush (np := 27) dX10_doesOutput_25 (by decide) rfl ?_
    refine ev_icmp_eq (tgt := 32) (np := 30) dX10_doesOutput_27 (by decide) rfl (by omega) (by omega) (fun g2 => ?_) (fun g2 => ?_)
    · have g2' : chr x (s.1 + 2) = 59 := se.mp (by omega)
      refine ev_aload_n (np := 33) dX10_doesOutput_32 rfl rfl ?_
      refine ev_getI (np := 36) sX10_doesOutput_33 rfl rfl rfl ?_
      rw [s2]
      refine ev_iconst (np := 37) dX10_doesOutput_36 rfl ?_
      refine ev_ishr (np := 38) dX10_doesOutput_37 (by omega) (by omega) rfl ?_
      refine ev_iconst (np := 39) dX10_doesOutput_38 rfl ?_
      refine ev_iandm 1 (np := 40) dX10_doesOutput_39 (by omega) rfl rfl ?_
      rw [show ((s.2.2.1 : Int) / ((2 ^ (4 : Int).toNat : Nat) : Int)) % ((2 ^ 1 : Nat) : Int) = (bt s.2.2.1 4 : Int) from shr1 s.2.2.1 4]
      refine ev_iconst (np := 41) dX10_doesOutput_40 rfl ?_
      refine ev_icmp_ne (tgt := 46) (np := 44) dX10_doesOutput_41 (by decide) rfl (by omega) (by omega) (fun g3 => ?_) (fun g3 => ?_)
      · refine ev_aload_n (np := 47) dX10_doesOutput_46 rfl rfl ?_
        refine ev_dup (np := 48) dX10_doesOutput_47 rfl ?_
        refine ev_getI (np := 51) sX10_doesOutput_48 rfl rfl rfl ?_
        rw [s2]
        refine ev_bipush (np := 53) dX10_doesOutput_51 (by decide) rfl ?_
        refine ev_ior (np := 54) dX10_doesOutput_53 (by omega) (by omega) rfl ?_
        rw [Int.toNat_natCast, show (16 : Int).toNat = 16 from rfl]
        refine ev_put (np := 57) sX10_doesOutput_54 rfl rfl rfl ?_
        refine ev_aload_n (np := 58) dX10_doesOutput_57 rfl rfl ?_
        refine ev_getR (np := 61) sX10_doesOutput_58 rfl rfl rfl ?_
        refine ev_iconst (np := 62) dX10_doesOutput_61 rfl ?_
        refine ev_iload_n (np := 63) dX10_doesOutput_62 rfl rfl ?_
        refine ev_iastore (np := 64) dX10_doesOutput_63 rfl (by omega) (by omega) rfl ?_
        rw [show (1 : Int).toNat = 1 from rfl]
        refine ev_aload_n (np := 65) dX10_doesOutput_64 rfl rfl ?_
        refine ev_dup (np := 66) dX10_doesOutput_65 rfl ?_
        refine ev_getI (np := 69) sX10_doesOutput_66 rfl rfl rfl ?_
        rw [updM_f (b := 5) rfl, show updM M (cX 0) 9 ((s.2.2.1 ||| 16 : Nat) : Int) (cX 0) 7 = (s.1 : Int) by rw [← s1]; simp [updM]]
        refine ev_iconst (np := 70) dX10_doesOutput_69 rfl ?_
        refine ev_iadd (np := 71) dX10_doesOutput_70 rfl ?_
        refine ev_put (np := 74) sX10_doesOutput_71 rfl rfl rfl ?_
        refine ev_iconst (np := 75) dX10_doesOutput_74 rfl ?_
        refine ev_iret dX10_doesOutput_75 rfl ?_
        rw [pOut, if_pos ⟨by omega, g2'⟩, if_neg (by omega)]
        refine ⟨by show _ = some (Sum.inl ((s.2.1 : Nat) : Int)); rw [h0]; rfl, ⟨by rw [updM_same]; rfl, by simp [updM], ?_⟩, ((Fy.upd rfl).tr (Fy.upd rfl)).tr (Fy.upd rfl)⟩
        have o : ∀ i, i ≠ 1 → updM (updM (updM M (cX 0) 9 ((s.2.2.1 ||| 16 : Nat) : Int)) (cX 5) 1 (dgI (chr x (s.1 + 1)))) (cX 0) 7 ((s.1 : Int) + 3) (cX 5) i = M (cX 5) i := fun i hi => by simp [updM, hi]
        refine ⟨by rw [o 0 (by decide)]; exact s3.1, ?_, fun r hr => ⟨by rw [o _ (by omega)]; exact (s3.2.2.1 r hr).1, by rw [o _ (by omega)]; exact (s3.2.2.1 r hr).2⟩, fun g hg => ?_⟩
        · rw [show updM (updM (updM M (cX 0) 9 ((s.2.2.1 ||| 16 : Nat) : Int)) (cX 5) 1 (dgI (chr x (s.1 + 1)))) (cX 0) 7 ((s.1 : Int) + 3) (cX 5) 1 = dgI (chr x (s.1 + 1)) by simp [updM]]
          show _ = (((dgI (chr x (s.1 + 1))).toNat : Nat) : Int)
          omega
        · obtain ⟨b1, b2, b3⟩ := s3.2.2.2 g hg
          exact ⟨by rw [o _ (by omega)]; exact b1, by rw [o _ (by omega)]; exact b2, by rw [o _ (by omega)]; exact b3⟩
      · rw [pOut, if_pos ⟨by omega, g2'⟩, if_pos (by omega)]
        refine ev_iconst (np := 45) dX10_doesOutput_44 rfl ?_
        refine ev_iret dX10_doesOutput_45 rfl ?_
        exact ⟨rfl, hs, Fy.rf⟩
    · exact bad (by rw [pOut, if_neg (fun h => g2 (se.mpr h.2))]) _
