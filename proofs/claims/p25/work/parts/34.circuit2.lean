theorem sem_stateAfter {M : Mem} {k : Fin 4} {C : Circ} (hC : WF C) (h : CircT M k C) {b : Nat} (hb : b < 65536) : Sem ST miX1_stateAfter [.inr (cC k 0), .inl (b : Int)] M (Ri (st4 (fun r => bt b (cx C r)) : Nat) M) := by
  refine Sem.of (by decide) ST_ok (Nat.le_of_ble_eq_true rfl) (ls0 := [some (.inr (cC k 0)), some (.inl (b : Int)), none, none]) rfl ?_
  have x0 := (hC.2.2.1 0 (by decide)).1
  have x1 := (hC.2.2.1 1 (by decide)).1
  have x2 := (hC.2.2.1 2 (by decide)).1
  have x3 := (hC.2.2.1 3 (by decide)).1
  have e := or4 _ (bt_lt b (cx C 0)) _ (bt_lt b (cx C 1)) _ (bt_lt b (cx C 2)) _ (bt_lt b (cx C 3))
  refine ev_iconst (np := 1) dX1_stateAfter_0 rfl ?_
  refine ev_istore_n (np := 2) dX1_stateAfter_1 (by decide) rfl ?_
  refine ev_iconst (np := 3) dX1_stateAfter_2 rfl ?_
  refine ev_istore_n (np := 4) dX1_stateAfter_3 (by decide) rfl ?_
  refine ev_iload_n (np := 5) dX1_stateAfter_4 rfl rfl ?_
  refine ev_iconst (np := 6) dX1_stateAfter_5 rfl ?_
  refine ev_icmp_ge (tgt := 29) (np := 9) dX1_stateAfter_6 (by decide) rfl (by omega) (by omega) (fun h => absurd h (by omega)) (fun _ => ?_)
  refine ev_iload_n (np := 10) dX1_stateAfter_9 rfl rfl ?_
  refine ev_iload_n (np := 11) dX1_stateAfter_10 rfl rfl ?_
  refine ev_aload_n (np := 12) dX1_stateAfter_11 rfl rfl ?_
  refine ev_iload_n (np := 13) dX1_stateAfter_12 rfl rfl ?_
  refine ev_Vi1 (np := 16) moX1_nextWire sX1_stateAfter_13 (sem_nextWire hC h (r := 0) (by decide)) rfl rfl (Nat.le_of_ble_eq_true rfl) rfl ?_
  refine ev_Ni2 (np := 19) moX9_bitOf sX1_stateAfter_16 (sem_bit M (b := b) (p := cx C 0) (by omega) (by omega)) (Nat.le_of_ble_eq_true rfl) rfl ?_
  refine ev_iload_n (np := 20) dX1_stateAfter_19 rfl rfl ?_
  refine ev_ishl (np := 21) dX1_stateAfter_20 (by omega) rfl ?_
  refine ev_ior (np := 22) dX1_stateAfter_21 (by omega) (Int.mul_nonneg (by omega) (Int.natCast_nonneg _)) rfl ?_
  rw [show (((0 : Int).toNat ||| ((bt b (cx C 0) : Int) * ((2 ^ (0 : Int).toNat : Nat) : Int)).toNat : Nat) : Int) = ((0 ||| bt b (cx C 0) * 2 ^ 0 : Nat) : Int) from or_sh (a := 0) 0]
  refine ev_istore_n (np := 23) dX1_stateAfter_22 (by decide) rfl ?_
  refine ev_iinc (np := 26) dX1_stateAfter_23 rfl (by decide) rfl ?_
  refine ev_goto (np := 4) dX1_stateAfter_26 (by decide) ?_
  refine ev_iload_n (np := 5) dX1_stateAfter_4 rfl rfl ?_
  refine ev_iconst (np := 6) dX1_stateAfter_5 rfl ?_
  refine ev_icmp_ge (tgt := 29) (np := 9) dX1_stateAfter_6 (by decide) rfl (by omega) (by omega) (fun h => absurd h (by omega)) (fun _ => ?_)
  refine ev_iload_n (np := 10) dX1_stateAfter_9 rfl rfl ?_
  refine ev_iload_n (np := 11) dX1_stateAfter_10 rfl rfl ?_
  refine ev_aload_n (np := 12) dX1_stateAfter_11 rfl rfl ?_
  refine ev_iload_n (np := 13) dX1_stateAfter_12 rfl rfl ?_
  refine ev_Vi1 (np := 16) moX1_nextWire sX1_stateAfter_13 (sem_nextWire hC h (r := 1) (by decide)) rfl rfl (Nat.le_of_ble_eq_true rfl) rfl ?_
  refine ev_Ni2 (np := 19) moX9_bitOf sX1_stateAfter_16 (sem_bit M (b := b) (p := cx C 1) (by omega) (by omega)) (Nat.le_of_ble_eq_true rfl) rfl ?_
  refine ev_iload_n (np := 20) dX1_stateAfter_19 rfl rfl ?_
  refine ev_ishl (np := 21) dX1_stateAfter_20 (by omega) rfl ?_
  refine ev_ior (np := 22) dX1_stateAfter_21 (by omega) (Int.mul_nonneg (by omega) (Int.natCast_nonneg _)) rfl ?_
  rw [show (0 : Int) + 1 = 1 from rfl, show (1 : Int).toNat = 1 from rfl, or_sh 1]
  refine ev_istore_n (np := 23) dX1_stateAfter_22 (by decide) rfl ?_
  refine ev_iinc (np := 26) dX1_stateAfter_23 rfl (by decide) rfl ?_
  refine ev_goto (np := 4) dX1_stateAfter_26 (by decide) ?_
  refine ev_iload_n (np := 5) dX1_stateAfter_4 rfl rfl ?_
  refine ev_iconst (np := 6) dX1_stateAfter_5 rfl ?_
  refine ev_icmp_ge (tgt := 29) (np := 9) dX1_stateAfter_6 (by decide) rfl (by omega) (by omega) (fun h => absurd h (by omega)) (fun _ => ?_)
  refine ev_iload_n (np := 10) dX1_stateAfter_9 rfl rfl ?_
  refine ev_iload_n (np := 11) dX1_stateAfter_10 rfl rfl ?_
  refine ev_aload_n (np := 12) dX1_stateAfter_11 rfl rfl ?_
  refine ev_iload_n (np := 13) dX1_stateAfter_12 rfl rfl ?_
  refine ev_Vi1 (np := 16) moX1_nextWire sX1_stateAfter_13 (sem_nextWire hC h (r := 2) (by decide)) rfl rfl (Nat.le_of_ble_eq_true rfl) rfl ?_
  refine ev_Ni2 (np := 19) moX9_bitOf sX1_stateAfter_16 (sem_bit M (b := b) (p := cx C 2) (by omega) (by omega)) (Nat.le_of_ble_eq_true rfl) rfl ?_
  refine ev_iload_n (np := 20) dX1_stateAfter_19 rfl rfl ?_
  refine ev_ishl (np := 21) dX1_stateAfter_20 (by omega) rfl ?_
  refine ev_ior (np := 22) dX1_stateAfter_21 (by omega) (Int.mul_nonneg (by omega) (Int.natCast_nonneg _)) rfl ?_
  rw [show (1 : Int) + 1 = 2 from rfl, show (2 : Int).toNat = 2 from rfl, or_sh 2]
  refine ev_istore_n (np := 23) dX1_stateAfter_22 (by decide) rfl ?_
  refine ev_iinc (np := 26) dX1_stateAfter_23 rfl (by decide) rfl ?_
  refine ev_goto (np := 4) dX1_stateAfter_26 (by decide) ?_
  refine ev_iload_n (np := 5) dX1_stateAfter_4 rfl rfl ?_
  refine ev_iconst (np := 6) dX1_stateAfter_5 rfl ?_
  refine ev_icmp_ge (tgt := 29) (np := 9) dX1_stateAfter_6 (by decide) rfl (by omega) (by omega) (fun h => absurd h (by omega)) (fun _ => ?_)
  refine ev_iload_n (np := 10) dX1_stateAfter_9 rfl rfl ?_
  refine ev_iload_n (np := 11) dX1_stateAfter_10 rfl rfl ?_
  refine ev_aload_n (np := 12) dX1_stateAfter_11 rfl rfl ?_
  refine ev_iload_n (np := 13) dX1_stateAfter_12 rfl rfl ?_
  refine ev_Vi1 (np := 16) moX1_nextWire sX1_stateAfter_13 (sem_nextWire hC h (r := 3) (by decide)) rfl rfl (Nat.le_of_ble_eq_true rfl) rfl ?_
  refine ev_Ni2 (np := 19) moX9_bitOf sX1_stateAfter_16 (sem_bit M (b := b) (p := cx C 3) (by omega) (by omega)) (Nat.le_of_ble_eq_true rfl) rfl ?_
  refine ev_iload_n (np := 20) dX1_stateAfter_19 rfl rfl ?_
  refine ev_ishl (np := 21) dX1_stateAfter_20 (by omega) rfl ?_
  refine ev_ior (np := 22) dX1_stateAfter_21 (by omega) (Int.mul_nonneg (by omega) (Int.natCast_nonneg _)) rfl ?_
  rw [show (2 : Int) + 1 = 3 from rfl, show (3 : Int).toNat = 3 from rfl, or_sh 3, e]
  refine ev_istore_n (np := 23) dX1_stateAfter_22 (by decide) rfl ?_
  refine ev_iinc (np := 26) dX1_stateAfter_23 rfl (by decide) rfl ?_
  refine ev_goto (np := 4) dX1_stateAfter_26 (by decide) ?_
  refine ev_iload_n (np := 5) dX1_stateAfter_4 rfl rfl ?_
  refine ev_iconst (np := 6) dX1_stateAfter_5 rfl ?_
  refine ev_icmp_ge (tgt := 29) (np := 9) dX1_stateAfter_6 (by decide) rfl (by omega) (by omega) (fun _ => ?_) (fun h => absurd (by omega) h)
  refine ev_iload_n (np := 30) dX1_stateAfter_29 rfl rfl ?_
  refine ev_iret dX1_stateAfter_30 rfl ?_
  exact ⟨rfl, rfl⟩
theorem sem_kindOf {M : Mem} {k : Fin 4} {C : Circ} (hC : WF C) (h : CircT M k C) {g : Nat} (hg : g < cn C) : Sem ST miX1_kindOf [.inr (cC k 0), .inl (g : Int)] M (Ri (ck C g : Nat) M) := by
  refine Sem.of (by decide) ST_ok (Nat.le_of_ble_eq_true rfl) (ls0 := [some (.inr (cC k 0)), some (.inl (g : Int))]) rfl ?_
  obtain ⟨h1, h2, h3⟩ := hC.2.2.2 g hg
  have hn := hC.1
  have h4 := h2.lt (by omega)
  have h5 := h3.lt (by omega)
  refine ev_aload_n (np := 1) dX1_kindOf_0 rfl rfl ?_
  refine ev_getR (np := 4) sX1_kindOf_1 rfl rfl rfl ?_
  refine ev_iload_n (np := 5) dX1_kindOf_4 rfl rfl ?_
  refine ev_Vi1 (np := 8) moX6_get sX1_kindOf_5 (sem_get (rowG k) M (by omega)) rfl rfl (Nat.le_of_ble_eq_true rfl) rfl ?_
  rw [Int.toNat_natCast, h.g hg]
  refine ev_bipush (np := 10) dX1_kindOf_8 (by decide) rfl ?_
  refine ev_ishr (np := 11) dX1_kindOf_10 (by omega) (by omega) rfl ?_
  rw [show ((256 * ck C g + 16 * cf C g + cs C g : Nat) : Int) / ((2 ^ (8 : Int).toNat : Nat) : Int) = (ck C g : Int) by
    rw [show ((2 ^ (8 : Int).toNat : Nat) : Int) = 256 from rfl]; omega]
  refine ev_iret dX1_kindOf_11 rfl ?_
  exact ⟨rfl, rfl⟩
theorem sem_firstWire {M : Mem} {k : Fin 4} {C : Circ} (hC : WF C) (h : CircT M k C) {g : Nat} (hg : g < cn C) : Sem ST miX1_firstWire [.inr (cC k 0), .inl (g : Int)] M (Ri (cf C g : Nat) M) := by
  refine Sem.of (by decide) ST_ok (Nat.le_of_ble_eq_true rfl) (ls0 := [some (.inr (cC k 0)), some (.inl (g : Int))]) rfl ?_
  obtain ⟨h1, h2, h3⟩ := hC.2.2.2 g hg
  have hn := hC.1
  have h4 := h2.lt (by omega)
  have h5 := h3.lt (by omega)
  refine ev_aload_n (np := 1) dX1_firstWire_0 rfl rfl ?_
  refine ev_getR (np := 4) sX1_firstWire_1 rfl rfl rfl ?_
  refine ev_iload_n (np := 5) dX1_firstWire_4 rfl rfl ?_
  refine ev_Vi1 (np := 8) moX6_get sX1_firstWire_5 (sem_get (rowG k) M (by omega)) rfl rfl (Nat.le_of_ble_eq_true rfl) rfl ?_
  rw [Int.toNat_natCast, h.g hg]
  refine ev_iconst (np := 9) dX1_firstWire_8 rfl ?_
  refine ev_ishr (np := 10) dX1_firstWire_9 (by omega) (by omega) rfl ?_
  refine ev_bipush (np := 12) dX1_firstWire_10 (by decide) rfl ?_
  refine ev_iandm 4 (np := 13) dX1_firstWire_12 (by omega) rfl rfl ?_
  rw [show ((256 * ck C g + 16 * cf C g + cs C g : Nat) : Int) / ((2 ^ (4 : Int).toNat : Nat) : Int) % ((2 ^ 4 : Nat) : Int) = (cf C g : Int) by
    rw [show ((2 ^ (4 : Int).toNat : Nat) : Int) = 16 from rfl, show ((2 ^ 4 : Nat) : Int) = 16 from rfl]; omega]
  refine ev_iret dX1_firstWire_13 rfl ?_
  exact ⟨rfl, rfl⟩
theorem sem_secondWire {M : Mem} {k : Fin 4} {C : Circ} (hC : WF C) (h : CircT M k C) {g : Nat} (hg : g < cn C) : Sem ST miX1_secondWire [.inr (cC k 0), .inl (g : Int)] M (Ri (cs C g : Nat) M) := by
  refine Sem.of (by decide) ST_ok (Nat.le_of_ble_eq_true rfl) (ls0 := [some (.inr (cC k 0)), some (.inl (g : Int))]) rfl ?_
  obtain ⟨h1, h2, h3⟩ := hC.2.2.2 g hg
  have hn := hC.1
  have h4 := h2.lt (by omega)
  have h5 := h3.lt (by omega)
  refine ev_aload_n (np := 1) dX1_secondWire_0 rfl rfl ?_
  refine ev_getR (np := 4) sX1_secondWire_1 rfl rfl rfl ?_
  refine ev_iload_n (np := 5) dX1_secondWire_4 rfl rfl ?_
  refine ev_Vi1 (np := 8) moX6_get sX1_secondWire_5 (sem_get (rowG k) M (by omega)) rfl rfl (Nat.le_of_ble_eq_true rfl) rfl ?_
  rw [Int.toNat_natCast, h.g hg]
  refine ev_bipush (np := 10) dX1_secondWire_8 (by decide) rfl ?_
  refine ev_iandm 4 (np := 11) dX1_secondWire_10 (by omega) rfl rfl ?_
  rw [show ((256 * ck C g + 16 * cf C g + cs C g : Nat) : Int) % ((2 ^ 4 : Nat) : Int) = (cs C g : Int) by
    rw [show ((2 ^ 4 : Nat) : Int) = 16 from rfl]; omega]
  refine ev_iret dX1_secondWire_11 rfl ?_
  exact ⟨rfl, rfl⟩
theorem sem_gateBit (M : Mem) {k a b : Nat} (hk : k < 6) (ha : a < 2) (hb : b < 2) : Sem ST miX1_gateBit [.inl (k : Int), .inl (a : Int), .inl (b : Int)] M (Ri (gb k a b : Nat) M) := by
  refine Sem.of (by decide) ST_ok (Nat.le_of_ble_eq_true rfl) (ls0 := [some (.inl (k : Int)), some (.inl (a : Int)), some (.inl (b : Int))]) rfl ?_
  refine ev_iload_n (np := 1) dX1_gateBit_0 rfl rfl ?_
  rcases (show k = 0 ∨ k = 1 ∨ k = 2 ∨ k = 3 ∨ k = 4 ∨ k = 5 by omega) with rfl | rfl | rfl | rfl | rfl | rfl
  · refine ev_swIn (np := 36) dX1_gateBit_1 (by omega) (by omega) (by first | rfl | (simp; done)) (by decide) ?_
    refine ev_iload_n (np := 37) dX1_gateBit_36 rfl rfl ?_
    refine ev_iload_n (np := 38) dX1_gateBit_37 rfl rfl ?_
    refine ev_iand (np := 39) dX1_gateBit_38 (by omega) (by omega) rfl ?_
    refine ev_iret dX1_gateBit_39 rfl ?_
    exact ⟨rfl, rfl⟩
  · refine ev_swIn (np := 40) dX1_gateBit_1 (by omega) (by omega) (by first | rfl | (simp; done)) (by decide) ?_
    refine ev_iload_n (np := 41) dX1_gateBit_40 rfl rfl ?_
    refine ev_iload_n (np := 42) dX1_gateBit_41 rfl rfl ?_
    refine ev_ior (np := 43) dX1_gateBit_42 (by omega) (by omega) rfl ?_
    refine ev_iret dX1_gateBit_43 rfl ?_
    exact ⟨rfl, rfl⟩
  · refine ev_swIn (np := 44) dX1_gateBit_1 (by omega) (by omega) (by first | rfl | (simp; done)) (by decide) ?_
    refine ev_iload_n (np := 45) dX1_gateBit_44 rfl rfl ?_
    refine ev_iload_n (np := 46) dX1_gateBit_45 rfl rfl ?_
    refine ev_ixor (np := 47) dX1_gateBit_46 (by omega) (by omega) rfl ?_
    refine ev_iret dX1_gateBit_47 rfl ?_
    exact ⟨rfl, rfl⟩
  · refine ev_swIn (np := 48) dX1_gateBit_1 (by omega) (by omega) (by first | rfl | (simp; done)) (by decide) ?_
    refine ev_iconst (np := 49) dX1_gateBit_48 rfl ?_
    refine ev_iload_n (np := 50) dX1_gateBit_49 rfl rfl ?_
    refine ev_iload_n (np := 51) dX1_gateBit_50 rfl rfl ?_
    refine ev_iand (np := 52) dX1_gateBit_51 (by omega) (by omega) rfl ?_
    refine ev_isub (np := 53) dX1_gateBit_52 rfl ?_
    refine ev_iret dX1_gateBit_53 rfl ?_
    rw [Int.toNat_natCast, Int.toNat_natCast]
    have : a &&& b ≤ a := Nat.and_le_left
    exact ⟨by rw [show gb 3 a b = 1 - (a &&& b) from rfl]; congr 2; omega, rfl⟩
  · refine ev_swIn (np := 54) dX1_gateBit_1 (by omega) (by omega) (by first | rfl | (simp; done)) (by decide) ?_
    refine ev_iload_n (np := 55) dX1_gateBit_54 rfl rfl ?_
    refine ev_iret dX1_gateBit_55 rfl ?_
    exact ⟨rfl, rfl⟩
  · refine ev_swOut (np := 56) dX1_gateBit_1 (by omega) (by omega) (by decide) ?_
    refine ev_iconst (np := 57) dX1_gateBit_56 rfl ?_
    refine ev_iload_n (np := 58) dX1_gateBit_57 rfl rfl ?_
    refine ev_isub (np := 59) dX1_gateBit_58 rfl ?_
    refine ev_iret dX1_gateBit_59 rfl ?_
    exact ⟨by rw [show gb 5 a b = 1 - a from rfl]; congr 2; omega, rfl⟩
theorem wb_loop {M : Mem} {k : Fin 4} {C : Circ} (hC : WF C) (h : CircT M k C) {s i : Nat} (hs : s < 16) (hi : i < 4) : ∀ (m g : Nat) (u v : Option Val), g + m = cn C → Ev ST miX1_wireBits 12 [some (.inr (cC k 0)), some (.inl (s : Int)), some (.inl (i : Int)), some (.inl (wb C s i g : Nat)), some (.inl (g : Int)), u, v] [] M (Ri (wbits C s i : Nat) M) := by
  have hn := hC.1
  intro m
  induction m with
  | zero =>
    intro g u v hg
    refine ev_iload (np := 14) dX1_wireBits_12 rfl rfl ?_
    refine ev_aload_n (np := 15) dX1_wireBits_14 rfl rfl ?_
    refine ev_getI (np := 18) sX1_wireBits_15 rfl rfl rfl ?_
    rw [h.n]
    refine ev_icmp_ge (tgt := 80) (np := 21) dX1_wireBits_18 (by decide) rfl (by omega) (by omega) (fun _ => ?_) (fun h => absurd (by omega) h)
    refine ev_iload_n (np := 81) dX1_wireBits_80 rfl rfl ?_
    refine ev_iret dX1_wireBits_81 rfl ?_
    exact ⟨by rw [wbits, ← hg]; rfl, rfl⟩
  | succ m ih =>
    intro g u v hg
    have hg1 : g < cn C := by omega
    obtain ⟨h1, h2, h3⟩ := hC.2.2.2 g hg1
    have h4 := h2.lt (by omega)
    have h5 := h3.lt (by omega)
    have hb := wb_lt hC hs hi g (by omega)
    have l1 := bt_lt (wb C s i g) (cf C g)
    have l2 := bt_lt (wb C s i g) (cs C g)
    have l3 := gb_lt (ck C g) h1 _ l1 _ l2
    refine ev_iload (np := 14) dX1_wireBits_12 rfl rfl ?_
    refine ev_aload_n (np := 15) dX1_wireBits_14 rfl rfl ?_
    refine ev_getI (np := 18) sX1_wireBits_15 rfl rfl rfl ?_
    rw [h.n]
    refine ev_icmp_ge (tgt := 80) (np := 21) dX1_wireBits_18 (by decide) rfl (by omega) (by omega) (fun h => absurd h (by omega)) (fun _ => ?_)
    refine ev_iload (np := 23) dX1_wireBits_21 rfl rfl ?_
    refine ev_bipush (np := 25) dX1_wireBits_23 (by decide) rfl ?_
    refine ev_icmp_ge (tgt := 80) (np := 28) dX1_wireBits_25 (by decide) rfl (by omega) (by omega) (fun h => absurd h (by omega)) (fun _ => ?_)
    refine ev_iload_n (np := 29) dX1_wireBits_28 rfl rfl ?_
    refine ev_aload_n (np := 30) dX1_wireBits_29 rfl rfl ?_
    refine ev_iload (np := 32) dX1_wireBits_30 rfl rfl ?_
    refine ev_Vi1 (np := 35) moX1_firstWire sX1_wireBits_32 (sem_firstWire hC h hg1) rfl rfl (Nat.le_of_ble_eq_true rfl) rfl ?_
    refine ev_Ni2 (np := 38) moX9_bitOf sX1_wireBits_35 (sem_bit M (b := wb C s i g) (p := cf C g) (by omega) (by omega)) (Nat.le_of_ble_eq_true rfl) rfl ?_
    refine ev_istore (np := 40) dX1_wireBits_38 (by decide) rfl ?_
    refine ev_iload_n (np := 41) dX1_wireBits_40 rfl rfl ?_
    refine ev_aload_n (np := 42) dX1_wireBits_41 rfl rfl ?_
    refine ev_iload (np := 44) dX1_wireBits_42 rfl rfl ?_
    refine ev_Vi1 (np := 47) moX1_secondWire sX1_wireBits_44 (sem_secondWire hC h hg1) rfl rfl (Nat.le_of_ble_eq_true rfl) rfl ?_
    refine ev_Ni2 (np := 50) moX9_bitOf sX1_wireBits_47 (sem_bit M (b := wb C s i g) (p := cs C g) (by omega) (by omega)) (Nat.le_of_ble_eq_true rfl) rfl ?_
    refine ev_istore (np := 52) dX1_wireBits_50 (by decide) rfl ?_
    refine ev_iload_n (np := 53) dX1_wireBits_52 rfl rfl ?_
    refine ev_aload_n (np := 54) dX1_wireBits_53 rfl rfl ?_
    refine ev_iload (np := 56) dX1_wireBits_54 rfl rfl ?_
    refine ev_Vi1 (np := 59) moX1_kindOf sX1_wireBits_56 (sem_kindOf hC h hg1) rfl rfl (Nat.le_of_ble_eq_true rfl) rfl ?_
    refine ev_iload (np := 61) dX1_wireBits_59 rfl rfl ?_
    refine ev_iload (np := 63) dX1_wireBits_61 rfl rfl ?_
    refine ev_Si3 (np := 66) moX1_gateBit sX1_wireBits_63 (sem_gateBit M h1 l1 l2) (Nat.le_of_ble_eq_true rfl) rfl ?_
    refine ev_bipush (np := 68) dX1_wireBits_66 (by decide) rfl ?_
    refine ev_iload (np := 70) dX1_wireBits_68 rfl rfl ?_
    refine ev_iadd (np := 71) dX1_wireBits_70 rfl ?_
    refine ev_ishl (np := 72) dX1_wireBits_71 (by omega) rfl ?_
    refine ev_ior (np := 73) dX1_wireBits_72 (by omega) (Int.mul_nonneg (by omega) (Int.natCast_nonneg _)) rfl ?_
    rw [show ((6 : Int) + (g : Int)).toNat = 6 + g by omega, or_sh (6 + g)]
    refine ev_istore_n (np := 74) dX1_wireBits_73 (by decide) rfl ?_
    refine ev_iinc (np := 77) dX1_wireBits_74 rfl (by decide) rfl ?_
    refine ev_goto (np := 12) dX1_wireBits_77 (by decide) ?_
    exact ih (g + 1) _ _ (by omega)
theorem sem_wireBits {M : Mem} {k : Fin 4} {C : Circ} (hC : WF C) (h : CircT M k C) {s i : Nat} (hs : s < 16) (hi : i < 4) : Sem ST miX1_wireBits [.inr (cC k 0), .inl (s : Int), .inl (i : Int)] M (Ri (wbits C s i : Nat) M) := by
  refine Sem.of (by decide) ST_ok (Nat.le_of_ble_eq_true rfl) (ls0 := [some (.inr (cC k 0)), some (.inl (s : Int)), some (.inl (i : Int)), none, none, none, none]) rfl ?_
  refine ev_ldc (np := 2) sX1_wireBits_0 rfl ?_
  refine ev_iload_n (np := 3) dX1_wireBits_2 rfl rfl ?_
  refine ev_iconst (np := 4) dX1_wireBits_3 rfl ?_
  refine ev_ishl (np := 5) dX1_wireBits_4 (by omega) rfl ?_
  refine ev_ior (np := 6) dX1_wireBits_5 (by omega) (Int.mul_nonneg (by omega) (Int.natCast_nonneg _)) rfl ?_
  rw [show (((32768 : Int).toNat ||| ((s : Int) * ((2 ^ (2 : Int).toNat : Nat) : Int)).toNat : Nat) : Int) = ((32768 ||| s * 4 : Nat) : Int) from or_sh (a := 32768) 2]
  refine ev_iload_n (np := 7) dX1_wireBits_6 rfl rfl ?_
  refine ev_ior (np := 8) dX1_wireBits_7 (Int.natCast_nonneg _) (by omega) rfl ?_
  rw [Int.toNat_natCast, Int.toNat_natCast]
  refine ev_istore_n (np := 9) dX1_wireBits_8 (by decide) rfl ?_
  refine ev_iconst (np := 10) dX1_wireBits_9 rfl ?_
  refine ev_istore (np := 12) dX1_wireBits_10 (by decide) rfl ?_
  exact wb_loop hC h hs hi (cn C) 0 none none (by omega)
