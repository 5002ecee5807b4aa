/-! CIRCUIT: its cells as a row of numbers -/
def scell (M : Mem) (k : Fin 4) (i : Nat) : Int := if i = 0 then M (cC k 0) 0 else if i = 1 then M (cC k 0) 1 else if i < 6 then M (cC k 2) (i - 2) else M (cC k 4) (i - 6)
def CircS (f : Nat → Int) (C : Circ) : Prop := f 0 = (cn C : Int) ∧ f 1 = (co C : Int) ∧ (∀ r, r < 4 → f (2 + r) = ((2 * cx C r + cb C r : Nat) : Int)) ∧ ∀ g, g < cn C → f (6 + g) = ((256 * ck C g + 16 * cf C g + cs C g : Nat) : Int)
abbrev CircT (M : Mem) (k : Fin 4) (C : Circ) : Prop := CircS (scell M k) C
theorem CircS.of {f f' : Nat → Int} {C : Circ} (hC : WF C) (h : CircS f C) (e : ∀ i, i < 14 → f' i = f i) : CircS f' C :=
  ⟨by rw [e 0 (by decide)]; exact h.1, by rw [e 1 (by decide)]; exact h.2.1, fun r hr => by rw [e _ (by omega)]; exact h.2.2.1 r hr, fun g hg => by rw [e _ (by have := hC.1; omega)]; exact h.2.2.2 g hg⟩
theorem CircT.n {M : Mem} {k : Fin 4} {C : Circ} (h : CircT M k C) : M (cC k 0) 0 = (cn C : Int) := by have := h.1; simpa [scell] using this
theorem CircT.o {M : Mem} {k : Fin 4} {C : Circ} (h : CircT M k C) : M (cC k 0) 1 = (co C : Int) := by have := h.2.1; simpa [scell] using this
theorem CircT.r {M : Mem} {k : Fin 4} {C : Circ} (h : CircT M k C) {r : Nat} (hr : r < 4) : M (cC k 2) r = ((2 * cx C r + cb C r : Nat) : Int) := by
  have := h.2.2.1 r hr
  unfold scell at this
  rw [if_neg (by omega), if_neg (by omega), if_pos (by omega), show 2 + r - 2 = r by omega] at this
  exact this
theorem CircT.g {M : Mem} {k : Fin 4} {C : Circ} (h : CircT M k C) {g : Nat} (hg : g < cn C) : M (cC k 4) g = ((256 * ck C g + 16 * cf C g + cs C g : Nat) : Int) := by
  have := h.2.2.2 g hg
  unfold scell at this
  rw [if_neg (by omega), if_neg (by omega), if_neg (by omega), show 6 + g - 6 = g by omega] at this
  exact this
theorem rowR (k : Fin 4) : IsRow (cC k 1) (cC k 2) 4 := ⟨rfl, rfl, by decide⟩
theorem rowG (k : Fin 4) : IsRow (cC k 3) (cC k 4) 8 := ⟨rfl, rfl, by decide⟩
theorem sem_gateCount (M : Mem) (k : Fin 4) : Sem ST miX1_gateCount [.inr (cC k 0)] M (Ri (M (cC k 0) 0) M) := by
  refine Sem.of (by decide) ST_ok (Nat.le_of_ble_eq_true rfl) (ls0 := [some (.inr (cC k 0))]) rfl ?_
  refine ev_aload_n (np := 1) dX1_gateCount_0 rfl rfl ?_
  refine ev_getI (np := 4) sX1_gateCount_1 rfl rfl rfl ?_
  refine ev_iret dX1_gateCount_4 rfl ?_
  exact ⟨rfl, rfl⟩
theorem sem_outputWire (M : Mem) (k : Fin 4) : Sem ST miX1_outputWire [.inr (cC k 0)] M (Ri (M (cC k 0) 1) M) := by
  refine Sem.of (by decide) ST_ok (Nat.le_of_ble_eq_true rfl) (ls0 := [some (.inr (cC k 0))]) rfl ?_
  refine ev_aload_n (np := 1) dX1_outputWire_0 rfl rfl ?_
  refine ev_getI (np := 4) sX1_outputWire_1 rfl rfl rfl ?_
  refine ev_iret dX1_outputWire_4 rfl ?_
  exact ⟨rfl, rfl⟩
theorem sem_setOutputWire (M : Mem) (k : Fin 4) (w : Int) : Sem ST miX1_setOutputWire [.inr (cC k 0), .inl w] M (Rv (updM M (cC k 0) 1 w)) := by
  refine Sem.of (by decide) ST_ok (Nat.le_of_ble_eq_true rfl) (ls0 := [some (.inr (cC k 0)), some (.inl w)]) rfl ?_
  refine ev_aload_n (np := 1) dX1_setOutputWire_0 rfl rfl ?_
  refine ev_iload_n (np := 2) dX1_setOutputWire_1 rfl rfl ?_
  refine ev_put (np := 5) sX1_setOutputWire_2 rfl rfl rfl ?_
  refine ev_vret dX1_setOutputWire_5 rfl ?_
  exact ⟨rfl, rfl⟩
theorem sem_setRegister (M : Mem) (k : Fin 4) {r : Int} (hr : 0 ≤ r ∧ r < 4) (x b : Int) : Sem ST miX1_setRegister [.inr (cC k 0), .inl r, .inl x, .inl b] M (Rv (updM M (cC k 2) r.toNat (2 * x + b))) := by
  refine Sem.of (by decide) ST_ok (Nat.le_of_ble_eq_true rfl) (ls0 := [some (.inr (cC k 0)), some (.inl r), some (.inl x), some (.inl b)]) rfl ?_
  refine ev_aload_n (np := 1) dX1_setRegister_0 rfl rfl ?_
  refine ev_getR (np := 4) sX1_setRegister_1 rfl rfl rfl ?_
  refine ev_iload_n (np := 5) dX1_setRegister_4 rfl rfl ?_
  refine ev_iconst (np := 6) dX1_setRegister_5 rfl ?_
  refine ev_iload_n (np := 7) dX1_setRegister_6 rfl rfl ?_
  refine ev_imul (np := 8) dX1_setRegister_7 rfl ?_
  refine ev_iload_n (np := 9) dX1_setRegister_8 rfl rfl ?_
  refine ev_iadd (np := 10) dX1_setRegister_9 rfl ?_
  refine ev_Vv2 (np := 13) moX6_set sX1_setRegister_10 (sem_set (rowR k) M hr) rfl rfl (Nat.le_of_ble_eq_true rfl) rfl ?_
  refine ev_vret dX1_setRegister_13 rfl ?_
  exact ⟨rfl, rfl⟩
theorem sem_nextWire {M : Mem} {k : Fin 4} {C : Circ} (hC : WF C) (h : CircT M k C) {r : Nat} (hr : r < 4) : Sem ST miX1_nextWire [.inr (cC k 0), .inl (r : Int)] M (Ri (cx C r : Nat) M) := by
  refine Sem.of (by decide) ST_ok (Nat.le_of_ble_eq_true rfl) (ls0 := [some (.inr (cC k 0)), some (.inl (r : Int))]) rfl ?_
  obtain ⟨h1, h2⟩ := hC.2.2.1 r hr
  refine ev_aload_n (np := 1) dX1_nextWire_0 rfl rfl ?_
  refine ev_getR (np := 4) sX1_nextWire_1 rfl rfl rfl ?_
  refine ev_iload_n (np := 5) dX1_nextWire_4 rfl rfl ?_
  refine ev_Vi1 (np := 8) moX6_get sX1_nextWire_5 (sem_get (rowR k) M (by omega)) rfl rfl (Nat.le_of_ble_eq_true rfl) rfl ?_
  rw [Int.toNat_natCast, h.r hr]
  refine ev_iconst (np := 9) dX1_nextWire_8 rfl ?_
  refine ev_ishr (np := 10) dX1_nextWire_9 (by omega) (by omega) rfl ?_
  rw [show ((2 * cx C r + cb C r : Nat) : Int) / ((2 ^ (1 : Int).toNat : Nat) : Int) = (cx C r : Int) by
    rw [show ((2 ^ (1 : Int).toNat : Nat) : Int) = 2 from rfl]; omega]
  refine ev_iret dX1_nextWire_10 rfl ?_
  exact ⟨rfl, rfl⟩
theorem sem_firstBit {M : Mem} {k : Fin 4} {C : Circ} (hC : WF C) (h : CircT M k C) {r : Nat} (hr : r < 4) : Sem ST miX1_firstBit [.inr (cC k 0), .inl (r : Int)] M (Ri (cb C r : Nat) M) := by
  refine Sem.of (by decide) ST_ok (Nat.le_of_ble_eq_true rfl) (ls0 := [some (.inr (cC k 0)), some (.inl (r : Int))]) rfl ?_
  obtain ⟨h1, h2⟩ := hC.2.2.1 r hr
  refine ev_aload_n (np := 1) dX1_firstBit_0 rfl rfl ?_
  refine ev_getR (np := 4) sX1_firstBit_1 rfl rfl rfl ?_
  refine ev_iload_n (np := 5) dX1_firstBit_4 rfl rfl ?_
  refine ev_Vi1 (np := 8) moX6_get sX1_firstBit_5 (sem_get (rowR k) M (by omega)) rfl rfl (Nat.le_of_ble_eq_true rfl) rfl ?_
  rw [Int.toNat_natCast, h.r hr]
  refine ev_iconst (np := 9) dX1_firstBit_8 rfl ?_
  refine ev_iandm 1 (np := 10) dX1_firstBit_9 (by omega) rfl rfl ?_
  rw [show ((2 * cx C r + cb C r : Nat) : Int) % ((2 ^ 1 : Nat) : Int) = (cb C r : Int) by
    rw [show ((2 ^ 1 : Nat) : Int) = 2 from rfl]; omega]
  refine ev_iret dX1_firstBit_10 rfl ?_
  exact ⟨rfl, rfl⟩
/-- what a loop of four bits gathers -/
theorem or_sh {a b : Nat} (p : Nat) : ((((a : Int)).toNat ||| ((b : Int) * ((2 ^ p : Nat) : Int)).toNat : Nat) : Int) = ((a ||| b * 2 ^ p : Nat) : Int) := by
  rw [Int.toNat_natCast, ← Int.natCast_mul, Int.toNat_natCast]
theorem sem_firstState {M : Mem} {k : Fin 4} {C : Circ} (hC : WF C) (h : CircT M k C) : Sem ST miX1_firstState [.inr (cC k 0)] M (Ri (fstS C : Nat) M) := by
  refine Sem.of (by decide) ST_ok (Nat.le_of_ble_eq_true rfl) (ls0 := [some (.inr (cC k 0)), none, none]) rfl ?_
  have b0 := (hC.2.2.1 0 (by decide)).2
  have b1 := (hC.2.2.1 1 (by decide)).2
  have b2 := (hC.2.2.1 2 (by decide)).2
  have b3 := (hC.2.2.1 3 (by decide)).2
  have e := or4 _ b0 _ b1 _ b2 _ b3
  refine ev_iconst (np := 1) dX1_firstState_0 rfl ?_
  refine ev_istore_n (np := 2) dX1_firstState_1 (by decide) rfl ?_
  refine ev_iconst (np := 3) dX1_firstState_2 rfl ?_
  refine ev_istore_n (np := 4) dX1_firstState_3 (by decide) rfl ?_
  refine ev_iload_n (np := 5) dX1_firstState_4 rfl rfl ?_
  refine ev_iconst (np := 6) dX1_firstState_5 rfl ?_
  refine ev_icmp_ge (tgt := 25) (np := 9) dX1_firstState_6 (by decide) rfl (by omega) (by omega) (fun h => absurd h (by omega)) (fun _ => ?_)
  refine ev_iload_n (np := 10) dX1_firstState_9 rfl rfl ?_
  refine ev_aload_n (np := 11) dX1_firstState_10 rfl rfl ?_
  refine ev_iload_n (np := 12) dX1_firstState_11 rfl rfl ?_
  refine ev_Vi1 (np := 15) moX1_firstBit sX1_firstState_12 (sem_firstBit hC h (r := 0) (by decide)) rfl rfl (Nat.le_of_ble_eq_true rfl) rfl ?_
  refine ev_iload_n (np := 16) dX1_firstState_15 rfl rfl ?_
  refine ev_ishl (np := 17) dX1_firstState_16 (by omega) rfl ?_
  refine ev_ior (np := 18) dX1_firstState_17 (by omega) (Int.mul_nonneg (by omega) (Int.natCast_nonneg _)) rfl ?_
  rw [show (((0 : Int).toNat ||| ((cb C 0 : Int) * ((2 ^ (0 : Int).toNat : Nat) : Int)).toNat : Nat) : Int) = ((0 ||| cb C 0 * 2 ^ 0 : Nat) : Int) from or_sh (a := 0) 0]
  refine ev_istore_n (np := 19) dX1_firstState_18 (by decide) rfl ?_
  refine ev_iinc (np := 22) dX1_firstState_19 rfl (by decide) rfl ?_
  refine ev_goto (np := 4) dX1_firstState_22 (by decide) ?_
  refine ev_iload_n (np := 5) dX1_firstState_4 rfl rfl ?_
  refine ev_iconst (np := 6) dX1_firstState_5 rfl ?_
  refine ev_icmp_ge (tgt := 25) (np := 9) dX1_firstState_6 (by decide) rfl (by omega) (by omega) (fun h => absurd h (by omega)) (fun _ => ?_)
  refine ev_iload_n (np := 10) dX1_firstState_9 rfl rfl ?_
  refine ev_aload_n (np := 11) dX1_firstState_10 rfl rfl ?_
  refine ev_iload_n (np := 12) dX1_firstState_11 rfl rfl ?_
  refine ev_Vi1 (np := 15) moX1_firstBit sX1_firstState_12 (sem_firstBit hC h (r := 1) (by decide)) rfl rfl (Nat.le_of_ble_eq_true rfl) rfl ?_
  refine ev_iload_n (np := 16) dX1_firstState_15 rfl rfl ?_
  refine ev_ishl (np := 17) dX1_firstState_16 (by omega) rfl ?_
  refine ev_ior (np := 18) dX1_firstState_17 (by omega) (Int.mul_nonneg (by omega) (Int.natCast_nonneg _)) rfl ?_
  rw [show (0 : Int) + 1 = 1 from rfl, show (1 : Int).toNat = 1 from rfl, or_sh 1]
  refine ev_istore_n (np := 19) dX1_firstState_18 (by decide) rfl ?_
  refine ev_iinc (np := 22) dX1_firstState_19 rfl (by decide) rfl ?_
  refine ev_goto (np := 4) dX1_firstState_22 (by decide) ?_
  refine ev_iload_n (np := 5) dX1_firstState_4 rfl rfl ?_
  refine ev_iconst (np := 6) dX1_firstState_5 rfl ?_
  refine ev_icmp_ge (tgt := 25) (np := 9) dX1_firstState_6 (by decide) rfl (by omega) (by omega) (fun h => absurd h (by omega)) (fun _ => ?_)
  refine ev_iload_n (np := 10) dX1_firstState_9 rfl rfl ?_
  refine ev_aload_n (np := 11) dX1_firstState_10 rfl rfl ?_
  refine ev_iload_n (np := 12) dX1_firstState_11 rfl rfl ?_
  refine ev_Vi1 (np := 15) moX1_firstBit sX1_firstState_12 (sem_firstBit hC h (r := 2) (by decide)) rfl rfl (Nat.le_of_ble_eq_true rfl) rfl ?_
  refine ev_iload_n (np := 16) dX1_firstState_15 rfl rfl ?_
  refine ev_ishl (np := 17) dX1_firstState_16 (by omega) rfl ?_
  refine ev_ior (np := 18) dX1_firstState_17 (by omega) (Int.mul_nonneg (by omega) (Int.natCast_nonneg _)) rfl ?_
  rw [show (1 : Int) + 1 = 2 from rfl, show (2 : Int).toNat = 2 from rfl, or_sh 2]
  refine ev_istore_n (np := 19) dX1_firstState_18 (by decide) rfl ?_
  refine ev_iinc (np := 22) dX1_firstState_19 rfl (by decide) rfl ?_
  refine ev_goto (np := 4) dX1_firstState_22 (by decide) ?_
  refine ev_iload_n (np := 5) dX1_firstState_4 rfl rfl ?_
  refine ev_iconst (np := 6) dX1_firstState_5 rfl ?_
  refine ev_icmp_ge (tgt := 25) (np := 9) dX1_firstState_6 (by decide) rfl (by omega) (by omega) (fun h => absurd h (by omega)) (fun _ => ?_)
  refine ev_iload_n (np := 10) dX1_firstState_9 rfl rfl ?_
  refine ev_aload_n (np := 11) dX1_firstState_10 rfl rfl ?_
  refine ev_iload_n (np := 12) dX1_firstState_11 rfl rfl ?_
  refine ev_Vi1 (np := 15) moX1_firstBit sX1_firstState_12 (sem_firstBit hC h (r := 3) (by decide)) rfl rfl (Nat.le_of_ble_eq_true rfl) rfl ?_
  refine ev_iload_n (np := 16) dX1_firstState_15 rfl rfl ?_
  refine ev_ishl (np := 17) dX1_firstState_16 (by omega) rfl ?_
  refine ev_ior (np := 18) dX1_firstState_17 (by omega) (Int.mul_nonneg (by omega) (Int.natCast_nonneg _)) rfl ?_
  rw [show (2 : Int) + 1 = 3 from rfl, show (3 : Int).toNat = 3 from rfl, or_sh 3, e]
  refine ev_istore_n (np := 19) dX1_firstState_18 (by decide) rfl ?_
  refine ev_iinc (np := 22) dX1_firstState_19 rfl (by decide) rfl ?_
  refine ev_goto (np := 4) dX1_firstState_22 (by decide) ?_
  refine ev_iload_n (np := 5) dX1_firstState_4 rfl rfl ?_
  refine ev_iconst (np := 6) dX1_firstState_5 rfl ?_
  refine ev_icmp_ge (tgt := 25) (np := 9) dX1_firstState_6 (by decide) rfl (by omega) (by omega) (fun _ => ?_) (fun h => absurd (by omega) h)
  refine ev_iload_n (np := 26) dX1_firstState_25 rfl rfl ?_
  refine ev_iret dX1_firstState_26 rfl ?_
  exact ⟨rfl, rfl⟩
