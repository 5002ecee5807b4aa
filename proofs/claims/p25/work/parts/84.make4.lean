/-! THE CONSTRUCTORS, the circuits and what holds them (out of the listing) -/
theorem kv_eq {q : MI} {C Sl : Nat} {w0 : va_W} {ll : List (Nat × Value)} {D : va_G} {ty : Bool → ClassId} {Q : va_W → Prop} {pc : Nat} {st : List Value} {k n : Nat} {ws ws2 : va_W} (h : ws = ws2) (kk : Kv q C Sl w0 ll D ty Q pc st k n ws2) : Kv q C Sl w0 ll D ty Q pc st k n ws := by rw [h]; exact kk
theorem con_X1 (h : Nat) : Con miX1_init 4 14 [.ref h] [(h, .inr (1, [.int 0, .int 0, .null, .null]))] (fun ty w => ∃ (a5 b10 a17 b23 : Nat) (M1 : Mem), CircT M1 0 newC ∧ w = [(h, .inr (1, [.int (Int32.ofInt (M1 (cC 0 0) 0)), .int (Int32.ofInt (M1 (cC 0 0) 1)), .ref a5, .ref a17])), (a5, .inr (6, [.ref b10])), (b10, .inl (ty false, 4, .inl (fun j => Int32.ofInt (M1 (cC 0 2) j)))), (a17, .inr (6, [.ref b23])), (b23, .inl (ty false, 8, .inl (fun j => Int32.ofInt (M1 (cC 0 4) j))))]) := by
  refine Con.of (by decide) rfl (Nat.le_of_ble_eq_true rfl) (fun D ty => ?_)
  refine kv_aload0 dX1_init_0 rfl rfl ?_
  refine kv_obj dX1_init_1 (inT1 25 rfl rfl) (inT1 18 rfl rfl) (inT1 19 rfl rfl) (by decide) (by decide) rfl ?_
  refine kv_aload0 dX1_init_4 rfl rfl ?_
  refine kv_new (ci := 6) (fs := [.null]) dX1_init_5 rfl uwX6 tyX6_ok (inT1 26 rfl rfl) (inT1 27 rfl rfl) (inT1 3 rfl rfl) (fun j hj => by rcases (show j = 0 by omega) with rfl <;> rfl) (by decide) (by decide) rfl (fun a5 => ?_)
  refine kv_dup dX1_init_8 rfl ?_
  refine kv_iconst (v := 4) dX1_init_9 (by decide) rfl ?_
  refine kv_con (a := a5) (As := [.int 4]) (rest := [.ref a5, .ref h]) (con_X6 a5 (v := 4) (N := 4) (by decide) (by decide) (by decide)) dX1_init_10 (inT1 28 rfl rfl) (inT1 29 rfl rfl) (inT1 3 rfl rfl) (inT1 30 rfl rfl) rfl rfl ⟨by decide, by decide, by decide +kernel⟩ ⟨by decide, by decide⟩ rfl (Nat.le_of_ble_eq_true rfl) (by decide) (by decide) rfl ?_
  rintro _ ⟨b10, rfl⟩
  refine kv_putF (ci := 1) (i := 2) (q0 := 0) (v := .ref a5) dX1_init_13 rfl uwX1 tyX1_ok nmX1 (inT1 51 rfl rfl) (by decide) rfl rfl (tyX1_ok 2 (by decide)) rfl rfl rfl (Nat.le_of_ble_eq_true rfl) rfl ?_
  refine kv_aload0 dX1_init_16 rfl rfl ?_
  refine kv_new (ci := 6) (fs := [.null]) dX1_init_17 rfl uwX6 tyX6_ok (inT1 26 rfl rfl) (inT1 27 rfl rfl) (inT1 3 rfl rfl) (fun j hj => by rcases (show j = 0 by omega) with rfl <;> rfl) (by decide) (by decide) rfl (fun a17 => ?_)
  refine kv_dup dX1_init_20 rfl ?_
  refine kv_bipush (v := 8) dX1_init_21 (by decide) rfl ?_
  refine kv_con (a := a17) (As := [.int 8]) (rest := [.ref a17, .ref h]) (con_X6 a17 (v := 8) (N := 8) (by decide) (by decide) (by decide)) dX1_init_23 (inT1 28 rfl rfl) (inT1 29 rfl rfl) (inT1 3 rfl rfl) (inT1 30 rfl rfl) rfl rfl ⟨by decide, by decide, by decide +kernel⟩ ⟨by decide, by decide⟩ rfl (Nat.le_of_ble_eq_true rfl) (by decide) (by decide) rfl ?_
  rintro _ ⟨b23, rfl⟩
  refine kv_putF (ci := 1) (i := 3) (q0 := 0) (v := .ref a17) dX1_init_26 rfl uwX1 tyX1_ok nmX1 (inT1 52 rfl rfl) (by decide) rfl rfl (tyX1_ok 3 (by decide)) rfl rfl rfl (Nat.le_of_ble_eq_true rfl) rfl ?_
  refine kv_aload0 dX1_init_29 rfl rfl ?_
  refine kv_sem0 (S := SC) (ad := fun c => match c with | .inr (.inl (_, o)) => [h, a5, b10, a17, b23].getD o 0 | _ => 0) (M := fun _ _ => 0) (c0 := cC 0 0) (ci := 1) (rest := []) (sem_startAnewC _) moX1_startAnew sX1_init_30 SC_ok rfl rfl rfl rfl (Nat.le_of_ble_eq_true rfl) (by decide) (by decide) rfl ?_
  rintro _ M1 ⟨rfl, hM1⟩
  exact kv_ret dX1_init_33 rfl ⟨a5, b10, a17, b23, M1, hM1, rfl⟩
theorem con_X5 (h : Nat) : Con miX5_init 5 18 [.ref h] [(h, .inr (5, [.null, .int 0, .int 0, .int 0]))] (fun ty w => ∃ (a5 a5_9 b10_9 a17_9 b23_9 : Nat) (M1_9 : Mem), CircT M1_9 0 newC ∧ w = [(h, .inr (5, [.ref a5, .int 0, .int 0, .int 0])), (a5, .inr (1, [.int (Int32.ofInt (M1_9 (cC 0 0) 0)), .int (Int32.ofInt (M1_9 (cC 0 0) 1)), .ref a5_9, .ref a17_9])), (a5_9, .inr (6, [.ref b10_9])), (b10_9, .inl (ty false, 4, .inl (fun j => Int32.ofInt (M1_9 (cC 0 2) j)))), (a17_9, .inr (6, [.ref b23_9])), (b23_9, .inl (ty false, 8, .inl (fun j => Int32.ofInt (M1_9 (cC 0 4) j))))]) := by
  refine Con.of (by decide) rfl (Nat.le_of_ble_eq_true rfl) (fun D ty => ?_)
  refine kv_aload0 dX5_init_0 rfl rfl ?_
  refine kv_obj dX5_init_1 (inT1 175 rfl rfl) (inT1 18 rfl rfl) (inT1 19 rfl rfl) (by decide) (by decide) rfl ?_
  refine kv_aload0 dX5_init_4 rfl rfl ?_
  refine kv_new (ci := 1) (fs := [.int 0, .int 0, .null, .null]) dX5_init_5 rfl uwX1 tyX1_ok (inT1 176 rfl rfl) (inT1 21 rfl rfl) (inT1 2 rfl rfl) (fun j hj => by rcases (show j = 0 ∨ j = 1 ∨ j = 2 ∨ j = 3 by omega) with rfl | rfl | rfl | rfl <;> rfl) (by decide) (by decide) rfl (fun a5 => ?_)
  refine kv_dup dX5_init_8 rfl ?_
  refine kv_con (a := a5) (As := []) (rest := [.ref a5, .ref h]) (con_X1 a5) dX5_init_9 (inT1 177 rfl rfl) (inT1 23 rfl rfl) (inT1 2 rfl rfl) (inT1 24 rfl rfl) rfl rfl ⟨by decide, by decide, by decide +kernel⟩ ⟨by decide, by decide⟩ rfl (Nat.le_of_ble_eq_true rfl) (by decide) (by decide) rfl ?_
  rintro _ ⟨a5_9, b10_9, a17_9, b23_9, M1_9, hM1_9, rfl⟩
  refine kv_putF (ci := 5) (i := 0) (q0 := 0) (v := .ref a5) dX5_init_12 rfl uwX5 tyX5_ok nmX5 (inT1 178 rfl rfl) (by decide) rfl rfl (tyX5_ok 0 (by decide)) rfl rfl rfl (Nat.le_of_ble_eq_true rfl) rfl ?_
  exact kv_ret dX5_init_15 rfl ⟨a5, a5_9, b10_9, a17_9, b23_9, M1_9, hM1_9, rfl⟩
