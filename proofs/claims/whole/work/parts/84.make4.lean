/-! THE CONSTRUCTORS, the circuits and what holds them (out of the listing) -/
theorem con_X1 (h : Nat) : Con miX1_init 4 14 [.ref h] [(h, .inr (1, [.int 0, .int 0, .null, .null]))] (fun ty w => ∃ (a5 b10 a17 b23 : Nat) (M1 : Mem), CircT M1 0 newC ∧ w = [(h, .inr (1, [.int (Int32.ofInt (M1 (cC 0 0) 0)), .int (Int32.ofInt (M1 (cC 0 0) 1)), .ref a5, .ref a17])), (a5, .inr (6, [.ref b10])), (b10, .inl (ty false, 4, .inl (fun j => Int32.ofInt (M1 (cC 0 2) j)))), (a17, .inr (6, [.ref b23])), (b23, .inl (ty false, 8, .inl (fun j => Int32.ofInt (M1 (cC 0 4) j))))]) := by
  refine Con.of (by decide) rfl (Nat.le_of_ble_eq_true rfl) (fun D ty => ?_)
  refine kv_aload0 dX1_init_0 rfl rfl ?_
  refine kv_obj dX1_init_1 (inT1 26 rfl rfl) (inT1 19 rfl rfl) (inT1 20 rfl rfl) (by decide) (by decide) rfl ?_
  refine kv_aload0 dX1_init_4 rfl rfl ?_
  refine kv_new (ci := 6) (fs := [.null]) dX1_init_5 rfl uwX6 tyX6_ok (inT1 27 rfl rfl) (inT1 28 rfl rfl) (inT1 3 rfl rfl) (fun j hj => by rcases (show j = 0 by omega) with rfl <;> rfl) (by decide) (by decide) rfl (fun a5 => ?_)
  refine kv_dup dX1_init_8 rfl ?_
  refine kv_iconst (v := 4) dX1_init_9 (by decide) rfl ?_
  refine kv_con (a := a5) (As := [.int 4]) (rest := [.ref a5, .ref h]) (con_X6 a5 (v := 4) (N := 4) (by decide) (by decide) (by decide)) dX1_init_10 (inT1 29 rfl rfl) (inT1 30 rfl rfl) (inT1 3 rfl rfl) (inT1 31 rfl rfl) rfl rfl ⟨by decide, by decide, by decide +kernel⟩ ⟨by decide, by decide⟩ rfl (Nat.le_of_ble_eq_true rfl) (by decide) (by decide) rfl ?_
  rintro _ ⟨b10, rfl⟩
  refine kv_putF (ci := 1) (i := 2) (q0 := 0) (v := .ref a5) dX1_init_13 rfl uwX1 tyX1_ok nmX1 (inT1 52 rfl rfl) (by decide) rfl rfl (tyX1_ok 2 (by decide)) rfl rfl rfl (Nat.le_of_ble_eq_true rfl) rfl ?_
  refine kv_aload0 dX1_init_16 rfl rfl ?_
  refine kv_new (ci := 6) (fs := [.null]) dX1_init_17 rfl uwX6 tyX6_ok (inT1 27 rfl rfl) (inT1 28 rfl rfl) (inT1 3 rfl rfl) (fun j hj => by rcases (show j = 0 by omega) with rfl <;> rfl) (by decide) (by decide) rfl (fun a17 => ?_)
  refine kv_dup dX1_init_20 rfl ?_
  refine kv_bipush (v := 8) dX1_init_21 (by decide) rfl ?_
  refine kv_con (a := a17) (As := [.int 8]) (rest := [.ref a17, .ref h]) (con_X6 a17 (v := 8) (N := 8) (by decide) (by decide) (by decide)) dX1_init_23 (inT1 29 rfl rfl) (inT1 30 rfl rfl) (inT1 3 rfl rfl) (inT1 31 rfl rfl) rfl rfl ⟨by decide, by decide, by decide +kernel⟩ ⟨by decide, by decide⟩ rfl (Nat.le_of_ble_eq_true rfl) (by decide) (by decide) rfl ?_
  rintro _ ⟨b23, rfl⟩
  refine kv_putF (ci := 1) (i := 3) (q0 := 0) (v := .ref a17) dX1_init_26 rfl uwX1 tyX1_ok nmX1 (inT1 53 rfl rfl) (by decide) rfl rfl (tyX1_ok 3 (by decide)) rfl rfl rfl (Nat.le_of_ble_eq_true rfl) rfl ?_
  refine kv_aload0 dX1_init_29 rfl rfl ?_
  refine kv_sem0 (S := SC) (ad := fun c => match c with | .inr (.inl (_, o)) => [h, a5, b10, a17, b23].getD o 0 | _ => 0) (M := fun _ _ => 0) (c0 := cC 0 0) (ci := 1) (rest := []) (sem_startAnewC _) moX1_startAnew sX1_init_30 SC_ok rfl rfl rfl rfl (Nat.le_of_ble_eq_true rfl) (by decide) (by decide) rfl ?_
  rintro _ M1 ⟨rfl, hM1⟩
  exact kv_ret dX1_init_33 rfl ⟨a5, b10, a17, b23, M1, hM1, rfl⟩
theorem con_X5 (h : Nat) : Con miX5_init 5 18 [.ref h] [(h, .inr (5, [.null, .int 0, .int 0, .int 0]))] (fun ty w => ∃ (a5 a5_9 b10_9 a17_9 b23_9 : Nat) (M1_9 : Mem), CircT M1_9 0 newC ∧ w = [(h, .inr (5, [.ref a5, .int 0, .int 0, .int 0])), (a5, .inr (1, [.int (Int32.ofInt (M1_9 (cC 0 0) 0)), .int (Int32.ofInt (M1_9 (cC 0 0) 1)), .ref a5_9, .ref a17_9])), (a5_9, .inr (6, [.ref b10_9])), (b10_9, .inl (ty false, 4, .inl (fun j => Int32.ofInt (M1_9 (cC 0 2) j)))), (a17_9, .inr (6, [.ref b23_9])), (b23_9, .inl (ty false, 8, .inl (fun j => Int32.ofInt (M1_9 (cC 0 4) j))))]) := by
  refine Con.of (by decide) rfl (Nat.le_of_ble_eq_true rfl) (fun D ty => ?_)
  refine kv_aload0 dX5_init_0 rfl rfl ?_
  refine kv_obj dX5_init_1 (inT1 176 rfl rfl) (inT1 19 rfl rfl) (inT1 20 rfl rfl) (by decide) (by decide) rfl ?_
  refine kv_aload0 dX5_init_4 rfl rfl ?_
  refine kv_new (ci := 1) (fs := [.int 0, .int 0, .null, .null]) dX5_init_5 rfl uwX1 tyX1_ok (inT1 177 rfl rfl) (inT1 22 rfl rfl) (inT1 2 rfl rfl) (fun j hj => by rcases (show j = 0 ∨ j = 1 ∨ j = 2 ∨ j = 3 by omega) with rfl | rfl | rfl | rfl <;> rfl) (by decide) (by decide) rfl (fun a5 => ?_)
  refine kv_dup dX5_init_8 rfl ?_
  refine kv_con (a := a5) (As := []) (rest := [.ref a5, .ref h]) (con_X1 a5) dX5_init_9 (inT1 178 rfl rfl) (inT1 24 rfl rfl) (inT1 2 rfl rfl) (inT1 25 rfl rfl) rfl rfl ⟨by decide, by decide, by decide +kernel⟩ ⟨by decide, by decide⟩ rfl (Nat.le_of_ble_eq_true rfl) (by decide) (by decide) rfl ?_
  rintro _ ⟨a5_9, b10_9, a17_9, b23_9, M1_9, hM1_9, rfl⟩
  refine kv_putF (ci := 5) (i := 0) (q0 := 0) (v := .ref a5) dX5_init_12 rfl uwX5 tyX5_ok nmX5 (inT1 179 rfl rfl) (by decide) rfl rfl (tyX5_ok 0 (by decide)) rfl rfl rfl (Nat.le_of_ble_eq_true rfl) rfl ?_
  exact kv_ret dX5_init_15 rfl ⟨a5, a5_9, b10_9, a17_9, b23_9, M1_9, hM1_9, rfl⟩
theorem con_X9 (h : Nat) : Con miX9_init 63 18485 [.ref h] [(h, .inr (9, [.null, .null, .null, .null, .null, .null, .null, .null, .null, .null, .null, .null]))] (fun ty w => ∃ (a5 a5_9 b10_9 a17_9 b23_9 a16 a5_20 b10_20 a17_20 b23_20 a27 a5_31 b10_31 a17_31 b23_31 a38 a5_42 b11_42 a18_42 b24_42 a49 a5_53 b11_53 a18_53 b24_53 a60 a5_64 b11_64 a18_64 b24_64 a71 a5_75 b12_75 a19_75 b26_75 a33_75 b40_75 a47_75 b54_75 a61_75 b68_75 a75_75 b82_75 a82 a5_86 b12_86 a19_86 b26_86 a93 a5_97 b11_97 a104 a5_108 b11_108 a115 a5_119 b11_119 a126 a5_130 a5_9_130 b10_9_130 a17_9_130 b23_9_130 : Nat) (M1_9 M1_20 M1_31 M1_9_130 : Mem), CircT M1_9 0 newC ∧ CircT M1_20 0 newC ∧ CircT M1_31 0 newC ∧ CircT M1_9_130 0 newC ∧ w = [(h, .inr (9, [.ref a5, .ref a16, .ref a27, .ref a38, .ref a49, .ref a60, .ref a71, .ref a82, .ref a93, .ref a104, .ref a115, .ref a126])), (a5, .inr (1, [.int (Int32.ofInt (M1_9 (cC 0 0) 0)), .int (Int32.ofInt (M1_9 (cC 0 0) 1)), .ref a5_9, .ref a17_9])), (a5_9, .inr (6, [.ref b10_9])), (b10_9, .inl (ty false, 4, .inl (fun j => Int32.ofInt (M1_9 (cC 0 2) j)))), (a17_9, .inr (6, [.ref b23_9])), (b23_9, .inl (ty false, 8, .inl (fun j => Int32.ofInt (M1_9 (cC 0 4) j)))), (a16, .inr (1, [.int (Int32.ofInt (M1_20 (cC 0 0) 0)), .int (Int32.ofInt (M1_20 (cC 0 0) 1)), .ref a5_20, .ref a17_20])), (a5_20, .inr (6, [.ref b10_20])), (b10_20, .inl (ty false, 4, .inl (fun j => Int32.ofInt (M1_20 (cC 0 2) j)))), (a17_20, .inr (6, [.ref b23_20])), (b23_20, .inl (ty false, 8, .inl (fun j => Int32.ofInt (M1_20 (cC 0 4) j)))), (a27, .inr (1, [.int (Int32.ofInt (M1_31 (cC 0 0) 0)), .int (Int32.ofInt (M1_31 (cC 0 0) 1)), .ref a5_31, .ref a17_31])), (a5_31, .inr (6, [.ref b10_31])), (b10_31, .inl (ty false, 4, .inl (fun j => Int32.ofInt (M1_31 (cC 0 2) j)))), (a17_31, .inr (6, [.ref b23_31])), (b23_31, .inl (ty false, 8, .inl (fun j => Int32.ofInt (M1_31 (cC 0 4) j)))), (a38, .inr (7, [.ref a5_42, .ref a18_42, .int 0])), (a5_42, .inr (6, [.ref b11_42])), (b11_42, .inl (ty false, 64, .inl (fun _ => 0))), (a18_42, .inr (6, [.ref b24_42])), (b24_42, .inl (ty false, 16, .inl (fun _ => 0))), (a49, .inr (7, [.ref a5_53, .ref a18_53, .int 0])), (a5_53, .inr (6, [.ref b11_53])), (b11_53, .inl (ty false, 64, .inl (fun _ => 0))), (a18_53, .inr (6, [.ref b24_53])), (b24_53, .inl (ty false, 16, .inl (fun _ => 0))), (a60, .inr (7, [.ref a5_64, .ref a18_64, .int 0])), (a5_64, .inr (6, [.ref b11_64])), (b11_64, .inl (ty false, 64, .inl (fun _ => 0))), (a18_64, .inr (6, [.ref b24_64])), (b24_64, .inl (ty false, 16, .inl (fun _ => 0))), (a71, .inr (4, [.ref a5_75, .ref a19_75, .ref a33_75, .ref a47_75, .ref a61_75, .ref a75_75, .int 0])), (a5_75, .inr (6, [.ref b12_75])), (b12_75, .inl (ty false, 256, .inl (fun _ => 0))), (a19_75, .inr (6, [.ref b26_75])), (b26_75, .inl (ty false, 256, .inl (fun _ => 0))), (a33_75, .inr (6, [.ref b40_75])), (b40_75, .inl (ty false, 256, .inl (fun _ => 0))), (a47_75, .inr (6, [.ref b54_75])), (b54_75, .inl (ty false, 256, .inl (fun _ => 0))), (a61_75, .inr (6, [.ref b68_75])), (b68_75, .inl (ty false, 256, .inl (fun _ => 0))), (a75_75, .inr (6, [.ref b82_75])), (b82_75, .inl (ty false, 256, .inl (fun _ => 0))), (a82, .inr (3, [.ref a5_86, .ref a19_86, .int 0])), (a5_86, .inr (6, [.ref b12_86])), (b12_86, .inl (ty false, 8192, .inl (fun _ => 0))), (a19_86, .inr (6, [.ref b26_86])), (b26_86, .inl (ty false, 8192, .inl (fun _ => 0))), (a93, .inr (0, [.ref a5_97])), (a5_97, .inr (6, [.ref b11_97])), (b11_97, .inl (ty false, 16, .inl (fun _ => 0))), (a104, .inr (2, [.ref a5_108, .int 0])), (a5_108, .inr (6, [.ref b11_108])), (b11_108, .inl (ty false, 112, .inl (fun _ => 0))), (a115, .inr (8, [.ref a5_119, .int 0])), (a5_119, .inr (6, [.ref b11_119])), (b11_119, .inl (ty false, 80, .inl (fun _ => 0))), (a126, .inr (5, [.ref a5_130, .int 0, .int 0, .int 0])), (a5_130, .inr (1, [.int (Int32.ofInt (M1_9_130 (cC 0 0) 0)), .int (Int32.ofInt (M1_9_130 (cC 0 0) 1)), .ref a5_9_130, .ref a17_9_130])), (a5_9_130, .inr (6, [.ref b10_9_130])), (b10_9_130, .inl (ty false, 4, .inl (fun j => Int32.ofInt (M1_9_130 (cC 0 2) j)))), (a17_9_130, .inr (6, [.ref b23_9_130])), (b23_9_130, .inl (ty false, 8, .inl (fun j => Int32.ofInt (M1_9_130 (cC 0 4) j))))]) := by
  refine Con.of (by decide) rfl (Nat.le_of_ble_eq_true rfl) (fun D ty => ?_)
  refine kv_aload0 dX9_init_0 rfl rfl ?_
  refine kv_obj dX9_init_1 (inT1 18 rfl rfl) (inT1 19 rfl rfl) (inT1 20 rfl rfl) (by decide) (by decide) rfl ?_
  refine kv_aload0 dX9_init_4 rfl rfl ?_
  refine kv_new (ci := 1) (fs := [.int 0, .int 0, .null, .null]) dX9_init_5 rfl uwX1 tyX1_ok (inT1 21 rfl rfl) (inT1 22 rfl rfl) (inT1 2 rfl rfl) (fun j hj => by rcases (show j = 0 ∨ j = 1 ∨ j = 2 ∨ j = 3 by omega) with rfl | rfl | rfl | rfl <;> rfl) (by decide) (by decide) rfl (fun a5 => ?_)
  refine kv_dup dX9_init_8 rfl ?_
  refine kv_con (a := a5) (As := []) (rest := [.ref a5, .ref h]) (con_X1 a5) dX9_init_9 (inT1 23 rfl rfl) (inT1 24 rfl rfl) (inT1 2 rfl rfl) (inT1 25 rfl rfl) rfl rfl ⟨by decide, by decide, by decide +kernel⟩ ⟨by decide, by decide⟩ rfl (Nat.le_of_ble_eq_true rfl) (by decide) (by decide) rfl ?_
  rintro _ ⟨a5_9, b10_9, a17_9, b23_9, M1_9, hM1_9, rfl⟩
  refine kv_putF (ci := 9) (i := 0) (q0 := 0) (v := .ref a5) dX9_init_12 rfl uwX9 tyX9_ok nmX9 (inT1 192 rfl rfl) (by decide) rfl rfl (tyX9_ok 0 (by decide)) rfl rfl rfl (Nat.le_of_ble_eq_true rfl) rfl ?_
  refine kv_aload0 dX9_init_15 rfl rfl ?_
  refine kv_new (ci := 1) (fs := [.int 0, .int 0, .null, .null]) dX9_init_16 rfl uwX1 tyX1_ok (inT1 21 rfl rfl) (inT1 22 rfl rfl) (inT1 2 rfl rfl) (fun j hj => by rcases (show j = 0 ∨ j = 1 ∨ j = 2 ∨ j = 3 by omega) with rfl | rfl | rfl | rfl <;> rfl) (by decide) (by decide) rfl (fun a16 => ?_)
  refine kv_dup dX9_init_19 rfl ?_
  refine kv_con (a := a16) (As := []) (rest := [.ref a16, .ref h]) (con_X1 a16) dX9_init_20 (inT1 23 rfl rfl) (inT1 24 rfl rfl) (inT1 2 rfl rfl) (inT1 25 rfl rfl) rfl rfl ⟨by decide, by decide, by decide +kernel⟩ ⟨by decide, by decide⟩ rfl (Nat.le_of_ble_eq_true rfl) (by decide) (by decide) rfl ?_
  rintro _ ⟨a5_20, b10_20, a17_20, b23_20, M1_20, hM1_20, rfl⟩
  refine kv_putF (ci := 9) (i := 1) (q0 := 0) (v := .ref a16) dX9_init_23 rfl uwX9 tyX9_ok nmX9 (inT1 193 rfl rfl) (by decide) rfl rfl (tyX9_ok 1 (by decide)) rfl rfl rfl (Nat.le_of_ble_eq_true rfl) rfl ?_
  refine kv_aload0 dX9_init_26 rfl rfl ?_
  refine kv_new (ci := 1) (fs := [.int 0, .int 0, .null, .null]) dX9_init_27 rfl uwX1 tyX1_ok (inT1 21 rfl rfl) (inT1 22 rfl rfl) (inT1 2 rfl rfl) (fun j hj => by rcases (show j = 0 ∨ j = 1 ∨ j = 2 ∨ j = 3 by omega) with rfl | rfl | rfl | rfl <;> rfl) (by decide) (by decide) rfl (fun a27 => ?_)
  refine kv_dup dX9_init_30 rfl ?_
  refine kv_con (a := a27) (As := []) (rest := [.ref a27, .ref h]) (con_X1 a27) dX9_init_31 (inT1 23 rfl rfl) (inT1 24 rfl rfl) (inT1 2 rfl rfl) (inT1 25 rfl rfl) rfl rfl ⟨by decide, by decide, by decide +kernel⟩ ⟨by decide, by decide⟩ rfl (Nat.le_of_ble_eq_true rfl) (by decide) (by decide) rfl ?_
  rintro _ ⟨a5_31, b10_31, a17_31, b23_31, M1_31, hM1_31, rfl⟩
  refine kv_putF (ci := 9) (i := 2) (q0 := 0) (v := .ref a27) dX9_init_34 rfl uwX9 tyX9_ok nmX9 (inT1 194 rfl rfl) (by decide) rfl rfl (tyX9_ok 2 (by decide)) rfl rfl rfl (Nat.le_of_ble_eq_true rfl) rfl ?_
  refine kv_aload0 dX9_init_37 rfl rfl ?_
  refine kv_new (ci := 7) (fs := [.null, .null, .int 0]) dX9_init_38 rfl uwX7 tyX7_ok (inT1 63 rfl rfl) (inT1 64 rfl rfl) (inT1 4 rfl rfl) (fun j hj => by rcases (show j = 0 ∨ j = 1 ∨ j = 2 by omega) with rfl | rfl | rfl <;> rfl) (by decide) (by decide) rfl (fun a38 => ?_)
  refine kv_dup dX9_init_41 rfl ?_
  refine kv_con (a := a38) (As := []) (rest := [.ref a38, .ref h]) (con_X7 a38) dX9_init_42 (inT1 65 rfl rfl) (inT1 66 rfl rfl) (inT1 4 rfl rfl) (inT1 67 rfl rfl) rfl rfl ⟨by decide, by decide, by decide +kernel⟩ ⟨by decide, by decide⟩ rfl (Nat.le_of_ble_eq_true rfl) (by decide) (by decide) rfl ?_
  rintro _ ⟨a5_42, b11_42, a18_42, b24_42, rfl⟩
  refine kv_putF (ci := 9) (i := 3) (q0 := 0) (v := .ref a38) dX9_init_45 rfl uwX9 tyX9_ok nmX9 (inT1 195 rfl rfl) (by decide) rfl rfl (tyX9_ok 3 (by decide)) rfl rfl rfl (Nat.le_of_ble_eq_true rfl) rfl ?_
  refine kv_aload0 dX9_init_48 rfl rfl ?_
  refine kv_new (ci := 7) (fs := [.null, .null, .int 0]) dX9_init_49 rfl uwX7 tyX7_ok (inT1 63 rfl rfl) (inT1 64 rfl rfl) (inT1 4 rfl rfl) (fun j hj => by rcases (show j = 0 ∨ j = 1 ∨ j = 2 by omega) with rfl | rfl | rfl <;> rfl) (by decide) (by decide) rfl (fun a49 => ?_)
  refine kv_dup dX9_init_52 rfl ?_
  refine kv_con (a := a49) (As := []) (rest := [.ref a49, .ref h]) (con_X7 a49) dX9_init_53 (inT1 65 rfl rfl) (inT1 66 rfl rfl) (inT1 4 rfl rfl) (inT1 67 rfl rfl) rfl rfl ⟨by decide, by decide, by decide +kernel⟩ ⟨by decide, by decide⟩ rfl (Nat.le_of_ble_eq_true rfl) (by decide) (by decide) rfl ?_
  rintro _ ⟨a5_53, b11_53, a18_53, b24_53, rfl⟩
  refine kv_putF (ci := 9) (i := 4) (q0 := 0) (v := .ref a49) dX9_init_56 rfl uwX9 tyX9_ok nmX9 (inT1 196 rfl rfl) (by decide) rfl rfl (tyX9_ok 4 (by decide)) rfl rfl rfl (Nat.le_of_ble_eq_true rfl) rfl ?_
  refine kv_aload0 dX9_init_59 rfl rfl ?_
  refine kv_new (ci := 7) (fs := [.null, .null, .int 0]) dX9_init_60 rfl uwX7 tyX7_ok (inT1 63 rfl rfl) (inT1 64 rfl rfl) (inT1 4 rfl rfl) (fun j hj => by rcases (show j = 0 ∨ j = 1 ∨ j = 2 by omega) with rfl | rfl | rfl <;> rfl) (by decide) (by decide) rfl (fun a60 => ?_)
  refine kv_dup dX9_init_63 rfl ?_
  refine kv_con (a := a60) (As := []) (rest := [.ref a60, .ref h]) (con_X7 a60) dX9_init_64 (inT1 65 rfl rfl) (inT1 66 rfl rfl) (inT1 4 rfl rfl) (inT1 67 rfl rfl) rfl rfl ⟨by decide, by decide, by decide +kernel⟩ ⟨by decide, by decide⟩ rfl (Nat.le_of_ble_eq_true rfl) (by decide) (by decide) rfl ?_
  rintro _ ⟨a5_64, b11_64, a18_64, b24_64, rfl⟩
  refine kv_putF (ci := 9) (i := 5) (q0 := 0) (v := .ref a60) dX9_init_67 rfl uwX9 tyX9_ok nmX9 (inT1 197 rfl rfl) (by decide) rfl rfl (tyX9_ok 5 (by decide)) rfl rfl rfl (Nat.le_of_ble_eq_true rfl) rfl ?_
  refine kv_aload0 dX9_init_70 rfl rfl ?_
  refine kv_new (ci := 4) (fs := [.null, .null, .null, .null, .null, .null, .int 0]) dX9_init_71 rfl uwX4 tyX4_ok (inT1 81 rfl rfl) (inT1 82 rfl rfl) (inT1 5 rfl rfl) (fun j hj => by rcases (show j = 0 ∨ j = 1 ∨ j = 2 ∨ j = 3 ∨ j = 4 ∨ j = 5 ∨ j = 6 by omega) with rfl | rfl | rfl | rfl | rfl | rfl | rfl <;> rfl) (by decide) (by decide) rfl (fun a71 => ?_)
  refine kv_dup dX9_init_74 rfl ?_
  refine kv_con (a := a71) (As := []) (rest := [.ref a71, .ref h]) (con_X4 a71) dX9_init_75 (inT1 83 rfl rfl) (inT1 84 rfl rfl) (inT1 5 rfl rfl) (inT1 85 rfl rfl) rfl rfl ⟨by decide, by decide, by decide +kernel⟩ ⟨by decide, by decide⟩ rfl (Nat.le_of_ble_eq_true rfl) (by decide) (by decide) rfl ?_
  rintro _ ⟨a5_75, b12_75, a19_75, b26_75, a33_75, b40_75, a47_75, b54_75, a61_75, b68_75, a75_75, b82_75, rfl⟩
  refine kv_putF (ci := 9) (i := 6) (q0 := 0) (v := .ref a71) dX9_init_78 rfl uwX9 tyX9_ok nmX9 (inT1 198 rfl rfl) (by decide) rfl rfl (tyX9_ok 6 (by decide)) rfl rfl rfl (Nat.le_of_ble_eq_true rfl) rfl ?_
  refine kv_aload0 dX9_init_81 rfl rfl ?_
  refine kv_new (ci := 3) (fs := [.null, .null, .int 0]) dX9_init_82 rfl uwX3 tyX3_ok (inT1 111 rfl rfl) (inT1 112 rfl rfl) (inT1 6 rfl rfl) (fun j hj => by rcases (show j = 0 ∨ j = 1 ∨ j = 2 by omega) with rfl | rfl | rfl <;> rfl) (by decide) (by decide) rfl (fun a82 => ?_)
  refine kv_dup dX9_init_85 rfl ?_
  refine kv_con (a := a82) (As := []) (rest := [.ref a82, .ref h]) (con_X3 a82) dX9_init_86 (inT1 113 rfl rfl) (inT1 114 rfl rfl) (inT1 6 rfl rfl) (inT1 115 rfl rfl) rfl rfl ⟨by decide, by decide, by decide +kernel⟩ ⟨by decide, by decide⟩ rfl (Nat.le_of_ble_eq_true rfl) (by decide) (by decide) rfl ?_
  rintro _ ⟨a5_86, b12_86, a19_86, b26_86, rfl⟩
  refine kv_putF (ci := 9) (i := 7) (q0 := 0) (v := .ref a82) dX9_init_89 rfl uwX9 tyX9_ok nmX9 (inT1 199 rfl rfl) (by decide) rfl rfl (tyX9_ok 7 (by decide)) rfl rfl rfl (Nat.le_of_ble_eq_true rfl) rfl ?_
  refine kv_aload0 dX9_init_92 rfl rfl ?_
  refine kv_new (ci := 0) (fs := [.null]) dX9_init_93 rfl uwX0 tyX0_ok (inT1 129 rfl rfl) (inT1 130 rfl rfl) (inT1 7 rfl rfl) (fun j hj => by rcases (show j = 0 by omega) with rfl <;> rfl) (by decide) (by decide) rfl (fun a93 => ?_)
  refine kv_dup dX9_init_96 rfl ?_
  refine kv_con (a := a93) (As := []) (rest := [.ref a93, .ref h]) (con_X0 a93) dX9_init_97 (inT1 131 rfl rfl) (inT1 132 rfl rfl) (inT1 7 rfl rfl) (inT1 133 rfl rfl) rfl rfl ⟨by decide, by decide, by decide +kernel⟩ ⟨by decide, by decide⟩ rfl (Nat.le_of_ble_eq_true rfl) (by decide) (by decide) rfl ?_
  rintro _ ⟨a5_97, b11_97, rfl⟩
  refine kv_putF (ci := 9) (i := 8) (q0 := 0) (v := .ref a93) dX9_init_100 rfl uwX9 tyX9_ok nmX9 (inT1 200 rfl rfl) (by decide) rfl rfl (tyX9_ok 8 (by decide)) rfl rfl rfl (Nat.le_of_ble_eq_true rfl) rfl ?_
  refine kv_aload0 dX9_init_103 rfl rfl ?_
  refine kv_new (ci := 2) (fs := [.null, .int 0]) dX9_init_104 rfl uwX2 tyX2_ok (inT1 141 rfl rfl) (inT1 142 rfl rfl) (inT1 8 rfl rfl) (fun j hj => by rcases (show j = 0 ∨ j = 1 by omega) with rfl | rfl <;> rfl) (by decide) (by decide) rfl (fun a104 => ?_)
  refine kv_dup dX9_init_107 rfl ?_
  refine kv_con (a := a104) (As := []) (rest := [.ref a104, .ref h]) (con_X2 a104) dX9_init_108 (inT1 143 rfl rfl) (inT1 144 rfl rfl) (inT1 8 rfl rfl) (inT1 145 rfl rfl) rfl rfl ⟨by decide, by decide, by decide +kernel⟩ ⟨by decide, by decide⟩ rfl (Nat.le_of_ble_eq_true rfl) (by decide) (by decide) rfl ?_
  rintro _ ⟨a5_108, b11_108, rfl⟩
  refine kv_putF (ci := 9) (i := 9) (q0 := 0) (v := .ref a104) dX9_init_111 rfl uwX9 tyX9_ok nmX9 (inT1 201 rfl rfl) (by decide) rfl rfl (tyX9_ok 9 (by decide)) rfl rfl rfl (Nat.le_of_ble_eq_true rfl) rfl ?_
  refine kv_aload0 dX9_init_114 rfl rfl ?_
  refine kv_new (ci := 8) (fs := [.null, .int 0]) dX9_init_115 rfl uwX8 tyX8_ok (inT1 156 rfl rfl) (inT1 157 rfl rfl) (inT1 9 rfl rfl) (fun j hj => by rcases (show j = 0 ∨ j = 1 by omega) with rfl | rfl <;> rfl) (by decide) (by decide) rfl (fun a115 => ?_)
  refine kv_dup dX9_init_118 rfl ?_
  refine kv_con (a := a115) (As := []) (rest := [.ref a115, .ref h]) (con_X8 a115) dX9_init_119 (inT1 158 rfl rfl) (inT1 159 rfl rfl) (inT1 9 rfl rfl) (inT1 160 rfl rfl) rfl rfl ⟨by decide, by decide, by decide +kernel⟩ ⟨by decide, by decide⟩ rfl (Nat.le_of_ble_eq_true rfl) (by decide) (by decide) rfl ?_
  rintro _ ⟨a5_119, b11_119, rfl⟩
  refine kv_putF (ci := 9) (i := 10) (q0 := 0) (v := .ref a115) dX9_init_122 rfl uwX9 tyX9_ok nmX9 (inT1 202 rfl rfl) (by decide) rfl rfl (tyX9_ok 10 (by decide)) rfl rfl rfl (Nat.le_of_ble_eq_true rfl) rfl ?_
  refine kv_aload0 dX9_init_125 rfl rfl ?_
  refine kv_new (ci := 5) (fs := [.null, .int 0, .int 0, .int 0]) dX9_init_126 rfl uwX5 tyX5_ok (inT1 171 rfl rfl) (inT1 172 rfl rfl) (inT1 10 rfl rfl) (fun j hj => by rcases (show j = 0 ∨ j = 1 ∨ j = 2 ∨ j = 3 by omega) with rfl | rfl | rfl | rfl <;> rfl) (by decide) (by decide) rfl (fun a126 => ?_)
  refine kv_dup dX9_init_129 rfl ?_
  refine kv_con (a := a126) (As := []) (rest := [.ref a126, .ref h]) (con_X5 a126) dX9_init_130 (inT1 173 rfl rfl) (inT1 174 rfl rfl) (inT1 10 rfl rfl) (inT1 175 rfl rfl) rfl rfl ⟨by decide, by decide, by decide +kernel⟩ ⟨by decide, by decide⟩ rfl (Nat.le_of_ble_eq_true rfl) (by decide) (by decide) rfl ?_
  rintro _ ⟨a5_130, a5_9_130, b10_9_130, a17_9_130, b23_9_130, M1_9_130, hM1_9_130, rfl⟩
  refine kv_putF (ci := 9) (i := 11) (q0 := 0) (v := .ref a126) dX9_init_133 rfl uwX9 tyX9_ok nmX9 (inT1 203 rfl rfl) (by decide) rfl rfl (tyX9_ok 11 (by decide)) rfl rfl rfl (Nat.le_of_ble_eq_true rfl) rfl ?_
  exact kv_ret dX9_init_136 rfl ⟨a5, a5_9, b10_9, a17_9, b23_9, a16, a5_20, b10_20, a17_20, b23_20, a27, a5_31, b10_31, a17_31, b23_31, a38, a5_42, b11_42, a18_42, b24_42, a49, a5_53, b11_53, a18_53, b24_53, a60, a5_64, b11_64, a18_64, b24_64, a71, a5_75, b12_75, a19_75, b26_75, a33_75, b40_75, a47_75, b54_75, a61_75, b68_75, a75_75, b82_75, a82, a5_86, b12_86, a19_86, b26_86, a93, a5_97, b11_97, a104, a5_108, b11_108, a115, a5_119, b11_119, a126, a5_130, a5_9_130, b10_9_130, a17_9_130, b23_9_130, M1_9, M1_20, M1_31, M1_9_130, hM1_9, hM1_20, hM1_31, hM1_9_130, rfl⟩
