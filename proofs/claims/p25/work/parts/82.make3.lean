/-! THE CONSTRUCTORS (out of the listing) -/
theorem con_X6 (h : Nat) {v : Int32} {N : Nat} (hv : 0 ≤ v) (hN : v.toNatClampNeg = N) (hb : N * 4 ≤ 536870912) : Con miX6_init 1 N [.ref h, .int v] [(h, .inr (6, [.null]))] (fun ty w => ∃ b : Nat, w = [(h, .inr (6, [.ref b])), (b, .inl (ty false, N, .inl (fun _ => 0)))]) := by
  refine Con.of (by decide) rfl (Nat.le_of_ble_eq_true rfl) (fun D ty => ?_)
  refine kv_aload0 dX6_init_0 rfl rfl ?_
  refine kv_obj dX6_init_1 (inT1 31 rfl rfl) (inT1 18 rfl rfl) (inT1 19 rfl rfl) (by decide) (by decide) rfl ?_
  refine kv_aload0 dX6_init_4 rfl rfl ?_
  refine kv_iload1 (v := v) dX6_init_5 rfl rfl ?_
  refine kv_ifge (tgt := 13) dX6_init_6 (by decide) hv ?_
  refine kv_iload1 (v := v) dX6_init_13 rfl rfl ?_
  refine kv_newI (N := N) dX6_init_14 (inT1 36 rfl rfl) (fun h => absurd hv (Int32.not_le.mpr h)) hN hb (Nat.le_refl _) (Nat.le_of_eq (Nat.zero_add N)) rfl (fun b => ?_)
  refine kv_putF (ci := 6) (i := 0) (q0 := 0) (v := .ref b) dX6_init_16 rfl uwX6 tyX6_ok nmX6 (inT1 32 rfl rfl) (by decide) rfl rfl (tyX6_ok 0 (by decide)) rfl rfl rfl (by decide) rfl ?_
  rw [Nat.zero_add N]
  exact kv_ret dX6_init_19 rfl ⟨b, rfl⟩
theorem con_X0 (h : Nat) : Con miX0_init 2 17 [.ref h] [(h, .inr (0, [.null]))] (fun ty w => ∃ (a5 b11 : Nat), w = [(h, .inr (0, [.ref a5])), (a5, .inr (6, [.ref b11])), (b11, .inl (ty false, 16, .inl (fun _ => 0)))]) := by
  refine Con.of (by decide) rfl (Nat.le_of_ble_eq_true rfl) (fun D ty => ?_)
  refine kv_aload0 dX0_init_0 rfl rfl ?_
  refine kv_obj dX0_init_1 (inT1 133 rfl rfl) (inT1 18 rfl rfl) (inT1 19 rfl rfl) (by decide) (by decide) rfl ?_
  refine kv_aload0 dX0_init_4 rfl rfl ?_
  refine kv_new (ci := 6) (fs := [.null]) dX0_init_5 rfl uwX6 tyX6_ok (inT1 134 rfl rfl) (inT1 27 rfl rfl) (inT1 3 rfl rfl) (fun j hj => by rcases (show j = 0 by omega) with rfl <;> rfl) (by decide) (by decide) rfl (fun a5 => ?_)
  refine kv_dup dX0_init_8 rfl ?_
  refine kv_bipush (v := 16) dX0_init_9 (by decide) rfl ?_
  refine kv_con (a := a5) (As := [.int 16]) (rest := [.ref a5, .ref h]) (con_X6 a5 (v := 16) (N := 16) (by decide) (by decide) (by decide)) dX0_init_11 (inT1 135 rfl rfl) (inT1 29 rfl rfl) (inT1 3 rfl rfl) (inT1 30 rfl rfl) rfl rfl ⟨by decide, by decide, by decide +kernel⟩ ⟨by decide, by decide⟩ rfl (Nat.le_of_ble_eq_true rfl) (by decide) (by decide) rfl ?_
  rintro _ ⟨b11, rfl⟩
  refine kv_putF (ci := 0) (i := 0) (q0 := 0) (v := .ref a5) dX0_init_14 rfl uwX0 tyX0_ok nmX0 (inT1 136 rfl rfl) (by decide) rfl rfl (tyX0_ok 0 (by decide)) rfl rfl rfl (Nat.le_of_ble_eq_true rfl) rfl ?_
  exact kv_ret dX0_init_17 rfl ⟨a5, b11, rfl⟩
theorem con_X2 (h : Nat) : Con miX2_init 2 113 [.ref h] [(h, .inr (2, [.null, .int 0]))] (fun ty w => ∃ (a5 b11 : Nat), w = [(h, .inr (2, [.ref a5, .int 0])), (a5, .inr (6, [.ref b11])), (b11, .inl (ty false, 112, .inl (fun _ => 0)))]) := by
  refine Con.of (by decide) rfl (Nat.le_of_ble_eq_true rfl) (fun D ty => ?_)
  refine kv_aload0 dX2_init_0 rfl rfl ?_
  refine kv_obj dX2_init_1 (inT1 145 rfl rfl) (inT1 18 rfl rfl) (inT1 19 rfl rfl) (by decide) (by decide) rfl ?_
  refine kv_aload0 dX2_init_4 rfl rfl ?_
  refine kv_new (ci := 6) (fs := [.null]) dX2_init_5 rfl uwX6 tyX6_ok (inT1 146 rfl rfl) (inT1 27 rfl rfl) (inT1 3 rfl rfl) (fun j hj => by rcases (show j = 0 by omega) with rfl <;> rfl) (by decide) (by decide) rfl (fun a5 => ?_)
  refine kv_dup dX2_init_8 rfl ?_
  refine kv_bipush (v := 112) dX2_init_9 (by decide) rfl ?_
  refine kv_con (a := a5) (As := [.int 112]) (rest := [.ref a5, .ref h]) (con_X6 a5 (v := 112) (N := 112) (by decide) (by decide) (by decide)) dX2_init_11 (inT1 147 rfl rfl) (inT1 29 rfl rfl) (inT1 3 rfl rfl) (inT1 30 rfl rfl) rfl rfl ⟨by decide, by decide, by decide +kernel⟩ ⟨by decide, by decide⟩ rfl (Nat.le_of_ble_eq_true rfl) (by decide) (by decide) rfl ?_
  rintro _ ⟨b11, rfl⟩
  refine kv_putF (ci := 2) (i := 0) (q0 := 0) (v := .ref a5) dX2_init_14 rfl uwX2 tyX2_ok nmX2 (inT1 148 rfl rfl) (by decide) rfl rfl (tyX2_ok 0 (by decide)) rfl rfl rfl (Nat.le_of_ble_eq_true rfl) rfl ?_
  exact kv_ret dX2_init_17 rfl ⟨a5, b11, rfl⟩
theorem con_X3 (h : Nat) : Con miX3_init 4 16386 [.ref h] [(h, .inr (3, [.null, .null, .int 0]))] (fun ty w => ∃ (a5 b12 a19 b26 : Nat), w = [(h, .inr (3, [.ref a5, .ref a19, .int 0])), (a5, .inr (6, [.ref b12])), (b12, .inl (ty false, 8192, .inl (fun _ => 0))), (a19, .inr (6, [.ref b26])), (b26, .inl (ty false, 8192, .inl (fun _ => 0)))]) := by
  refine Con.of (by decide) rfl (Nat.le_of_ble_eq_true rfl) (fun D ty => ?_)
  refine kv_aload0 dX3_init_0 rfl rfl ?_
  refine kv_obj dX3_init_1 (inT1 115 rfl rfl) (inT1 18 rfl rfl) (inT1 19 rfl rfl) (by decide) (by decide) rfl ?_
  refine kv_aload0 dX3_init_4 rfl rfl ?_
  refine kv_new (ci := 6) (fs := [.null]) dX3_init_5 rfl uwX6 tyX6_ok (inT1 116 rfl rfl) (inT1 27 rfl rfl) (inT1 3 rfl rfl) (fun j hj => by rcases (show j = 0 by omega) with rfl <;> rfl) (by decide) (by decide) rfl (fun a5 => ?_)
  refine kv_dup dX3_init_8 rfl ?_
  refine kv_sipush (v := 8192) dX3_init_9 (by decide) rfl ?_
  refine kv_con (a := a5) (As := [.int 8192]) (rest := [.ref a5, .ref h]) (con_X6 a5 (v := 8192) (N := 8192) (by decide) (by decide) (by decide)) dX3_init_12 (inT1 117 rfl rfl) (inT1 29 rfl rfl) (inT1 3 rfl rfl) (inT1 30 rfl rfl) rfl rfl ⟨by decide, by decide, by decide +kernel⟩ ⟨by decide, by decide⟩ rfl (Nat.le_of_ble_eq_true rfl) (by decide) (by decide) rfl ?_
  rintro _ ⟨b12, rfl⟩
  refine kv_putF (ci := 3) (i := 0) (q0 := 0) (v := .ref a5) dX3_init_15 rfl uwX3 tyX3_ok nmX3 (inT1 118 rfl rfl) (by decide) rfl rfl (tyX3_ok 0 (by decide)) rfl rfl rfl (Nat.le_of_ble_eq_true rfl) rfl ?_
  refine kv_aload0 dX3_init_18 rfl rfl ?_
  refine kv_new (ci := 6) (fs := [.null]) dX3_init_19 rfl uwX6 tyX6_ok (inT1 116 rfl rfl) (inT1 27 rfl rfl) (inT1 3 rfl rfl) (fun j hj => by rcases (show j = 0 by omega) with rfl <;> rfl) (by decide) (by decide) rfl (fun a19 => ?_)
  refine kv_dup dX3_init_22 rfl ?_
  refine kv_sipush (v := 8192) dX3_init_23 (by decide) rfl ?_
  refine kv_con (a := a19) (As := [.int 8192]) (rest := [.ref a19, .ref h]) (con_X6 a19 (v := 8192) (N := 8192) (by decide) (by decide) (by decide)) dX3_init_26 (inT1 117 rfl rfl) (inT1 29 rfl rfl) (inT1 3 rfl rfl) (inT1 30 rfl rfl) rfl rfl ⟨by decide, by decide, by decide +kernel⟩ ⟨by decide, by decide⟩ rfl (Nat.le_of_ble_eq_true rfl) (by decide) (by decide) rfl ?_
  rintro _ ⟨b26, rfl⟩
  refine kv_putF (ci := 3) (i := 1) (q0 := 0) (v := .ref a19) dX3_init_29 rfl uwX3 tyX3_ok nmX3 (inT1 119 rfl rfl) (by decide) rfl rfl (tyX3_ok 1 (by decide)) rfl rfl rfl (Nat.le_of_ble_eq_true rfl) rfl ?_
  exact kv_ret dX3_init_32 rfl ⟨a5, b12, a19, b26, rfl⟩
theorem con_X4 (h : Nat) : Con miX4_init 12 1542 [.ref h] [(h, .inr (4, [.null, .null, .null, .null, .null, .null, .int 0]))] (fun ty w => ∃ (a5 b12 a19 b26 a33 b40 a47 b54 a61 b68 a75 b82 : Nat), w = [(h, .inr (4, [.ref a5, .ref a19, .ref a33, .ref a47, .ref a61, .ref a75, .int 0])), (a5, .inr (6, [.ref b12])), (b12, .inl (ty false, 256, .inl (fun _ => 0))), (a19, .inr (6, [.ref b26])), (b26, .inl (ty false, 256, .inl (fun _ => 0))), (a33, .inr (6, [.ref b40])), (b40, .inl (ty false, 256, .inl (fun _ => 0))), (a47, .inr (6, [.ref b54])), (b54, .inl (ty false, 256, .inl (fun _ => 0))), (a61, .inr (6, [.ref b68])), (b68, .inl (ty false, 256, .inl (fun _ => 0))), (a75, .inr (6, [.ref b82])), (b82, .inl (ty false, 256, .inl (fun _ => 0)))]) := by
  refine Con.of (by decide) rfl (Nat.le_of_ble_eq_true rfl) (fun D ty => ?_)
  refine kv_aload0 dX4_init_0 rfl rfl ?_
  refine kv_obj dX4_init_1 (inT1 85 rfl rfl) (inT1 18 rfl rfl) (inT1 19 rfl rfl) (by decide) (by decide) rfl ?_
  refine kv_aload0 dX4_init_4 rfl rfl ?_
  refine kv_new (ci := 6) (fs := [.null]) dX4_init_5 rfl uwX6 tyX6_ok (inT1 86 rfl rfl) (inT1 27 rfl rfl) (inT1 3 rfl rfl) (fun j hj => by rcases (show j = 0 by omega) with rfl <;> rfl) (by decide) (by decide) rfl (fun a5 => ?_)
  refine kv_dup dX4_init_8 rfl ?_
  refine kv_sipush (v := 256) dX4_init_9 (by decide) rfl ?_
  refine kv_con (a := a5) (As := [.int 256]) (rest := [.ref a5, .ref h]) (con_X6 a5 (v := 256) (N := 256) (by decide) (by decide) (by decide)) dX4_init_12 (inT1 87 rfl rfl) (inT1 29 rfl rfl) (inT1 3 rfl rfl) (inT1 30 rfl rfl) rfl rfl ⟨by decide, by decide, by decide +kernel⟩ ⟨by decide, by decide⟩ rfl (Nat.le_of_ble_eq_true rfl) (by decide) (by decide) rfl ?_
  rintro _ ⟨b12, rfl⟩
  refine kv_putF (ci := 4) (i := 0) (q0 := 0) (v := .ref a5) dX4_init_15 rfl uwX4 tyX4_ok nmX4 (inT1 88 rfl rfl) (by decide) rfl rfl (tyX4_ok 0 (by decide)) rfl rfl rfl (Nat.le_of_ble_eq_true rfl) rfl ?_
  refine kv_aload0 dX4_init_18 rfl rfl ?_
  refine kv_new (ci := 6) (fs := [.null]) dX4_init_19 rfl uwX6 tyX6_ok (inT1 86 rfl rfl) (inT1 27 rfl rfl) (inT1 3 rfl rfl) (fun j hj => by rcases (show j = 0 by omega) with rfl <;> rfl) (by decide) (by decide) rfl (fun a19 => ?_)
  refine kv_dup dX4_init_22 rfl ?_
  refine kv_sipush (v := 256) dX4_init_23 (by decide) rfl ?_
  refine kv_con (a := a19) (As := [.int 256]) (rest := [.ref a19, .ref h]) (con_X6 a19 (v := 256) (N := 256) (by decide) (by decide) (by decide)) dX4_init_26 (inT1 87 rfl rfl) (inT1 29 rfl rfl) (inT1 3 rfl rfl) (inT1 30 rfl rfl) rfl rfl ⟨by decide, by decide, by decide +kernel⟩ ⟨by decide, by decide⟩ rfl (Nat.le_of_ble_eq_true rfl) (by decide) (by decide) rfl ?_
  rintro _ ⟨b26, rfl⟩
  refine kv_putF (ci := 4) (i := 1) (q0 := 0) (v := .ref a19) dX4_init_29 rfl uwX4 tyX4_ok nmX4 (inT1 89 rfl rfl) (by decide) rfl rfl (tyX4_ok 1 (by decide)) rfl rfl rfl (Nat.le_of_ble_eq_true rfl) rfl ?_
  refine kv_aload0 dX4_init_32 rfl rfl ?_
  refine kv_new (ci := 6) (fs := [.null]) dX4_init_33 rfl uwX6 tyX6_ok (inT1 86 rfl rfl) (inT1 27 rfl rfl) (inT1 3 rfl rfl) (fun j hj => by rcases (show j = 0 by omega) with rfl <;> rfl) (by decide) (by decide) rfl (fun a33 => ?_)
  refine kv_dup dX4_init_36 rfl ?_
  refine kv_sipush (v := 256) dX4_init_37 (by decide) rfl ?_
  refine kv_con (a := a33) (As := [.int 256]) (rest := [.ref a33, .ref h]) (con_X6 a33 (v := 256) (N := 256) (by decide) (by decide) (by decide)) dX4_init_40 (inT1 87 rfl rfl) (inT1 29 rfl rfl) (inT1 3 rfl rfl) (inT1 30 rfl rfl) rfl rfl ⟨by decide, by decide, by decide +kernel⟩ ⟨by decide, by decide⟩ rfl (Nat.le_of_ble_eq_true rfl) (by decide) (by decide) rfl ?_
  rintro _ ⟨b40, rfl⟩
  refine kv_putF (ci := 4) (i := 2) (q0 := 0) (v := .ref a33) dX4_init_43 rfl uwX4 tyX4_ok nmX4 (inT1 90 rfl rfl) (by decide) rfl rfl (tyX4_ok 2 (by decide)) rfl rfl rfl (Nat.le_of_ble_eq_true rfl) rfl ?_
  refine kv_aload0 dX4_init_46 rfl rfl ?_
  refine kv_new (ci := 6) (fs := [.null]) dX4_init_47 rfl uwX6 tyX6_ok (inT1 86 rfl rfl) (inT1 27 rfl rfl) (inT1 3 rfl rfl) (fun j hj => by rcases (show j = 0 by omega) with rfl <;> rfl) (by decide) (by decide) rfl (fun a47 => ?_)
  refine kv_dup dX4_init_50 rfl ?_
  refine kv_sipush (v := 256) dX4_init_51 (by decide) rfl ?_
  refine kv_con (a := a47) (As := [.int 256]) (rest := [.ref a47, .ref h]) (con_X6 a47 (v := 256) (N := 256) (by decide) (by decide) (by decide)) dX4_init_54 (inT1 87 rfl rfl) (inT1 29 rfl rfl) (inT1 3 rfl rfl) (inT1 30 rfl rfl) rfl rfl ⟨by decide, by decide, by decide +kernel⟩ ⟨by decide, by decide⟩ rfl (Nat.le_of_ble_eq_true rfl) (by decide) (by decide) rfl ?_
  rintro _ ⟨b54, rfl⟩
  refine kv_putF (ci := 4) (i := 3) (q0 := 0) (v := .ref a47) dX4_init_57 rfl uwX4 tyX4_ok nmX4 (inT1 91 rfl rfl) (by decide) rfl rfl (tyX4_ok 3 (by decide)) rfl rfl rfl (Nat.le_of_ble_eq_true rfl) rfl ?_
  refine kv_aload0 dX4_init_60 rfl rfl ?_
  refine kv_new (ci := 6) (fs := [.null]) dX4_init_61 rfl uwX6 tyX6_ok (inT1 86 rfl rfl) (inT1 27 rfl rfl) (inT1 3 rfl rfl) (fun j hj => by rcases (show j = 0 by omega) with rfl <;> rfl) (by decide) (by decide) rfl (fun a61 => ?_)
  refine kv_dup dX4_init_64 rfl ?_
  refine kv_sipush (v := 256) dX4_init_65 (by decide) rfl ?_
  refine kv_con (a := a61) (As := [.int 256]) (rest := [.ref a61, .ref h]) (con_X6 a61 (v := 256) (N := 256) (by decide) (by decide) (by decide)) dX4_init_68 (inT1 87 rfl rfl) (inT1 29 rfl rfl) (inT1 3 rfl rfl) (inT1 30 rfl rfl) rfl rfl ⟨by decide, by decide, by decide +kernel⟩ ⟨by decide, by decide⟩ rfl (Nat.le_of_ble_eq_true rfl) (by decide) (by decide) rfl ?_
  rintro _ ⟨b68, rfl⟩
  refine kv_putF (ci := 4) (i := 4) (q0 := 0) (v := .ref a61) dX4_init_71 rfl uwX4 tyX4_ok nmX4 (inT1 92 rfl rfl) (by decide) rfl rfl (tyX4_ok 4 (by decide)) rfl rfl rfl (Nat.le_of_ble_eq_true rfl) rfl ?_
  refine kv_aload0 dX4_init_74 rfl rfl ?_
  refine kv_new (ci := 6) (fs := [.null]) dX4_init_75 rfl uwX6 tyX6_ok (inT1 86 rfl rfl) (inT1 27 rfl rfl) (inT1 3 rfl rfl) (fun j hj => by rcases (show j = 0 by omega) with rfl <;> rfl) (by decide) (by decide) rfl (fun a75 => ?_)
  refine kv_dup dX4_init_78 rfl ?_
  refine kv_sipush (v := 256) dX4_init_79 (by decide) rfl ?_
  refine kv_con (a := a75) (As := [.int 256]) (rest := [.ref a75, .ref h]) (con_X6 a75 (v := 256) (N := 256) (by decide) (by decide) (by decide)) dX4_init_82 (inT1 87 rfl rfl) (inT1 29 rfl rfl) (inT1 3 rfl rfl) (inT1 30 rfl rfl) rfl rfl ⟨by decide, by decide, by decide +kernel⟩ ⟨by decide, by decide⟩ rfl (Nat.le_of_ble_eq_true rfl) (by decide) (by decide) rfl ?_
  rintro _ ⟨b82, rfl⟩
  refine kv_putF (ci := 4) (i := 5) (q0 := 0) (v := .ref a75) dX4_init_85 rfl uwX4 tyX4_ok nmX4 (inT1 93 rfl rfl) (by decide) rfl rfl (tyX4_ok 5 (by decide)) rfl rfl rfl (Nat.le_of_ble_eq_true rfl) rfl ?_
  exact kv_ret dX4_init_88 rfl ⟨a5, b12, a19, b26, a33, b40, a47, b54, a61, b68, a75, b82, rfl⟩
theorem con_X7 (h : Nat) : Con miX7_init 4 82 [.ref h] [(h, .inr (7, [.null, .null, .int 0]))] (fun ty w => ∃ (a5 b11 a18 b24 : Nat), w = [(h, .inr (7, [.ref a5, .ref a18, .int 0])), (a5, .inr (6, [.ref b11])), (b11, .inl (ty false, 64, .inl (fun _ => 0))), (a18, .inr (6, [.ref b24])), (b24, .inl (ty false, 16, .inl (fun _ => 0)))]) := by
  refine Con.of (by decide) rfl (Nat.le_of_ble_eq_true rfl) (fun D ty => ?_)
  refine kv_aload0 dX7_init_0 rfl rfl ?_
  refine kv_obj dX7_init_1 (inT1 67 rfl rfl) (inT1 18 rfl rfl) (inT1 19 rfl rfl) (by decide) (by decide) rfl ?_
  refine kv_aload0 dX7_init_4 rfl rfl ?_
  refine kv_new (ci := 6) (fs := [.null]) dX7_init_5 rfl uwX6 tyX6_ok (inT1 68 rfl rfl) (inT1 27 rfl rfl) (inT1 3 rfl rfl) (fun j hj => by rcases (show j = 0 by omega) with rfl <;> rfl) (by decide) (by decide) rfl (fun a5 => ?_)
  refine kv_dup dX7_init_8 rfl ?_
  refine kv_bipush (v := 64) dX7_init_9 (by decide) rfl ?_
  refine kv_con (a := a5) (As := [.int 64]) (rest := [.ref a5, .ref h]) (con_X6 a5 (v := 64) (N := 64) (by decide) (by decide) (by decide)) dX7_init_11 (inT1 69 rfl rfl) (inT1 29 rfl rfl) (inT1 3 rfl rfl) (inT1 30 rfl rfl) rfl rfl ⟨by decide, by decide, by decide +kernel⟩ ⟨by decide, by decide⟩ rfl (Nat.le_of_ble_eq_true rfl) (by decide) (by decide) rfl ?_
  rintro _ ⟨b11, rfl⟩
  refine kv_putF (ci := 7) (i := 0) (q0 := 0) (v := .ref a5) dX7_init_14 rfl uwX7 tyX7_ok nmX7 (inT1 70 rfl rfl) (by decide) rfl rfl (tyX7_ok 0 (by decide)) rfl rfl rfl (Nat.le_of_ble_eq_true rfl) rfl ?_
  refine kv_aload0 dX7_init_17 rfl rfl ?_
  refine kv_new (ci := 6) (fs := [.null]) dX7_init_18 rfl uwX6 tyX6_ok (inT1 68 rfl rfl) (inT1 27 rfl rfl) (inT1 3 rfl rfl) (fun j hj => by rcases (show j = 0 by omega) with rfl <;> rfl) (by decide) (by decide) rfl (fun a18 => ?_)
  refine kv_dup dX7_init_21 rfl ?_
  refine kv_bipush (v := 16) dX7_init_22 (by decide) rfl ?_
  refine kv_con (a := a18) (As := [.int 16]) (rest := [.ref a18, .ref h]) (con_X6 a18 (v := 16) (N := 16) (by decide) (by decide) (by decide)) dX7_init_24 (inT1 69 rfl rfl) (inT1 29 rfl rfl) (inT1 3 rfl rfl) (inT1 30 rfl rfl) rfl rfl ⟨by decide, by decide, by decide +kernel⟩ ⟨by decide, by decide⟩ rfl (Nat.le_of_ble_eq_true rfl) (by decide) (by decide) rfl ?_
  rintro _ ⟨b24, rfl⟩
  refine kv_putF (ci := 7) (i := 1) (q0 := 0) (v := .ref a18) dX7_init_27 rfl uwX7 tyX7_ok nmX7 (inT1 71 rfl rfl) (by decide) rfl rfl (tyX7_ok 1 (by decide)) rfl rfl rfl (Nat.le_of_ble_eq_true rfl) rfl ?_
  exact kv_ret dX7_init_30 rfl ⟨a5, b11, a18, b24, rfl⟩
theorem con_X8 (h : Nat) : Con miX8_init 2 81 [.ref h] [(h, .inr (8, [.null, .int 0]))] (fun ty w => ∃ (a5 b11 : Nat), w = [(h, .inr (8, [.ref a5, .int 0])), (a5, .inr (6, [.ref b11])), (b11, .inl (ty false, 80, .inl (fun _ => 0)))]) := by
  refine Con.of (by decide) rfl (Nat.le_of_ble_eq_true rfl) (fun D ty => ?_)
  refine kv_aload0 dX8_init_0 rfl rfl ?_
  refine kv_obj dX8_init_1 (inT1 160 rfl rfl) (inT1 18 rfl rfl) (inT1 19 rfl rfl) (by decide) (by decide) rfl ?_
  refine kv_aload0 dX8_init_4 rfl rfl ?_
  refine kv_new (ci := 6) (fs := [.null]) dX8_init_5 rfl uwX6 tyX6_ok (inT1 161 rfl rfl) (inT1 27 rfl rfl) (inT1 3 rfl rfl) (fun j hj => by rcases (show j = 0 by omega) with rfl <;> rfl) (by decide) (by decide) rfl (fun a5 => ?_)
  refine kv_dup dX8_init_8 rfl ?_
  refine kv_bipush (v := 80) dX8_init_9 (by decide) rfl ?_
  refine kv_con (a := a5) (As := [.int 80]) (rest := [.ref a5, .ref h]) (con_X6 a5 (v := 80) (N := 80) (by decide) (by decide) (by decide)) dX8_init_11 (inT1 162 rfl rfl) (inT1 29 rfl rfl) (inT1 3 rfl rfl) (inT1 30 rfl rfl) rfl rfl ⟨by decide, by decide, by decide +kernel⟩ ⟨by decide, by decide⟩ rfl (Nat.le_of_ble_eq_true rfl) (by decide) (by decide) rfl ?_
  rintro _ ⟨b11, rfl⟩
  refine kv_putF (ci := 8) (i := 0) (q0 := 0) (v := .ref a5) dX8_init_14 rfl uwX8 tyX8_ok nmX8 (inT1 163 rfl rfl) (by decide) rfl rfl (tyX8_ok 0 (by decide)) rfl rfl rfl (Nat.le_of_ble_eq_true rfl) rfl ?_
  exact kv_ret dX8_init_17 rfl ⟨a5, b11, rfl⟩
