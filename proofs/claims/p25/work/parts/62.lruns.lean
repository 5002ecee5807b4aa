/-! THE LAW'S METHODS: runs -/
theorem sem_runs {M : Mem} {σ : Sg} (hW : SgW σ) (h : InvT M σ) {z : Nat} (hz : z < 2147483648) : Sem ST miL_runs [.inr (cX 0), .inl (z : Int)] M (fun v N => v = some (.inl 1) ∧ InvT N σ) := by
  refine Sem.of (by decide) ST_ok (Nat.le_of_ble_eq_true rfl) (ls0 := [some (.inr (cX 0)), some (.inl (z : Int)), none, none, none, none, none, none, none]) rfl ?_
  refine ev_iload_n (np := 1) dL_runs_0 rfl rfl ?_
  refine ev_iconst (np := 2) dL_runs_1 rfl ?_
  refine ev_irem (np := 3) dL_runs_2 (by omega) (by omega) rfl ?_
  have hc : C01 ((z : Int) % 2) := ⟨by omega, by omega⟩
  generalize (z : Int) % 2 = c at hc ⊢
  refine ev_istore_n (np := 4) dL_runs_3 (by decide) rfl ?_
  refine ev_iload_n (np := 5) dL_runs_4 rfl rfl ?_
  refine ev_iconst (np := 6) dL_runs_5 rfl ?_
  refine ev_idiv (np := 7) dL_runs_6 (by omega) (by omega) rfl ?_
  refine ev_bipush (np := 9) dL_runs_7 (by decide) rfl ?_
  refine ev_irem (np := 10) dL_runs_9 (by omega) (by omega) rfl ?_
  rw [show (z : Int) / 2 % 16 = ((z / 2 % 16 : Nat) : Int) by omega]
  have ht : z / 2 % 16 < 16 := by omega
  generalize z / 2 % 16 = t at ht ⊢
  refine ev_istore_n (np := 11) dL_runs_10 (by decide) rfl ?_
  refine ev_iload_n (np := 12) dL_runs_11 rfl rfl ?_
  refine ev_bipush (np := 14) dL_runs_12 (by decide) rfl ?_
  refine ev_idiv (np := 15) dL_runs_14 (by omega) (by omega) rfl ?_
  rw [show (z : Int) / 32 = ((z / 32 : Nat) : Int) by omega]
  have hr : z / 32 < 2147483648 := by omega
  generalize z / 32 = row at hr ⊢
  have hC := sel_w hW c
  generalize e : sel c σ = C at hC
  refine ev_istore (np := 17) dL_runs_15 (by decide) rfl ?_
  refine ev_aload_n (np := 18) dL_runs_17 rfl rfl ?_
  refine ev_iload_n (np := 19) dL_runs_18 rfl rfl ?_
  refine ev_iload (np := 21) dL_runs_19 rfl rfl ?_
  refine ev_iload_n (np := 22) dL_runs_21 rfl rfl ?_
  refine ev_iconst (np := 23) dL_runs_22 rfl ?_
  refine ev_Vi4 (np := 26) moX9_run sL_runs_23 (sem_runA hW h (c := c) (row := (row : Int)) (t := (t : Int)) (w := 0) (by omega) (by omega) (by omega) (by omega)) rfl rfl (Nat.le_of_ble_eq_true rfl) rfl ?_
  rw [run_0 hc e (row : Int) (t := t) (by omega)]
  refine ev_istore (np := 28) dL_runs_26 (by decide) rfl ?_
  refine ev_aload_n (np := 29) dL_runs_28 rfl rfl ?_
  refine ev_iload_n (np := 30) dL_runs_29 rfl rfl ?_
  refine ev_iload (np := 32) dL_runs_30 rfl rfl ?_
  refine ev_iload_n (np := 33) dL_runs_32 rfl rfl ?_
  refine ev_iconst (np := 34) dL_runs_33 rfl ?_
  refine ev_Vi4 (np := 37) moX9_run sL_runs_34 (sem_runA hW h (c := c) (row := (row : Int)) (t := (t : Int)) (w := 1) (by omega) (by omega) (by omega) (by omega)) rfl rfl (Nat.le_of_ble_eq_true rfl) rfl ?_
  rw [run_1 hc e (row : Int) (t := t) (by omega)]
  have s1 := run1_lt hC (row : Int) t
  have s2 := run2_lt C (row : Int) t (by omega)
  refine ev_istore (np := 39) dL_runs_37 (by decide) rfl ?_
  refine ev_iload (np := 41) dL_runs_39 rfl rfl ?_
  refine ev_iconst (np := 42) dL_runs_41 rfl ?_
  refine ev_iload_n (np := 43) dL_runs_42 rfl rfl ?_
  refine ev_imul (np := 44) dL_runs_43 rfl ?_
  refine ev_ishr (np := 45) dL_runs_44 (by omega) (by omega) rfl ?_
  refine ev_iconst (np := 46) dL_runs_45 rfl ?_
  refine ev_iandm 2 (np := 47) dL_runs_46 (by omega) rfl rfl ?_
  rw [inp_eq (row : Int) t]
  have i4 := inp_lt (row : Int) t
  have o16 := hC.2.1
  have b1 := out_lt C (runS C (row : Int) t).1 (inpS (row : Int) t)
  refine ev_istore (np := 49) dL_runs_47 (by decide) rfl ?_
  refine ev_aload_n (np := 50) dL_runs_49 rfl rfl ?_
  refine ev_iload_n (np := 51) dL_runs_50 rfl rfl ?_
  refine ev_iload (np := 53) dL_runs_51 rfl rfl ?_
  refine ev_iload (np := 55) dL_runs_53 rfl rfl ?_
  refine ev_aload_n (np := 56) dL_runs_55 rfl rfl ?_
  refine ev_iload_n (np := 57) dL_runs_56 rfl rfl ?_
  refine ev_iconst (np := 58) dL_runs_57 rfl ?_
  refine ev_V2 (np := 61) moX9_circuitOf sL_runs_58 (sem_circuitOf hW h (c := c) (w := 1) (by omega) (by omega) ) rfl rfl (Nat.le_of_ble_eq_true rfl) rfl (fun v N1 hq => ?_)
  obtain ⟨rfl, h1⟩ := hq
  rw [of_1 hc e]
  refine ev_Vi4 (np := 64) moX9_bit sL_runs_61 (sem_bitA hW h1 (c := c) (s := (((runS C (row : Int) t).1 : Nat) : Int)) (i := ((inpS (row : Int) t : Nat) : Int)) (w := ((co C : Nat) : Int)) (by omega) (by omega) (by omega) (by omega)) rfl rfl (Nat.le_of_ble_eq_true rfl) rfl ?_
  rw [bit_v hc e s1 i4 o16, show bt (wbits C (runS C (row : Int) t).1 (inpS (row : Int) t)) (co C) = outS C (runS C (row : Int) t).1 (inpS (row : Int) t) from rfl]
  refine ev_istore (np := 66) dL_runs_64 (by decide) rfl ?_
  refine ev_aload_n (np := 67) dL_runs_66 rfl rfl ?_
  refine ev_iload_n (np := 68) dL_runs_67 rfl rfl ?_
  refine ev_iload (np := 70) dL_runs_68 rfl rfl ?_
  refine ev_iload_n (np := 71) dL_runs_70 rfl rfl ?_
  refine ev_iconst (np := 72) dL_runs_71 rfl ?_
  refine ev_iadd (np := 73) dL_runs_72 rfl ?_
  refine ev_iconst (np := 74) dL_runs_73 rfl ?_
  rw [show (t : Int) + 1 = ((t + 1 : Nat) : Int) by omega]
  refine ev_Vi4 (np := 77) moX9_run sL_runs_74 (sem_runA hW h1 (c := c) (row := (row : Int)) (t := ((t + 1 : Nat) : Int)) (w := 0) (by omega) (by omega) (by omega) (by omega)) rfl rfl (Nat.le_of_ble_eq_true rfl) rfl ?_
  rw [run_0 hc e (row : Int) (t := t + 1) (by omega)]
  refine ev_aload_n (np := 78) dL_runs_77 rfl rfl ?_
  refine ev_iload_n (np := 79) dL_runs_78 rfl rfl ?_
  refine ev_iload (np := 81) dL_runs_79 rfl rfl ?_
  refine ev_iload (np := 83) dL_runs_81 rfl rfl ?_
  refine ev_Vi3 (np := 86) moX9_behind sL_runs_83 (sem_behindA hW h1 (c := c) (s := (((runS C (row : Int) t).1 : Nat) : Int)) (i := ((inpS (row : Int) t : Nat) : Int)) (by omega) (by omega) (by omega)) rfl rfl (Nat.le_of_ble_eq_true rfl) rfl ?_
  rw [behind_v hc e s1 i4, show (runS C (row : Int) (t + 1)).1 = nxtS C (runS C (row : Int) t).1 (inpS (row : Int) t) from rfl]
  have n1 := nxt_lt C (runS C (row : Int) t).1 (inpS (row : Int) t)
  refine ev_icmp_ne (tgt := 131) (np := 89) dL_runs_86 (by decide) rfl (by omega) (by omega) (fun h => absurd (by omega) h) (fun _ => ?_)
  refine ev_aload_n (np := 90) dL_runs_89 rfl rfl ?_
  refine ev_iload_n (np := 91) dL_runs_90 rfl rfl ?_
  refine ev_iload (np := 93) dL_runs_91 rfl rfl ?_
  refine ev_iload_n (np := 94) dL_runs_93 rfl rfl ?_
  refine ev_iconst (np := 95) dL_runs_94 rfl ?_
  refine ev_iadd (np := 96) dL_runs_95 rfl ?_
  refine ev_iconst (np := 97) dL_runs_96 rfl ?_
  rw [show (t : Int) + 1 = ((t + 1 : Nat) : Int) by omega]
  refine ev_Vi4 (np := 100) moX9_run sL_runs_97 (sem_runA hW h1 (c := c) (row := (row : Int)) (t := ((t + 1 : Nat) : Int)) (w := 1) (by omega) (by omega) (by omega) (by omega)) rfl rfl (Nat.le_of_ble_eq_true rfl) rfl ?_
  rw [run_1 hc e (row : Int) (t := t + 1) (by omega)]
  have s3 := run2_lt C (row : Int) (t + 1) (by omega)
  have e2 : (runS C (row : Int) (t + 1)).2 = (runS C (row : Int) t).2 + outS C (runS C (row : Int) t).1 (inpS (row : Int) t) * 2 ^ t := or_add (run_lt C (row : Int) t) b1
  refine ev_iload (np := 102) dL_runs_100 rfl rfl ?_
  refine ev_iload (np := 104) dL_runs_102 rfl rfl ?_
  refine ev_iconst (np := 105) dL_runs_104 rfl ?_
  refine ev_iload_n (np := 106) dL_runs_105 rfl rfl ?_
  refine ev_ishl (np := 107) dL_runs_106 (by omega) rfl ?_
  rw [Int.toNat_natCast, Int.one_mul]
  refine ev_imul (np := 108) dL_runs_107 rfl ?_
  refine ev_iadd (np := 109) dL_runs_108 rfl ?_
  rw [show (((runS C (row : Int) t).2 : Nat) : Int) + ((outS C (runS C (row : Int) t).1 (inpS (row : Int) t) : Nat) : Int) * ((2 ^ t : Nat) : Int) = (((runS C (row : Int) (t + 1)).2 : Nat) : Int) by rw [e2, Int.natCast_add, Int.natCast_mul]]
  refine ev_icmp_ne (tgt := 131) (np := 112) dL_runs_109 (by decide) rfl (by omega) (by omega) (fun h => absurd (by omega) h) (fun _ => ?_)
  refine ev_aload_n (np := 113) dL_runs_112 rfl rfl ?_
  refine ev_iload_n (np := 114) dL_runs_113 rfl rfl ?_
  refine ev_iconst (np := 115) dL_runs_114 rfl ?_
  refine ev_V2 (np := 118) moX9_circuitOf sL_runs_115 (sem_circuitOf hW h1 (c := c) (w := 3) (by omega) (by omega) ) rfl rfl (Nat.le_of_ble_eq_true rfl) rfl (fun v N2 hq => ?_)
  obtain ⟨rfl, h2⟩ := hq
  rw [of_3 hc e]
  have hX : sct (tabOf C) 16 < 65536 := sct_lt (tabOf_wf hC) 16
  have hb : bt (sct (tabOf C) 16) (runS C (row : Int) t).1 = 1 := by
    rw [run_pth]
    exact pth_in (tabOf_wf hC) (inp_lt (row : Int)) t
  refine ev_iload (np := 120) dL_runs_118 rfl rfl ?_
  refine ev_ishr (np := 121) dL_runs_120 (by omega) (by omega) rfl ?_
  refine ev_iconst (np := 122) dL_runs_121 rfl ?_
  refine ev_iandm 1 (np := 123) dL_runs_122 (by omega) rfl rfl ?_
  rw [shr1, hb]
  refine ev_iconst (np := 124) dL_runs_123 rfl ?_
  refine ev_icmp_ne (tgt := 131) (np := 127) dL_runs_124 (by decide) rfl (by omega) (by omega) (fun h => absurd (by omega) h) (fun _ => ?_)
  refine ev_iconst (np := 128) dL_runs_127 rfl ?_
  refine ev_goto (np := 132) dL_runs_128 (by decide) ?_
  refine ev_zret dL_runs_132 rfl (by first | exact Or.inl rfl | exact Or.inr rfl | omega) ?_
  exact ⟨rfl, h2⟩
