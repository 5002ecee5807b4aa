/-! THE LAW'S METHODS: apart -/
theorem apart_loop {σ : Sg} (hW : SgW σ) (hn : ¬ napS (tz σ) (t1 σ) = true) (hd : dpt σ + 1 ≤ 15) {Q : Option Val → Mem → Prop}
    (K : ∀ (N : Mem) (t : Int), InvT N σ → Ev ST miL_apart 107 [some (.inr (cX 0)), some (.inl ((dpt σ + 1 : Nat) : Int)), some (.inl ((rwF (lrG (tz σ) (t1 σ)) (dpt σ + 1) (dpt σ + 1) : Nat) : Int)), some (.inl t)] [] N Q) :
    ∀ (r m : Nat) (N : Mem), m + r = dpt σ + 1 → InvT N σ → Ev ST miL_apart 87 [some (.inr (cX 0)), some (.inl ((dpt σ + 1 : Nat) : Int)), some (.inl ((rwF (lrG (tz σ) (t1 σ)) (dpt σ + 1) m : Nat) : Int)), some (.inl ((dpt σ : Int) - m))] [] N Q := by
  have hg : ∀ t, t < dpt σ + 1 → lrG (tz σ) (t1 σ) t < 4 := fun t ht => lrG_lt (tabOf_wf hW.1) (tabOf_wf hW.2.1) hn (Nat.le_of_lt_succ ht)
  intro r
  induction r with
  | zero =>
    intro m N hm h
    refine ev_iload_n (np := 88) dL_apart_87 rfl rfl ?_
    refine ev_if_lt (tgt := 107) (np := 91) dL_apart_88 (by decide) rfl (by omega) (fun _ => ?_) (fun h => absurd (by omega) h)
    rw [show m = dpt σ + 1 by omega]
    exact K N _ h
  | succ r ih =>
    intro m N hm h
    have hl := rwF_lt hg m (by omega)
    have hp : 4 ^ m ≤ 4 ^ 15 := Nat.pow_le_pow_right (by decide) (by omega)
    have e1 : (dpt σ : Int) - m = ((dpt σ - m : Nat) : Int) := by omega
    have hg2 := hg (dpt σ - m) (by omega)
    rw [e1]
    refine ev_iload_n (np := 88) dL_apart_87 rfl rfl ?_
    refine ev_if_lt (tgt := 107) (np := 91) dL_apart_88 (by decide) rfl (by omega) (fun h => absurd h (by omega)) (fun _ => ?_)
    refine ev_iconst (np := 92) dL_apart_91 rfl ?_
    refine ev_iload_n (np := 93) dL_apart_92 rfl rfl ?_
    refine ev_imul (np := 94) dL_apart_93 rfl ?_
    refine ev_aload_n (np := 95) dL_apart_94 rfl rfl ?_
    refine ev_iload_n (np := 96) dL_apart_95 rfl rfl ?_
    refine ev_V1 (np := 99) moX9_apart sL_apart_96 (sem_apart hW h (i := ((dpt σ - m : Nat) : Int)) (by omega) ) rfl rfl (Nat.le_of_ble_eq_true rfl) rfl (fun v N2 hq => ?_)
    obtain ⟨rfl, h2⟩ := hq
    rw [apart_t hn (t := dpt σ - m) (by omega)]
    refine ev_iadd (np := 100) dL_apart_99 rfl ?_
    refine ev_istore_n (np := 101) dL_apart_100 (by decide) rfl ?_
    refine ev_iinc (np := 104) dL_apart_101 rfl (by decide) rfl ?_
    refine ev_goto (np := 87) dL_apart_104 (by decide) ?_
    have := ih (m + 1) N2 (by omega) h2
    rw [show (dpt σ : Int) - ((m + 1 : Nat) : Int) = ((dpt σ - m : Nat) : Int) + -1 by omega, show rwF (lrG (tz σ) (t1 σ)) (dpt σ + 1) (m + 1) = 4 * rwF (lrG (tz σ) (t1 σ)) (dpt σ + 1) m + lrG (tz σ) (t1 σ) (dpt σ - m) by rw [show dpt σ - m = dpt σ + 1 - 1 - m by omega]; rfl] at this
    exact this
theorem sem_lapart {M : Mem} {σ : Sg} (hW : SgW σ) (h : InvT M σ) : Sem ST miL_apart [.inr (cX 0)] M (fun v N => v = some (.inl 1) ∧ InvT N σ) := by
  refine Sem.of (by decide) ST_ok (Nat.le_of_ble_eq_true rfl) (ls0 := [some (.inr (cX 0)), none, none, none]) rfl ?_
  have h0 := tabOf_wf hW.1
  have h1 := tabOf_wf hW.2.1
  have c0 : C01 0 := ⟨by decide, by decide⟩
  have c1 : C01 1 := ⟨by decide, by decide⟩
  refine ev_aload_n (np := 1) dL_apart_0 rfl rfl ?_
  refine ev_iconst (np := 2) dL_apart_1 rfl ?_
  refine ev_V1 (np := 5) moX9_apart sL_apart_2 (sem_apart hW h (i := -1) (by omega) ) rfl rfl (Nat.le_of_ble_eq_true rfl) rfl (fun v N1 hq => ?_)
  obtain ⟨rfl, h2⟩ := hq
  by_cases hn : napS (tz σ) (t1 σ) = true
  · rw [apart_0 hn]
    have hNA : NA (tabOf σ.1) (tabOf σ.2.1) := (nap_iff h0 h1).mp hn
    refine ev_istore_n (np := 6) dL_apart_5 (by decide) rfl ?_
    refine ev_iload_n (np := 7) dL_apart_6 rfl rfl ?_
    refine ev_if_ge (tgt := 61) (np := 10) dL_apart_7 (by decide) rfl (by omega) (fun h => absurd h (by omega)) (fun _ => ?_)
    refine ev_iload_n (np := 11) dL_apart_10 rfl rfl ?_
    refine ev_ldc (np := 13) sL_apart_11 rfl ?_
    refine ev_icmp_ne (tgt := 59) (np := 16) dL_apart_13 (by decide) rfl (by omega) (by omega) (fun h => absurd (by omega) h) (fun _ => ?_)
    refine ev_aload_n (np := 17) dL_apart_16 rfl rfl ?_
    refine ev_iconst (np := 18) dL_apart_17 rfl ?_
    refine ev_V1 (np := 21) moX9_count sL_apart_18 (sem_count hW h2 (w := 1) (by omega) ) rfl rfl (Nat.le_of_ble_eq_true rfl) rfl (fun v N2 hq => ?_)
    obtain ⟨rfl, h3⟩ := hq
    rw [count_1 hn]
    refine ev_iconst (np := 22) dL_apart_21 rfl ?_
    refine ev_icmp_ne (tgt := 59) (np := 25) dL_apart_22 (by decide) rfl (by omega) (by omega) (fun h => absurd (by omega) h) (fun _ => ?_)
    refine ev_aload_n (np := 26) dL_apart_25 rfl rfl ?_
    refine ev_V0 (np := 29) moX9_late sL_apart_26 (sem_late hW h3 ) rfl rfl (Nat.le_of_ble_eq_true rfl) rfl (fun v N3 hq => ?_)
    obtain ⟨rfl, h4⟩ := hq
    rw [late_0 hW hn]
    refine ev_if_ne (tgt := 59) (np := 32) dL_apart_29 (by decide) rfl (by omega) (fun h => absurd (by omega) h) (fun _ => ?_)
    refine ev_aload_n (np := 33) dL_apart_32 rfl rfl ?_
    refine ev_iconst (np := 34) dL_apart_33 rfl ?_
    refine ev_bipush (np := 36) dL_apart_34 (by decide) rfl ?_
    refine ev_bipush (np := 38) dL_apart_36 (by decide) rfl ?_
    refine ev_iconst (np := 39) dL_apart_38 rfl ?_
    refine ev_Vi4 (np := 42) moX9_run sL_apart_39 (sem_runA hW h4 (c := 0) (row := 27) (t := 16) (w := 1) (by omega) (by omega) (by omega) (by omega)) rfl rfl (Nat.le_of_ble_eq_true rfl) rfl ?_
    refine ev_aload_n (np := 43) dL_apart_42 rfl rfl ?_
    refine ev_iconst (np := 44) dL_apart_43 rfl ?_
    refine ev_bipush (np := 46) dL_apart_44 (by decide) rfl ?_
    refine ev_bipush (np := 48) dL_apart_46 (by decide) rfl ?_
    refine ev_iconst (np := 49) dL_apart_48 rfl ?_
    refine ev_Vi4 (np := 52) moX9_run sL_apart_49 (sem_runA hW h4 (c := 1) (row := 27) (t := 16) (w := 1) (by omega) (by omega) (by omega) (by omega)) rfl rfl (Nat.le_of_ble_eq_true rfl) rfl ?_
    have e0 : spRun σ 0 27 16 1 = ((runS σ.1 27 16).2 : Nat) := run_1 c0 (sel_0 σ) 27 (t := 16) (by decide)
    have e1 : spRun σ 1 27 16 1 = ((runS σ.2.1 27 16).2 : Nat) := run_1 c1 (sel_1 σ) 27 (t := 16) (by decide)
    rw [e0, e1, run_agree hW.1 hW.2.1 hNA 27 16]
    have hr := run2_lt σ.2.1 27 16 (Nat.le_refl 16)
    refine ev_icmp_ne (tgt := 59) (np := 55) dL_apart_52 (by decide) rfl (by omega) (by omega) (fun h => absurd (by omega) h) (fun _ => ?_)
    refine ev_iconst (np := 56) dL_apart_55 rfl ?_
    refine ev_goto (np := 60) dL_apart_56 (by decide) ?_
    refine ev_zret dL_apart_60 rfl (by first | exact Or.inl rfl | exact Or.inr rfl | omega) ?_
    exact ⟨rfl, h4⟩
  · rw [apart_n hn]
    have hd := dpt_lt hW hn
    refine ev_istore_n (np := 6) dL_apart_5 (by decide) rfl ?_
    refine ev_iload_n (np := 7) dL_apart_6 rfl rfl ?_
    refine ev_if_ge (tgt := 61) (np := 10) dL_apart_7 (by decide) rfl (by omega) (fun _ => ?_) (fun h => absurd (by omega) h)
    refine ev_iload_n (np := 62) dL_apart_61 rfl rfl ?_
    refine ev_bipush (np := 64) dL_apart_62 (by decide) rfl ?_
    refine ev_icmp_le (tgt := 81) (np := 67) dL_apart_64 (by decide) rfl (by omega) (by omega) (fun hle => ?_) (fun hle => ?_)
    · refine ev_iconst (np := 82) dL_apart_81 rfl ?_
      refine ev_istore_n (np := 83) dL_apart_82 (by decide) rfl ?_
      refine ev_iload_n (np := 84) dL_apart_83 rfl rfl ?_
      refine ev_iconst (np := 85) dL_apart_84 rfl ?_
      refine ev_isub (np := 86) dL_apart_85 rfl ?_
      refine ev_istore_n (np := 87) dL_apart_86 (by decide) rfl ?_
      have hle2 : dpt σ + 1 ≤ 15 := by omega
      rw [show ((dpt σ + 1 : Nat) : Int) - 1 = (dpt σ : Int) - ((0 : Nat) : Int) by omega]
      refine apart_loop hW hn hle2 (fun N t h3 => ?_) (dpt σ + 1) 0 N1 (by omega) h2
      refine ev_aload_n (np := 108) dL_apart_107 rfl rfl ?_
      refine ev_iconst (np := 109) dL_apart_108 rfl ?_
      refine ev_V1 (np := 112) moX9_count sL_apart_109 (sem_count hW h3 (w := 1) (by omega) ) rfl rfl (Nat.le_of_ble_eq_true rfl) rfl (fun v N2 hq => ?_)
      obtain ⟨rfl, h4⟩ := hq
      rw [count_n hn]
      refine ev_if_ne (tgt := 177) (np := 115) dL_apart_112 (by decide) rfl (by omega) (fun h => absurd (by omega) h) (fun _ => ?_)
      refine ev_aload_n (np := 116) dL_apart_115 rfl rfl ?_
      refine ev_V0 (np := 119) moX9_late sL_apart_116 (sem_late hW h4 ) rfl rfl (Nat.le_of_ble_eq_true rfl) rfl (fun v N3 hq => ?_)
      obtain ⟨rfl, h5⟩ := hq
      obtain ⟨l1, l2⟩ := late_n hW hn
      generalize spLate σ = lt at l1 l2 ⊢
      refine ev_if_eq (tgt := 177) (np := 122) dL_apart_119 (by decide) rfl (by omega) (fun h => absurd h (by omega)) (fun _ => ?_)
      have hg : ∀ t, t < dpt σ + 1 → lrG (tz σ) (t1 σ) t < 4 := fun t ht => lrG_lt h0 h1 hn (Nat.le_of_lt_succ ht)
      have hR := rwF_lt hg (dpt σ + 1) (Nat.le_refl _)
      have hp : 4 ^ (dpt σ + 1) ≤ 4 ^ 15 := Nat.pow_le_pow_right (by decide) hle2
      have key := row_apart hW.1 hW.2.1 hn (row := ((rwF (lrG (tz σ) (t1 σ)) (dpt σ + 1) (dpt σ + 1) : Nat) : Int)) (fun t ht => rwF_inp hg (Nat.lt_succ_of_le ht))
      generalize rwF (lrG (tz σ) (t1 σ)) (dpt σ + 1) (dpt σ + 1) = R at hR key ⊢
      have key2 : (runS σ.1 (R : Int) (dpt σ + 1)).2 ^^^ (runS σ.2.1 (R : Int) (dpt σ + 1)).2 = 2 ^ dpt σ := key
      refine ev_aload_n (np := 123) dL_apart_122 rfl rfl ?_
      refine ev_iconst (np := 124) dL_apart_123 rfl ?_
      refine ev_iload_n (np := 125) dL_apart_124 rfl rfl ?_
      refine ev_iload_n (np := 126) dL_apart_125 rfl rfl ?_
      refine ev_iconst (np := 127) dL_apart_126 rfl ?_
      refine ev_Vi4 (np := 130) moX9_run sL_apart_127 (sem_runA hW h5 (c := 0) (row := (R : Int)) (t := ((dpt σ + 1 : Nat) : Int)) (w := 1) (by omega) (by omega) (by omega) (by omega)) rfl rfl (Nat.le_of_ble_eq_true rfl) rfl ?_
      refine ev_aload_n (np := 131) dL_apart_130 rfl rfl ?_
      refine ev_iconst (np := 132) dL_apart_131 rfl ?_
      refine ev_iload_n (np := 133) dL_apart_132 rfl rfl ?_
      refine ev_iload_n (np := 134) dL_apart_133 rfl rfl ?_
      refine ev_iconst (np := 135) dL_apart_134 rfl ?_
      refine ev_Vi4 (np := 138) moX9_run sL_apart_135 (sem_runA hW h5 (c := 1) (row := (R : Int)) (t := ((dpt σ + 1 : Nat) : Int)) (w := 1) (by omega) (by omega) (by omega) (by omega)) rfl rfl (Nat.le_of_ble_eq_true rfl) rfl ?_
      rw [run_1 c0 (sel_0 σ) (R : Int) (t := dpt σ + 1) (by omega), run_1 c1 (sel_1 σ) (R : Int) (t := dpt σ + 1) (by omega)]
      refine ev_ixor (np := 139) dL_apart_138 (by omega) (by omega) rfl ?_
      rw [Int.toNat_natCast, Int.toNat_natCast, key2]
      refine ev_iconst (np := 140) dL_apart_139 rfl ?_
      refine ev_iload_n (np := 141) dL_apart_140 rfl rfl ?_
      refine ev_iconst (np := 142) dL_apart_141 rfl ?_
      refine ev_isub (np := 143) dL_apart_142 rfl ?_
      refine ev_ishl (np := 144) dL_apart_143 (by omega) rfl ?_
      rw [show (((dpt σ + 1 : Nat) : Int) - 1).toNat = dpt σ by omega, Int.one_mul]
      have hp2 : 2 ^ dpt σ ≤ 2 ^ 15 := Nat.pow_le_pow_right (by decide) (by omega)
      generalize 2 ^ dpt σ = P2 at hp2 ⊢
      refine ev_icmp_ne (tgt := 177) (np := 147) dL_apart_144 (by decide) rfl (by omega) (by omega) (fun h => absurd (by omega) h) (fun _ => ?_)
      refine ev_aload_n (np := 148) dL_apart_147 rfl rfl ?_
      refine ev_V0 (np := 151) moX9_pairs sL_apart_148 (sem_pairs hW h5 ) rfl rfl (Nat.le_of_ble_eq_true rfl) rfl (fun v N4 hq => ?_)
      obtain ⟨rfl, h6⟩ := hq
      refine ev_aload_n (np := 152) dL_apart_151 rfl rfl ?_
      refine ev_iconst (np := 153) dL_apart_152 rfl ?_
      refine ev_iconst (np := 154) dL_apart_153 rfl ?_
      refine ev_V2 (np := 157) moX9_circuitOf sL_apart_154 (sem_circuitOf hW h6 (c := 0) (w := 3) (by omega) (by omega) ) rfl rfl (Nat.le_of_ble_eq_true rfl) rfl (fun v N5 hq => ?_)
      obtain ⟨rfl, h7⟩ := hq
      rw [of_3 c0 (sel_0 σ)]
      have x0 : sct (tabOf σ.1) 16 < 65536 := sct_lt h0 16
      have x1 : sct (tabOf σ.2.1) 16 < 65536 := sct_lt h1 16
      refine ev_Si1 (np := 160) moL_bits sL_apart_157 (sem_bits N5 (X := sct (tabOf σ.1) 16) (by omega)) (Nat.le_of_ble_eq_true rfl) rfl ?_
      refine ev_aload_n (np := 161) dL_apart_160 rfl rfl ?_
      refine ev_iconst (np := 162) dL_apart_161 rfl ?_
      refine ev_iconst (np := 163) dL_apart_162 rfl ?_
      refine ev_V2 (np := 166) moX9_circuitOf sL_apart_163 (sem_circuitOf hW h7 (c := 1) (w := 3) (by omega) (by omega) ) rfl rfl (Nat.le_of_ble_eq_true rfl) rfl (fun v N6 hq => ?_)
      obtain ⟨rfl, h8⟩ := hq
      rw [of_3 c1 (sel_1 σ)]
      refine ev_Si1 (np := 169) moL_bits sL_apart_166 (sem_bits N6 (X := sct (tabOf σ.2.1) 16) (by omega)) (Nat.le_of_ble_eq_true rfl) rfl ?_
      refine ev_imul (np := 170) dL_apart_169 rfl ?_
      have hpl : bn (bfs (tabOf σ.1) (tabOf σ.2.1)) ≤ pcS (sct (tabOf σ.1) 16) * pcS (sct (tabOf σ.2.1) 16) := pairs_le h0 h1
      have hm : pcS (sct (tabOf σ.1) 16) * pcS (sct (tabOf σ.2.1) 16) ≤ 16 * 16 := Nat.mul_le_mul (pc_le _) (pc_le _)
      have ep : spPairs σ = ((bn (bfs (tabOf σ.1) (tabOf σ.2.1)) : Nat) : Int) := rfl
      rw [ep, show ((pcS (sct (tabOf σ.1) 16) : Nat) : Int) * ((pcS (sct (tabOf σ.2.1) 16) : Nat) : Int) = ((pcS (sct (tabOf σ.1) 16) * pcS (sct (tabOf σ.2.1) 16) : Nat) : Int) from (Int.natCast_mul _ _).symm]
      generalize pcS (sct (tabOf σ.1) 16) * pcS (sct (tabOf σ.2.1) 16) = pm at hpl hm ⊢
      generalize bn (bfs (tabOf σ.1) (tabOf σ.2.1)) = pn at hpl ⊢
      refine ev_icmp_gt (tgt := 177) (np := 173) dL_apart_170 (by decide) rfl (by omega) (by omega) (fun h => absurd h (by omega)) (fun _ => ?_)
      refine ev_iconst (np := 174) dL_apart_173 rfl ?_
      refine ev_goto (np := 178) dL_apart_174 (by decide) ?_
      refine ev_zret dL_apart_178 rfl (by first | exact Or.inl rfl | exact Or.inr rfl | omega) ?_
      exact ⟨rfl, h8⟩
    · refine ev_aload_n (np := 68) dL_apart_67 rfl rfl ?_
      refine ev_iconst (np := 69) dL_apart_68 rfl ?_
      refine ev_V1 (np := 72) moX9_count sL_apart_69 (sem_count hW h2 (w := 1) (by omega) ) rfl rfl (Nat.le_of_ble_eq_true rfl) rfl (fun v N2 hq => ?_)
      obtain ⟨rfl, h3⟩ := hq
      rw [count_n hn]
      refine ev_if_ne (tgt := 79) (np := 75) dL_apart_72 (by decide) rfl (by omega) (fun h => absurd (by omega) h) (fun _ => ?_)
      refine ev_iconst (np := 76) dL_apart_75 rfl ?_
      refine ev_goto (np := 80) dL_apart_76 (by decide) ?_
      refine ev_zret dL_apart_80 rfl (by first | exact Or.inl rfl | exact Or.inr rfl | omega) ?_
      exact ⟨rfl, h3⟩
