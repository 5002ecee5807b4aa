/-! THE LAW'S METHODS: bits, holds -/
theorem bits_loop {M : Mem} {X : Nat} (hX : X < 2147483648) : ∀ (m k : Nat), k + m = 16 → Ev ST miL_bits 4 [some (.inl (X : Int)), some (.inl ((cnt (fun s => bt X s == 1) k : Nat) : Int)), some (.inl (k : Int))] [] M (Ri (pcS X : Nat) M) := by
  intro m
  induction m with
  | zero =>
    intro k hk
    have := cnt_le (fun s => bt X s == 1) k
    refine ev_iload_n (np := 5) dL_bits_4 rfl rfl ?_
    refine ev_bipush (np := 7) dL_bits_5 (by decide) rfl ?_
    refine ev_icmp_ge (tgt := 24) (np := 10) dL_bits_7 (by decide) rfl (by omega) (by omega) (fun _ => ?_) (fun h => absurd (by omega) h)
    refine ev_iload_n (np := 25) dL_bits_24 rfl rfl ?_
    refine ev_iret dL_bits_25 rfl ?_
    exact ⟨by rw [show k = 16 by omega]; rfl, rfl⟩
  | succ m ih =>
    intro k hk
    have hc := cnt_le (fun s => bt X s == 1) k
    have hb := bt_lt X k
    refine ev_iload_n (np := 5) dL_bits_4 rfl rfl ?_
    refine ev_bipush (np := 7) dL_bits_5 (by decide) rfl ?_
    refine ev_icmp_ge (tgt := 24) (np := 10) dL_bits_7 (by decide) rfl (by omega) (by omega) (fun h => absurd h (by omega)) (fun _ => ?_)
    refine ev_iload_n (np := 11) dL_bits_10 rfl rfl ?_
    refine ev_iload_n (np := 12) dL_bits_11 rfl rfl ?_
    refine ev_iload_n (np := 13) dL_bits_12 rfl rfl ?_
    refine ev_ishr (np := 14) dL_bits_13 (by omega) (by omega) rfl ?_
    refine ev_iconst (np := 15) dL_bits_14 rfl ?_
    refine ev_iandm 1 (np := 16) dL_bits_15 (by omega) rfl rfl ?_
    rw [shr1]
    refine ev_iadd (np := 17) dL_bits_16 rfl ?_
    refine ev_istore_n (np := 18) dL_bits_17 (by decide) rfl ?_
    refine ev_iinc (np := 21) dL_bits_18 rfl (by decide) rfl ?_
    refine ev_goto (np := 4) dL_bits_21 (by decide) ?_
    have e : cnt (fun s => bt X s == 1) (k + 1) = cnt (fun s => bt X s == 1) k + bt X k := by
      show cnt (fun s => bt X s == 1) k + (if (bt X k == 1) = true then 1 else 0) = _
      rcases (show bt X k = 0 ∨ bt X k = 1 by omega) with g | g <;> rw [g] <;> rfl
    have := ih (k + 1) (by omega)
    rw [e] at this
    exact this
theorem sem_bits (M : Mem) {X : Nat} (hX : X < 2147483648) : Sem ST miL_bits [.inl (X : Int)] M (Ri (pcS X : Nat) M) := by
  refine Sem.of (by decide) ST_ok (Nat.le_of_ble_eq_true rfl) (ls0 := [some (.inl (X : Int)), none, none]) rfl ?_
  refine ev_iconst (np := 1) dL_bits_0 rfl ?_
  refine ev_istore_n (np := 2) dL_bits_1 (by decide) rfl ?_
  refine ev_iconst (np := 3) dL_bits_2 rfl ?_
  refine ev_istore_n (np := 4) dL_bits_3 (by decide) rfl ?_
  exact bits_loop hX 16 0 rfl
theorem pc_le (X : Nat) : pcS X ≤ 16 := cnt_le _ 16
abbrev hLs (c X f sd k : Int) (s v8 v9 : Option Val) : List (Option Val) := [some (.inr (cX 0)), some (.inl c), some (.inl X), some (.inl f), some (.inl sd), some (.inl k), some (.inl 1), s, v8, v9]
abbrev sdT (C : Circ) : Nat := 15 - (15 &&& chg (tabOf C) (sct (tabOf C) 16) 16)
abbrev XT (C : Circ) : Nat := sct (tabOf C) 16
theorem holds_in {M : Mem} {σ : Sg} (hW : SgW σ) (h : InvT M σ) {c : Int} (hc : C01 c) {C : Circ} (hC : WF C) (e : sel c σ = C) {s : Nat} (hs : s < 16) (hb : bt (XT C) s = 1) {k : Int} {Q : Option Val → Mem → Prop}
    (K : ∀ v8 v9 : Option Val, Ev ST miL_holds 158 (hLs c (XT C : Nat) (fstS C : Nat) (sdT C : Nat) k (some (.inl (s : Int))) v8 v9) [] M Q) :
    ∀ (m i : Nat) (v9 : Option Val), i + m = 4 → Ev ST miL_holds 93 (hLs c (XT C : Nat) (fstS C : Nat) (sdT C : Nat) k (some (.inl (s : Int))) (some (.inl (i : Int))) v9) [] M Q := by
  have hT := tabOf_wf hC
  have hX : XT C < 65536 := sct_lt hT 16
  intro m
  induction m with
  | zero =>
    intro i v9 hi
    refine ev_iload (np := 95) dL_holds_93 rfl rfl ?_
    refine ev_iconst (np := 96) dL_holds_95 rfl ?_
    refine ev_icmp_ge (tgt := 158) (np := 99) dL_holds_96 (by decide) rfl (by omega) (by omega) (fun _ => ?_) (fun h => absurd (by omega) h)
    exact K _ _
  | succ m ih =>
    intro i v9 hi
    have hi4 : i < 4 := by omega
    have n1 : nxtS C s i < 16 := nxt_lt C s i
    have n2 : bt (XT C) (nxtS C s i) = 1 := sct_next hT hs hi4 hb
    have n3 : (nxtS C s i ^^^ fstS C) &&& sdT C = 0 := std_none hT n1 n2
    refine ev_iload (np := 95) dL_holds_93 rfl rfl ?_
    refine ev_iconst (np := 96) dL_holds_95 rfl ?_
    refine ev_icmp_ge (tgt := 158) (np := 99) dL_holds_96 (by decide) rfl (by omega) (by omega) (fun h => absurd h (by omega)) (fun _ => ?_)
    refine ev_iload_n (np := 100) dL_holds_99 rfl rfl ?_
    refine ev_iload (np := 102) dL_holds_100 rfl rfl ?_
    refine ev_ishr (np := 103) dL_holds_102 (by omega) (by omega) rfl ?_
    refine ev_iconst (np := 104) dL_holds_103 rfl ?_
    refine ev_iandm 1 (np := 105) dL_holds_104 (by omega) rfl rfl ?_
    rw [shr1, hb]
    refine ev_iconst (np := 106) dL_holds_105 rfl ?_
    refine ev_icmp_ne (tgt := 158) (np := 109) dL_holds_106 (by decide) rfl (by omega) (by omega) (fun h => absurd (by omega) h) (fun _ => ?_)
    refine ev_aload_n (np := 110) dL_holds_109 rfl rfl ?_
    refine ev_iload_n (np := 111) dL_holds_110 rfl rfl ?_
    refine ev_iload (np := 113) dL_holds_111 rfl rfl ?_
    refine ev_iload (np := 115) dL_holds_113 rfl rfl ?_
    refine ev_Vi3 (np := 118) moX9_behind sL_holds_115 (sem_behindA hW h (c := c) (s := (s : Int)) (i := (i : Int)) (by omega) (by omega) (by omega)) rfl rfl (Nat.le_of_ble_eq_true rfl) rfl ?_
    rw [behind_v hc e hs hi4]
    refine ev_istore (np := 120) dL_holds_118 (by decide) rfl ?_
    refine ev_iload (np := 122) dL_holds_120 rfl rfl ?_
    refine ev_if_eq (tgt := 149) (np := 125) dL_holds_122 (by decide) rfl (by omega) (fun h => absurd h (by omega)) (fun _ => ?_)
    refine ev_iload_n (np := 126) dL_holds_125 rfl rfl ?_
    refine ev_iload (np := 128) dL_holds_126 rfl rfl ?_
    refine ev_ishr (np := 129) dL_holds_128 (by omega) (by omega) rfl ?_
    refine ev_iconst (np := 130) dL_holds_129 rfl ?_
    refine ev_iandm 1 (np := 131) dL_holds_130 (by omega) rfl rfl ?_
    rw [shr1, n2]
    refine ev_iconst (np := 132) dL_holds_131 rfl ?_
    refine ev_icmp_ne (tgt := 149) (np := 135) dL_holds_132 (by decide) rfl (by omega) (by omega) (fun h => absurd (by omega) h) (fun _ => ?_)
    refine ev_iload (np := 137) dL_holds_135 rfl rfl ?_
    refine ev_iload_n (np := 138) dL_holds_137 rfl rfl ?_
    refine ev_ixor (np := 139) dL_holds_138 (by omega) (by omega) rfl ?_
    refine ev_iload (np := 141) dL_holds_139 rfl rfl ?_
    refine ev_iand (np := 142) dL_holds_141 (by omega) (by omega) rfl ?_
    rw [Int.toNat_natCast, Int.toNat_natCast, Int.toNat_natCast, Int.toNat_natCast, n3]
    refine ev_if_ne (tgt := 149) (np := 145) dL_holds_142 (by decide) rfl (by omega) (fun h => absurd (by omega) h) (fun _ => ?_)
    refine ev_iconst (np := 146) dL_holds_145 rfl ?_
    refine ev_goto (np := 150) dL_holds_146 (by decide) ?_
    refine ev_istore (np := 152) dL_holds_150 (by decide) rfl ?_
    refine ev_iinc (np := 155) dL_holds_152 rfl (by decide) rfl ?_
    refine ev_goto (np := 93) dL_holds_155 (by decide) ?_
    exact ih (i + 1) _ (by omega)
theorem holds_out {M : Mem} {σ : Sg} (hW : SgW σ) (h : InvT M σ) {c : Int} (hc : C01 c) {C : Circ} (hC : WF C) (e : sel c σ = C) {k : Int} {Q : Option Val → Mem → Prop}
    (K : ∀ s v8 v9 : Option Val, Ev ST miL_holds 164 (hLs c (XT C : Nat) (fstS C : Nat) (sdT C : Nat) k s v8 v9) [] M Q) :
    ∀ (m s : Nat) (v8 v9 : Option Val), s + m = 16 → Ev ST miL_holds 78 (hLs c (XT C : Nat) (fstS C : Nat) (sdT C : Nat) k (some (.inl (s : Int))) v8 v9) [] M Q := by
  have hT := tabOf_wf hC
  have hX : XT C < 65536 := sct_lt hT 16
  intro m
  induction m with
  | zero =>
    intro s v8 v9 hs
    refine ev_iload (np := 80) dL_holds_78 rfl rfl ?_
    refine ev_bipush (np := 82) dL_holds_80 (by decide) rfl ?_
    refine ev_icmp_ge (tgt := 164) (np := 85) dL_holds_82 (by decide) rfl (by omega) (by omega) (fun _ => ?_) (fun h => absurd (by omega) h)
    exact K _ _ _
  | succ m ih =>
    intro s v8 v9 hs
    have hs16 : s < 16 := by omega
    have hbt := bt_lt (XT C) s
    refine ev_iload (np := 80) dL_holds_78 rfl rfl ?_
    refine ev_bipush (np := 82) dL_holds_80 (by decide) rfl ?_
    refine ev_icmp_ge (tgt := 164) (np := 85) dL_holds_82 (by decide) rfl (by omega) (by omega) (fun h => absurd h (by omega)) (fun _ => ?_)
    refine ev_iload (np := 87) dL_holds_85 rfl rfl ?_
    refine ev_if_eq (tgt := 164) (np := 90) dL_holds_87 (by decide) rfl (by omega) (fun h => absurd h (by omega)) (fun _ => ?_)
    refine ev_iconst (np := 91) dL_holds_90 rfl ?_
    refine ev_istore (np := 93) dL_holds_91 (by decide) rfl ?_
    by_cases hb : bt (XT C) s = 1
    · refine holds_in hW h hc hC e hs16 hb (fun v8 v9 => ?_) 4 0 _ rfl
      refine ev_iinc (np := 161) dL_holds_158 rfl (by decide) rfl ?_
      refine ev_goto (np := 78) dL_holds_161 (by decide) ?_
      exact ih (s + 1) _ _ (by omega)
    · refine ev_iload (np := 95) dL_holds_93 rfl rfl ?_
      refine ev_iconst (np := 96) dL_holds_95 rfl ?_
      refine ev_icmp_ge (tgt := 158) (np := 99) dL_holds_96 (by decide) rfl (by omega) (by omega) (fun h => absurd h (by omega)) (fun _ => ?_)
      refine ev_iload_n (np := 100) dL_holds_99 rfl rfl ?_
      refine ev_iload (np := 102) dL_holds_100 rfl rfl ?_
      refine ev_ishr (np := 103) dL_holds_102 (by omega) (by omega) rfl ?_
      refine ev_iconst (np := 104) dL_holds_103 rfl ?_
      refine ev_iandm 1 (np := 105) dL_holds_104 (by omega) rfl rfl ?_
      rw [shr1]
      refine ev_iconst (np := 106) dL_holds_105 rfl ?_
      refine ev_icmp_ne (tgt := 158) (np := 109) dL_holds_106 (by decide) rfl (by omega) (by omega) (fun _ => ?_) (fun h => absurd h (by omega))
      refine ev_iinc (np := 161) dL_holds_158 rfl (by decide) rfl ?_
      refine ev_goto (np := 78) dL_holds_161 (by decide) ?_
      exact ih (s + 1) _ _ (by omega)
theorem sem_holds {M : Mem} {σ : Sg} (hW : SgW σ) (h : InvT M σ) {c : Int} (hc : C01 c) : Sem ST miL_holds [.inr (cX 0), .inl c] M (fun v N => v = some (.inl 1) ∧ InvT N σ) := by
  refine Sem.of (by decide) ST_ok (Nat.le_of_ble_eq_true rfl) (ls0 := [some (.inr (cX 0)), some (.inl c), none, none, none, none, none, none, none, none]) rfl ?_
  have hC := sel_w hW c
  generalize e : sel c σ = C at hC
  have hT := tabOf_wf hC
  have hX : XT C < 65536 := sct_lt hT 16
  have hf : fstS C < 16 := fst_lt hC
  have hb : bt (XT C) (fstS C) = 1 := sct_first (tabOf C) 16
  obtain ⟨k1, k2⟩ := cls_rng (T := tabOf C) hf hb
  have k3 := pc_le (XT C)
  have hsd : sdT C < 16 := by
    show 15 - _ < 16
    omega
  refine ev_aload_n (np := 1) dL_holds_0 rfl rfl ?_
  refine ev_iload_n (np := 2) dL_holds_1 rfl rfl ?_
  refine ev_iconst (np := 3) dL_holds_2 rfl ?_
  refine ev_V2 (np := 6) moX9_circuitOf sL_holds_3 (sem_circuitOf hW h (c := c) (w := 3) (by omega) (by omega) ) rfl rfl (Nat.le_of_ble_eq_true rfl) rfl (fun v N1 hq => ?_)
  obtain ⟨rfl, h1⟩ := hq
  rw [show spOf σ c 3 = ((XT C : Nat) : Int) from of_3 hc e]
  refine ev_istore_n (np := 7) dL_holds_6 (by decide) rfl ?_
  refine ev_aload_n (np := 8) dL_holds_7 rfl rfl ?_
  refine ev_iload_n (np := 9) dL_holds_8 rfl rfl ?_
  refine ev_iconst (np := 10) dL_holds_9 rfl ?_
  refine ev_V2 (np := 13) moX9_circuitOf sL_holds_10 (sem_circuitOf hW h1 (c := c) (w := 2) (by omega) (by omega) ) rfl rfl (Nat.le_of_ble_eq_true rfl) rfl (fun v N2 hq => ?_)
  obtain ⟨rfl, h2⟩ := hq
  rw [of_2 hc e]
  refine ev_istore_n (np := 14) dL_holds_13 (by decide) rfl ?_
  refine ev_aload_n (np := 15) dL_holds_14 rfl rfl ?_
  refine ev_iload_n (np := 16) dL_holds_15 rfl rfl ?_
  refine ev_iconst (np := 17) dL_holds_16 rfl ?_
  refine ev_V2 (np := 20) moX9_circuitOf sL_holds_17 (sem_circuitOf hW h2 (c := c) (w := 4) (by omega) (by omega) ) rfl rfl (Nat.le_of_ble_eq_true rfl) rfl (fun v N3 hq => ?_)
  obtain ⟨rfl, h3⟩ := hq
  rw [show spOf σ c 4 = ((sdT C : Nat) : Int) from of_4 hc e]
  refine ev_istore (np := 22) dL_holds_20 (by decide) rfl ?_
  refine ev_aload_n (np := 23) dL_holds_22 rfl rfl ?_
  refine ev_iload_n (np := 24) dL_holds_23 rfl rfl ?_
  refine ev_iconst (np := 25) dL_holds_24 rfl ?_
  refine ev_V2 (np := 28) moX9_circuitOf sL_holds_25 (sem_circuitOf hW h3 (c := c) (w := 5) (by omega) (by omega) ) rfl rfl (Nat.le_of_ble_eq_true rfl) rfl (fun v N4 hq => ?_)
  obtain ⟨rfl, h4⟩ := hq
  rw [show spOf σ c 5 = ((clsS (tabOf C) (XT C) : Nat) : Int) from of_5 hc e]
  have tl : Ev ST miL_holds 68 [some (.inr (cX 0)), some (.inl c), some (.inl (XT C : Nat)), some (.inl (fstS C : Nat)), some (.inl (sdT C : Nat)), some (.inl (clsS (tabOf C) (XT C) : Nat)), none, none, none, none] [] N4 (fun v N => v = some (.inl 1) ∧ InvT N σ) := by
    refine ev_iconst (np := 69) dL_holds_68 rfl ?_
    refine ev_goto (np := 73) dL_holds_69 (by decide) ?_
    refine ev_istore (np := 75) dL_holds_73 (by decide) rfl ?_
    refine ev_iconst (np := 76) dL_holds_75 rfl ?_
    refine ev_istore (np := 78) dL_holds_76 (by decide) rfl ?_
    refine holds_out hW h4 hc hC e (fun s v8 v9 => ?_) 16 0 _ _ rfl
    refine ev_iload (np := 166) dL_holds_164 rfl rfl ?_
    refine ev_if_eq (tgt := 191) (np := 169) dL_holds_166 (by decide) rfl (by omega) (fun h => absurd h (by omega)) (fun _ => ?_)
    refine ev_aload_n (np := 170) dL_holds_169 rfl rfl ?_
    refine ev_iload_n (np := 171) dL_holds_170 rfl rfl ?_
    refine ev_bipush (np := 173) dL_holds_171 (by decide) rfl ?_
    refine ev_V2 (np := 176) moX9_circuitOf sL_holds_173 (sem_circuitOf hW h4 (c := c) (w := 6) (by omega) (by omega) ) rfl rfl (Nat.le_of_ble_eq_true rfl) rfl (fun v N5 hq => ?_)
    obtain ⟨rfl, h5⟩ := hq
    rw [of_6 hc e]
    refine ev_iconst (np := 177) dL_holds_176 rfl ?_
    refine ev_aload_n (np := 178) dL_holds_177 rfl rfl ?_
    refine ev_iload_n (np := 179) dL_holds_178 rfl rfl ?_
    refine ev_iconst (np := 180) dL_holds_179 rfl ?_
    refine ev_V2 (np := 183) moX9_circuitOf sL_holds_180 (sem_circuitOf hW h5 (c := c) (w := 0) (by omega) (by omega) ) rfl rfl (Nat.le_of_ble_eq_true rfl) rfl (fun v N6 hq => ?_)
    obtain ⟨rfl, h6⟩ := hq
    rw [of_0 hc e]
    have hn := hC.1
    have hd : depS C 8 (gw (cn C) (co C)) < 2 ^ cn C := depS_lt C 8 _ gw_lt
    have hp : 2 ^ cn C ≤ 2 ^ 8 := Nat.pow_le_pow_right (by decide) hn
    refine ev_ishl (np := 184) dL_holds_183 (by omega) rfl ?_
    rw [Int.toNat_natCast, Int.one_mul]
    generalize 2 ^ cn C = P at hd hp ⊢
    generalize depS C 8 (gw (cn C) (co C)) = dd at hd ⊢
    refine ev_icmp_ge (tgt := 191) (np := 187) dL_holds_184 (by decide) rfl (by omega) (by omega) (fun h => absurd h (by omega)) (fun _ => ?_)
    refine ev_iconst (np := 188) dL_holds_187 rfl ?_
    refine ev_goto (np := 192) dL_holds_188 (by decide) ?_
    refine ev_zret dL_holds_192 rfl (by first | exact Or.inl rfl | exact Or.inr rfl | omega) ?_
    exact ⟨rfl, h6⟩
  refine ev_istore (np := 30) dL_holds_28 (by decide) rfl ?_
  refine ev_iload_n (np := 31) dL_holds_30 rfl rfl ?_
  refine ev_iload_n (np := 32) dL_holds_31 rfl rfl ?_
  refine ev_ishr (np := 33) dL_holds_32 (by omega) (by omega) rfl ?_
  refine ev_iconst (np := 34) dL_holds_33 rfl ?_
  refine ev_iandm 1 (np := 35) dL_holds_34 (by omega) rfl rfl ?_
  rw [shr1, hb]
  refine ev_iconst (np := 36) dL_holds_35 rfl ?_
  refine ev_icmp_ne (tgt := 72) (np := 39) dL_holds_36 (by decide) rfl (by omega) (by omega) (fun h => absurd (by omega) h) (fun _ => ?_)
  refine ev_iload (np := 41) dL_holds_39 rfl rfl ?_
  refine ev_iconst (np := 42) dL_holds_41 rfl ?_
  refine ev_icmp_lt (tgt := 72) (np := 45) dL_holds_42 (by decide) rfl (by omega) (by omega) (fun h => absurd h (by omega)) (fun _ => ?_)
  refine ev_iload (np := 47) dL_holds_45 rfl rfl ?_
  refine ev_iload_n (np := 48) dL_holds_47 rfl rfl ?_
  refine ev_Si1 (np := 51) moL_bits sL_holds_48 (sem_bits N4 (X := XT C) (by omega)) (Nat.le_of_ble_eq_true rfl) rfl ?_
  refine ev_icmp_gt (tgt := 72) (np := 54) dL_holds_51 (by decide) rfl (by omega) (by omega) (fun h => absurd h (by omega)) (fun _ => ?_)
  refine ev_iload (np := 56) dL_holds_54 rfl rfl ?_
  refine ev_bipush (np := 58) dL_holds_56 (by decide) rfl ?_
  refine ev_icmp_lt (tgt := 68) (np := 61) dL_holds_58 (by decide) rfl (by omega) (by omega) (fun hs => ?_) (fun hs => ?_)
  · exact tl
  · have ho : XT C = 2 ^ fstS C := std_one hT (show ¬ sdT C < 15 by omega)
    refine ev_iload_n (np := 62) dL_holds_61 rfl rfl ?_
    refine ev_iconst (np := 63) dL_holds_62 rfl ?_
    refine ev_iload_n (np := 64) dL_holds_63 rfl rfl ?_
    refine ev_ishl (np := 65) dL_holds_64 (by omega) rfl ?_
    rw [Int.toNat_natCast, Int.one_mul, ← ho]
    refine ev_icmp_ne (tgt := 72) (np := 68) dL_holds_65 (by decide) rfl (by omega) (by omega) (fun h => absurd (by omega) h) (fun _ => ?_)
    exact tl
