/-! THE LAW: its body -/
abbrev gL (ok k y : Option Val) : List (Option Val) := [some (.inr (cX 99)), some (.inr (cX 0)), ok, k, y]
abbrev oT : Option Val := some (.inl 1)
section LB
variable {L : Nat} {xs : Nat → Int32}
theorem law_tail {M : Mem} {σ : Sg} (hW : SgW σ) (h : InvT M σ) (k y : Option Val) : Lw L xs 137 (gL oT k y) [] M := by
  have c0 : C01 0 := ⟨by decide, by decide⟩
  have c1 : C01 1 := ⟨by decide, by decide⟩
  have hc0 : spCount σ 0 = ((cn σ.1 + cn σ.2.1 : Nat) : Int) := by
    unfold spCount
    rw [if_pos rfl]
  have n0 : cn σ.1 ≤ 8 := hW.1.1
  have n1 : cn σ.2.1 ≤ 8 := hW.2.1.1
  have n2 : cn (sel 0 σ) ≤ 8 := (sel_w hW 0).1
  have ep : spPairs σ = ((bn (bs σ) : Nat) : Int) := rfl
  have hpb : bn (bs σ) ≤ 256 := (BI.bfs (tabOf_wf hW.1) (tabOf_wf hW.2.1)).le
  refine lx_aload_n (np := 138) dL_law_137 rfl rfl ?_
  refine lx_iconst (np := 139) dL_law_138 rfl ?_
  refine lx_V1 (np := 142) moX9_count sL_law_139 (sem_count hW h (w := 0) (by omega) ) rfl rfl (Nat.le_of_ble_eq_true rfl) rfl (fun v N1 hq => ?_)
  obtain ⟨rfl, h1⟩ := hq
  rw [hc0]
  refine lx_istore_n (np := 143) dL_law_142 (by decide) rfl ?_
  refine lx_aload_n (np := 144) dL_law_143 rfl rfl ?_
  refine lx_V0 (np := 147) moX9_pairs sL_law_144 (sem_pairs hW h1 ) rfl rfl (Nat.le_of_ble_eq_true rfl) rfl (fun v N2 hq => ?_)
  obtain ⟨rfl, h2⟩ := hq
  rw [ep]
  refine lx_istore (np := 149) dL_law_147 (by decide) rfl ?_
  refine lx_iload_n (np := 150) dL_law_149 rfl rfl ?_
  refine lx_if_eq (tgt := 215) (np := 153) dL_law_150 (by decide) rfl (by omega) (fun h => absurd h (by omega)) (fun _ => ?_)
  refine lx_aload_n (np := 154) dL_law_153 rfl rfl ?_
  refine lx_iconst (np := 155) dL_law_154 rfl ?_
  refine lx_V1 (np := 158) moX9_copy sL_law_155 (sem_copy hW h2 (c := 0) (by omega) ) rfl rfl (Nat.le_of_ble_eq_true rfl) rfl (fun v N3 hq => ?_)
  obtain ⟨rfl, h3⟩ := hq
  have W3 := spCopy_w hW 0
  rw [show (spCopy σ 0).1 = ((cn (sel 0 σ) : Nat) : Int) by rw [copy_v c0]]
  refine lx_if_lt (tgt := 215) (np := 161) dL_law_158 (by decide) rfl (by omega) (fun h => absurd h (by omega)) (fun _ => ?_)
  refine lx_aload_n (np := 162) dL_law_161 rfl rfl ?_
  refine lx_iconst (np := 163) dL_law_162 rfl ?_
  refine lx_V1 (np := 166) moX9_apart sL_law_163 (sem_apart W3 h3 (i := -1) (by omega) ) rfl rfl (Nat.le_of_ble_eq_true rfl) rfl (fun v N4 hq => ?_)
  obtain ⟨rfl, h4⟩ := hq
  rw [apart_0 (copy_nap hW c0)]
  refine lx_ldc (np := 168) sL_law_166 rfl ?_
  refine lx_icmp_ne (tgt := 215) (np := 171) dL_law_168 (by decide) rfl (by omega) (by omega) (fun h => absurd (by omega) h) (fun _ => ?_)
  refine lx_aload_n (np := 172) dL_law_171 rfl rfl ?_
  refine lx_V0 (np := 175) moX9_undo sL_law_172 (sem_undo W3 h4 ) rfl rfl (Nat.le_of_ble_eq_true rfl) rfl (fun v N5 hq => ?_)
  obtain ⟨rfl, h5⟩ := hq
  have W5 := spUndo_w W3
  obtain ⟨q1, q2, q3, q4⟩ := copy_undo hW c0
  refine lx_if_lt (tgt := 215) (np := 178) dL_law_175 (by decide) rfl (by omega) (fun h => absurd h (by omega)) (fun _ => ?_)
  refine lx_aload_n (np := 179) dL_law_178 rfl rfl ?_
  refine lx_iconst (np := 180) dL_law_179 rfl ?_
  refine lx_V1 (np := 183) moX9_count sL_law_180 (sem_count W5 h5 (w := 0) (by omega) ) rfl rfl (Nat.le_of_ble_eq_true rfl) rfl (fun v N6 hq => ?_)
  obtain ⟨rfl, h6⟩ := hq
  rw [show spCount (spUndo (spCopy σ 0).2).2 0 = ((cn σ.1 + cn σ.2.1 : Nat) : Int) by unfold spCount; rw [if_pos rfl, q3, q4]]
  refine lx_iload_n (np := 184) dL_law_183 rfl rfl ?_
  refine lx_icmp_ne (tgt := 215) (np := 187) dL_law_184 (by decide) rfl (by omega) (by omega) (fun h => absurd (by omega) h) (fun _ => ?_)
  refine lx_aload_n (np := 188) dL_law_187 rfl rfl ?_
  refine lx_V0 (np := 191) moX9_pairs sL_law_188 (sem_pairs W5 h6 ) rfl rfl (Nat.le_of_ble_eq_true rfl) rfl (fun v N7 hq => ?_)
  obtain ⟨rfl, h7⟩ := hq
  rw [show spPairs (spUndo (spCopy σ 0).2).2 = ((bn (bs σ) : Nat) : Int) by unfold spPairs bs tz t1; rw [q3, q4]]
  refine lx_iload (np := 193) dL_law_191 rfl rfl ?_
  refine lx_icmp_ne (tgt := 215) (np := 196) dL_law_193 (by decide) rfl (by omega) (by omega) (fun h => absurd (by omega) h) (fun _ => ?_)
  refine lx_aload_n (np := 197) dL_law_196 rfl rfl ?_
  refine lx_S1 (np := 200) moL_apart sL_law_197 (sem_lapart W5 h7 ) (Nat.le_of_ble_eq_true rfl) rfl (fun v N8 hq => ?_)
  obtain ⟨rfl, h8⟩ := hq
  refine lx_if_eq (tgt := 215) (np := 203) dL_law_200 (by decide) rfl (by omega) (fun h => absurd h (by omega)) (fun _ => ?_)
  refine lx_aload_n (np := 204) dL_law_203 rfl rfl ?_
  refine lx_iconst (np := 205) dL_law_204 rfl ?_
  refine lx_S2 (np := 208) moL_holds sL_law_205 (sem_holds W5 h8 (c := 1) c1 ) (Nat.le_of_ble_eq_true rfl) rfl (fun v N9 hq => ?_)
  obtain ⟨rfl, h9⟩ := hq
  refine lx_if_eq (tgt := 215) (np := 211) dL_law_208 (by decide) rfl (by omega) (fun h => absurd h (by omega)) (fun _ => ?_)
  refine lx_iconst (np := 212) dL_law_211 rfl ?_
  refine lx_goto (np := 216) dL_law_212 (by decide) ?_
  exact lx_end dL_law_216
theorem law_loop2 : ∀ (m k : Nat) (N : Mem) (σ : Sg) (y : Option Val), k + m = 24 → SgW σ → InvT N σ → Lw L xs 108 (gL oT (some (.inl (k : Int))) y) [] N := by
  intro m
  induction m with
  | zero =>
    intro k N σ y hk hW h
    refine lx_iload_n (np := 109) dL_law_108 rfl rfl ?_
    refine lx_bipush (np := 111) dL_law_109 (by decide) rfl ?_
    refine lx_icmp_ge (tgt := 137) (np := 114) dL_law_111 (by decide) rfl (by omega) (by omega) (fun _ => ?_) (fun h => absurd (by omega) h)
    exact law_tail hW h _ _
  | succ m ih =>
    intro k N σ y hk hW h
    refine lx_iload_n (np := 109) dL_law_108 rfl rfl ?_
    refine lx_bipush (np := 111) dL_law_109 (by decide) rfl ?_
    refine lx_icmp_ge (tgt := 137) (np := 114) dL_law_111 (by decide) rfl (by omega) (by omega) (fun h => absurd h (by omega)) (fun _ => ?_)
    refine lx_iload_n (np := 115) dL_law_114 rfl rfl ?_
    refine lx_if_eq (tgt := 137) (np := 118) dL_law_115 (by decide) rfl (by omega) (fun h => absurd h (by omega)) (fun _ => ?_)
    refine lx_aload_n (np := 119) dL_law_118 rfl rfl ?_
    refine lx_aload_n (np := 120) dL_law_119 rfl rfl ?_
    refine lx_bipush (np := 122) dL_law_120 (by decide) rfl ?_
    refine lx_iload_n (np := 123) dL_law_122 rfl rfl ?_
    refine lx_iadd (np := 124) dL_law_123 rfl ?_
    rw [show (8 : Int) + (k : Int) = ((8 + k : Nat) : Int) by omega]
    refine lx_cell (idx := 81) (np := 127) (k := 8 + k) (by omega) (inT2 184 rfl rfl) dL_law_124 (Nat.le_of_ble_eq_true rfl) rfl (fun v hv => ?_)
    refine lx_S2 (np := 130) moL_acts sL_law_127 (sem_acts hW h (y := v) hv ) (Nat.le_of_ble_eq_true rfl) rfl (fun w N2 hq => ?_)
    obtain ⟨rfl, τ, hW2, h2⟩ := hq
    refine lx_istore_n (np := 131) dL_law_130 (by decide) rfl ?_
    refine lx_iinc (np := 134) dL_law_131 rfl (by decide) rfl ?_
    refine lx_goto (np := 108) dL_law_134 (by decide) ?_
    exact ih (k + 1) N2 τ _ (by omega) hW2 h2
theorem law_loop1 : ∀ (m k : Nat) (N : Mem) (σ : Sg) (y : Option Val), k + m = 8 → SgW σ → InvT N σ → Lw L xs 31 (gL oT (some (.inl (k : Int))) y) [] N := by
  intro m
  induction m with
  | zero =>
    intro k N σ y hk hW h
    refine lx_iload_n (np := 32) dL_law_31 rfl rfl ?_
    refine lx_bipush (np := 34) dL_law_32 (by decide) rfl ?_
    refine lx_icmp_ge (tgt := 106) (np := 37) dL_law_34 (by decide) rfl (by omega) (by omega) (fun _ => ?_) (fun h => absurd (by omega) h)
    refine lx_iconst (np := 107) dL_law_106 rfl ?_
    refine lx_istore_n (np := 108) dL_law_107 (by decide) rfl ?_
    exact law_loop2 24 0 N σ _ rfl hW h
  | succ m ih =>
    intro k N σ y hk hW h
    refine lx_iload_n (np := 32) dL_law_31 rfl rfl ?_
    refine lx_bipush (np := 34) dL_law_32 (by decide) rfl ?_
    refine lx_icmp_ge (tgt := 106) (np := 37) dL_law_34 (by decide) rfl (by omega) (by omega) (fun h => absurd h (by omega)) (fun _ => ?_)
    refine lx_iload_n (np := 38) dL_law_37 rfl rfl ?_
    refine lx_if_eq (tgt := 106) (np := 41) dL_law_38 (by decide) rfl (by omega) (fun h => absurd h (by omega)) (fun _ => ?_)
    refine lx_aload_n (np := 42) dL_law_41 rfl rfl ?_
    refine lx_iload_n (np := 43) dL_law_42 rfl rfl ?_
    refine lx_cell (idx := 81) (np := 46) (k := k) (by omega) (inT2 184 rfl rfl) dL_law_43 (Nat.le_of_ble_eq_true rfl) rfl (fun u hu => ?_)
    have go : ∀ v : Nat, v < 2147483648 → Lw L xs 96 (gL oT (some (.inl (k : Int))) (some (.inl (u : Int)))) [.inl (v : Int), .inr (cX 0)] N := by
      intro v hv
      refine lx_S2 (np := 99) moL_acts sL_law_96 (sem_acts hW h (y := v) hv ) (Nat.le_of_ble_eq_true rfl) rfl (fun w N2 hq => ?_)
      obtain ⟨rfl, τ, hW2, h2⟩ := hq
      refine lx_istore_n (np := 100) dL_law_99 (by decide) rfl ?_
      refine lx_iinc (np := 103) dL_law_100 rfl (by decide) rfl ?_
      refine lx_goto (np := 31) dL_law_103 (by decide) ?_
      exact ih (k + 1) N2 τ _ (by omega) hW2 h2
    refine lx_istore (np := 48) dL_law_46 (by decide) rfl ?_
    refine lx_aload_n (np := 49) dL_law_48 rfl rfl ?_
    refine lx_iload_n (np := 50) dL_law_49 rfl rfl ?_
    refine lx_iconst (np := 51) dL_law_50 rfl ?_
    refine lx_irem (np := 52) dL_law_51 (by omega) (by omega) rfl ?_
    refine lx_if_ne (tgt := 68) (np := 55) dL_law_52 (by decide) rfl (by omega) (fun h1 => ?_) (fun h1 => ?_)
    · refine lx_iload_n (np := 69) dL_law_68 rfl rfl ?_
      refine lx_iconst (np := 70) dL_law_69 rfl ?_
      refine lx_irem (np := 71) dL_law_70 (by omega) (by omega) rfl ?_
      refine lx_iconst (np := 72) dL_law_71 rfl ?_
      refine lx_icmp_ne (tgt := 88) (np := 75) dL_law_72 (by decide) rfl (by omega) (by omega) (fun h2 => ?_) (fun h2 => ?_)
      · refine lx_iload (np := 90) dL_law_88 rfl rfl ?_
        refine lx_bipush (np := 92) dL_law_90 (by decide) rfl ?_
        refine lx_idiv (np := 93) dL_law_92 (by omega) (by omega) rfl ?_
        refine lx_bipush (np := 95) dL_law_93 (by decide) rfl ?_
        refine lx_imul (np := 96) dL_law_95 rfl ?_
        rw [show (u : Int) / 8 * 8 = ((u / 8 * 8 : Nat) : Int) by omega]
        exact go _ (by omega)
      · refine lx_iload (np := 77) dL_law_75 rfl rfl ?_
        refine lx_bipush (np := 79) dL_law_77 (by decide) rfl ?_
        refine lx_idiv (np := 80) dL_law_79 (by omega) (by omega) rfl ?_
        refine lx_bipush (np := 82) dL_law_80 (by decide) rfl ?_
        refine lx_imul (np := 83) dL_law_82 rfl ?_
        refine lx_iconst (np := 84) dL_law_83 rfl ?_
        refine lx_iadd (np := 85) dL_law_84 rfl ?_
        refine lx_goto (np := 96) dL_law_85 (by decide) ?_
        rw [show (u : Int) / 8 * 8 + 3 = ((u / 8 * 8 + 3 : Nat) : Int) by omega]
        exact go _ (by omega)
    · refine lx_iload (np := 57) dL_law_55 rfl rfl ?_
      refine lx_bipush (np := 59) dL_law_57 (by decide) rfl ?_
      refine lx_idiv (np := 60) dL_law_59 (by omega) (by omega) rfl ?_
      refine lx_bipush (np := 62) dL_law_60 (by decide) rfl ?_
      refine lx_imul (np := 63) dL_law_62 rfl ?_
      refine lx_iconst (np := 64) dL_law_63 rfl ?_
      refine lx_iadd (np := 65) dL_law_64 rfl ?_
      refine lx_goto (np := 96) dL_law_65 (by decide) ?_
      rw [show (u : Int) / 8 * 8 + 2 = ((u / 8 * 8 + 2 : Nat) : Int) by omega]
      exact go _ (by omega)
theorem law_8 {M : Mem} (h : InvT M sg0) : Lw L xs 8 (gL none none none) [] M := by
  have c0 : C01 0 := ⟨by decide, by decide⟩
  refine lx_aload_n (np := 9) dL_law_8 rfl rfl ?_
  refine lx_iconst (np := 10) dL_law_9 rfl ?_
  refine lx_S2 (np := 13) moL_holds sL_law_10 (sem_holds sg0_w h (c := 0) c0 ) (Nat.le_of_ble_eq_true rfl) rfl (fun v N1 hq => ?_)
  obtain ⟨rfl, h1⟩ := hq
  refine lx_if_eq (tgt := 27) (np := 16) dL_law_13 (by decide) rfl (by omega) (fun h => absurd h (by omega)) (fun _ => ?_)
  refine lx_aload_n (np := 17) dL_law_16 rfl rfl ?_
  refine lx_S1 (np := 20) moL_apart sL_law_17 (sem_lapart sg0_w h1 ) (Nat.le_of_ble_eq_true rfl) rfl (fun v N2 hq => ?_)
  obtain ⟨rfl, h2⟩ := hq
  refine lx_if_eq (tgt := 27) (np := 23) dL_law_20 (by decide) rfl (by omega) (fun h => absurd h (by omega)) (fun _ => ?_)
  refine lx_iconst (np := 24) dL_law_23 rfl ?_
  refine lx_goto (np := 28) dL_law_24 (by decide) ?_
  refine lx_istore_n (np := 29) dL_law_28 (by decide) rfl ?_
  refine lx_iconst (np := 30) dL_law_29 rfl ?_
  refine lx_istore_n (np := 31) dL_law_30 (by decide) rfl ?_
  exact law_loop1 8 0 N2 sg0 _ rfl sg0_w h2
end LB
