/-! THE LAW'S METHODS: acts -/
abbrev aLs (y z c n : Int) : List (Option Val) := [some (.inr (cX 0)), some (.inl y), some (.inl z), some (.inl c), some (.inl n), none, none, none, none, none, none, none, none, none]
abbrev aQ : Option Val → Mem → Prop := fun v N => v = some (.inl 1) ∧ ∃ τ, SgW τ ∧ InvT N τ
section AC
variable {M : Mem} {σ : Sg} {y c : Int} {z : Nat}
theorem act_gate (hW : SgW σ) (h : InvT M σ) (hc : C01 c) (hz : z < 2147483648) : Ev ST miL_acts 64 (aLs y (z : Int) c (cn (sel c σ) : Nat)) [] M aQ := by
  have hC := sel_w hW c
  generalize e : sel c σ = C at hC
  have hn := hC.1
  refine ev_iload_n (np := 65) dL_acts_64 rfl rfl ?_
  refine ev_iconst (np := 66) dL_acts_65 rfl ?_
  refine ev_idiv (np := 67) dL_acts_66 (by omega) (by omega) rfl ?_
  refine ev_iload (np := 69) dL_acts_67 rfl rfl ?_
  refine ev_iconst (np := 70) dL_acts_69 rfl ?_
  refine ev_iadd (np := 71) dL_acts_70 rfl ?_
  refine ev_irem (np := 72) dL_acts_71 (by omega) (by omega) rfl ?_
  rw [show (z : Int) / 2 % (((cn C : Nat) : Int) + 1) = ((z / 2 % (cn C + 1) : Nat) : Int) by norm_cast]
  have hg : z / 2 % (cn C + 1) < cn C + 1 := Nat.mod_lt _ (by omega)
  generalize z / 2 % (cn C + 1) = g at hg ⊢
  refine ev_istore (np := 74) dL_acts_72 (by decide) rfl ?_
  refine ev_aload_n (np := 75) dL_acts_74 rfl rfl ?_
  refine ev_iload_n (np := 76) dL_acts_75 rfl rfl ?_
  refine ev_iload (np := 78) dL_acts_76 rfl rfl ?_
  refine ev_iload_n (np := 79) dL_acts_78 rfl rfl ?_
  refine ev_bipush (np := 81) dL_acts_79 (by decide) rfl ?_
  refine ev_idiv (np := 82) dL_acts_81 (by omega) (by omega) rfl ?_
  refine ev_bipush (np := 84) dL_acts_82 (by decide) rfl ?_
  refine ev_irem (np := 85) dL_acts_84 (by omega) (by omega) rfl ?_
  have hk : 0 ≤ (z : Int) / 32 % 6 ∧ (z : Int) / 32 % 6 ≤ 5 := by omega
  generalize (z : Int) / 32 % 6 = k at hk ⊢
  refine ev_iload_n (np := 86) dL_acts_85 rfl rfl ?_
  refine ev_sipush (np := 89) dL_acts_86 (by decide) rfl ?_
  refine ev_idiv (np := 90) dL_acts_89 (by omega) (by omega) rfl ?_
  refine ev_bipush (np := 92) dL_acts_90 (by decide) rfl ?_
  refine ev_iload (np := 94) dL_acts_92 rfl rfl ?_
  refine ev_iadd (np := 95) dL_acts_94 rfl ?_
  refine ev_irem (np := 96) dL_acts_95 (by omega) (by omega) rfl ?_
  have ha : 0 ≤ (z : Int) / 256 % (6 + (g : Int)) ∧ (z : Int) / 256 % (6 + (g : Int)) < 6 + (g : Int) := ⟨Int.emod_nonneg _ (by omega), Int.emod_lt_of_pos _ (by omega)⟩
  generalize (z : Int) / 256 % (6 + (g : Int)) = a at ha ⊢
  refine ev_iload_n (np := 97) dL_acts_96 rfl rfl ?_
  refine ev_sipush (np := 100) dL_acts_97 (by decide) rfl ?_
  refine ev_idiv (np := 101) dL_acts_100 (by omega) (by omega) rfl ?_
  refine ev_bipush (np := 103) dL_acts_101 (by decide) rfl ?_
  refine ev_iload (np := 105) dL_acts_103 rfl rfl ?_
  refine ev_iadd (np := 106) dL_acts_105 rfl ?_
  refine ev_irem (np := 107) dL_acts_106 (by omega) (by omega) rfl ?_
  have hb : 0 ≤ (z : Int) / 4096 % (6 + (g : Int)) ∧ (z : Int) / 4096 % (6 + (g : Int)) < 6 + (g : Int) := ⟨Int.emod_nonneg _ (by omega), Int.emod_lt_of_pos _ (by omega)⟩
  generalize (z : Int) / 4096 % (6 + (g : Int)) = b at hb ⊢
  refine ev_V5 (np := 110) moX9_gate sL_acts_107 (sem_gate hW h (c := c) (g := (g : Int)) (k := k) (a := a) (b := b) (by omega) (by omega) (by omega) (by omega) (by omega) ) rfl rfl (Nat.le_of_ble_eq_true rfl) rfl (fun v N hq => ?_)
  obtain ⟨rfl, h2⟩ := hq
  have W2 := spGate_w hW c (g : Int) k a b
  have ev : (spGate σ c (g : Int) k a b).1 = (if 8 ≤ (g : Int) then (-1000003 : Int) else if (g : Int) = ((cn C : Nat) : Int) then ((cn C : Nat) : Int) + 1 else ((cn C : Nat) : Int)) := by
    have := gate_v (σ := σ) (c := c) (g := (g : Int)) (k := k) (a := a) (b := b) hc hk (by rw [e]; omega) ha hb
    rw [e] at this
    exact this
  rw [ev]
  by_cases g8 : 8 ≤ (g : Int)
  · rw [if_pos g8]
    refine ev_istore (np := 112) dL_acts_110 (by decide) rfl ?_
    refine ev_iload (np := 114) dL_acts_112 rfl rfl ?_
    refine ev_bipush (np := 116) dL_acts_114 (by decide) rfl ?_
    refine ev_icmp_ne (tgt := 148) (np := 119) dL_acts_116 (by decide) rfl (by omega) (by omega) (fun h => absurd (by omega) h) (fun _ => ?_)
    refine ev_iload (np := 121) dL_acts_119 rfl rfl ?_
    refine ev_bipush (np := 123) dL_acts_121 (by decide) rfl ?_
    refine ev_icmp_ne (tgt := 148) (np := 126) dL_acts_123 (by decide) rfl (by omega) (by omega) (fun h => absurd (by omega) h) (fun _ => ?_)
    refine ev_iload (np := 128) dL_acts_126 rfl rfl ?_
    refine ev_ldc (np := 130) sL_acts_128 rfl ?_
    refine ev_icmp_eq (tgt := 140) (np := 133) dL_acts_130 (by decide) rfl (by omega) (by omega) (fun _ => ?_) (fun h => absurd (by omega) h)
    refine ev_iconst (np := 141) dL_acts_140 rfl ?_
    refine ev_goto (np := 174) dL_acts_141 (by decide) ?_
    refine ev_zret dL_acts_174 rfl (by first | exact Or.inl rfl | exact Or.inr rfl | omega) ?_
    exact ⟨rfl, _, W2, h2⟩
  · rw [if_neg g8]
    by_cases gn : (g : Int) = ((cn C : Nat) : Int)
    · rw [if_pos gn]
      refine ev_istore (np := 112) dL_acts_110 (by decide) rfl ?_
      refine ev_iload (np := 114) dL_acts_112 rfl rfl ?_
      refine ev_bipush (np := 116) dL_acts_114 (by decide) rfl ?_
      refine ev_icmp_ne (tgt := 148) (np := 119) dL_acts_116 (by decide) rfl (by omega) (by omega) (fun _ => ?_) (fun h => absurd h (by omega))
      refine ev_iload (np := 150) dL_acts_148 rfl rfl ?_
      refine ev_iload (np := 152) dL_acts_150 rfl rfl ?_
      refine ev_iload (np := 154) dL_acts_152 rfl rfl ?_
      refine ev_icmp_ne (tgt := 164) (np := 157) dL_acts_154 (by decide) rfl (by omega) (by omega) (fun h => absurd (by omega) h) (fun _ => ?_)
      refine ev_iload (np := 159) dL_acts_157 rfl rfl ?_
      refine ev_iconst (np := 160) dL_acts_159 rfl ?_
      refine ev_iadd (np := 161) dL_acts_160 rfl ?_
      refine ev_goto (np := 166) dL_acts_161 (by decide) ?_
      refine ev_icmp_ne (tgt := 173) (np := 169) dL_acts_166 (by decide) rfl (by omega) (by omega) (fun h => absurd (by omega) h) (fun _ => ?_)
      refine ev_iconst (np := 170) dL_acts_169 rfl ?_
      refine ev_goto (np := 174) dL_acts_170 (by decide) ?_
      refine ev_zret dL_acts_174 rfl (by first | exact Or.inl rfl | exact Or.inr rfl | omega) ?_
      exact ⟨rfl, _, W2, h2⟩
    · rw [if_neg gn]
      refine ev_istore (np := 112) dL_acts_110 (by decide) rfl ?_
      refine ev_iload (np := 114) dL_acts_112 rfl rfl ?_
      refine ev_bipush (np := 116) dL_acts_114 (by decide) rfl ?_
      refine ev_icmp_ne (tgt := 148) (np := 119) dL_acts_116 (by decide) rfl (by omega) (by omega) (fun q => ?_) (fun q => ?_)
      · refine ev_iload (np := 150) dL_acts_148 rfl rfl ?_
        refine ev_iload (np := 152) dL_acts_150 rfl rfl ?_
        refine ev_iload (np := 154) dL_acts_152 rfl rfl ?_
        refine ev_icmp_ne (tgt := 164) (np := 157) dL_acts_154 (by decide) rfl (by omega) (by omega) (fun _ => ?_) (fun h => absurd h (by omega))
        refine ev_iload (np := 166) dL_acts_164 rfl rfl ?_
        refine ev_icmp_ne (tgt := 173) (np := 169) dL_acts_166 (by decide) rfl (by omega) (by omega) (fun h => absurd (by omega) h) (fun _ => ?_)
        refine ev_iconst (np := 170) dL_acts_169 rfl ?_
        refine ev_goto (np := 174) dL_acts_170 (by decide) ?_
        refine ev_zret dL_acts_174 rfl (by first | exact Or.inl rfl | exact Or.inr rfl | omega) ?_
        exact ⟨rfl, _, W2, h2⟩
      · refine ev_iload (np := 121) dL_acts_119 rfl rfl ?_
        refine ev_bipush (np := 123) dL_acts_121 (by decide) rfl ?_
        refine ev_icmp_ne (tgt := 148) (np := 126) dL_acts_123 (by decide) rfl (by omega) (by omega) (fun _ => ?_) (fun h => absurd h (by omega))
        refine ev_iload (np := 150) dL_acts_148 rfl rfl ?_
        refine ev_iload (np := 152) dL_acts_150 rfl rfl ?_
        refine ev_iload (np := 154) dL_acts_152 rfl rfl ?_
        refine ev_icmp_ne (tgt := 164) (np := 157) dL_acts_154 (by decide) rfl (by omega) (by omega) (fun _ => ?_) (fun h => absurd h (by omega))
        refine ev_iload (np := 166) dL_acts_164 rfl rfl ?_
        refine ev_icmp_ne (tgt := 173) (np := 169) dL_acts_166 (by decide) rfl (by omega) (by omega) (fun h => absurd (by omega) h) (fun _ => ?_)
        refine ev_iconst (np := 170) dL_acts_169 rfl ?_
        refine ev_goto (np := 174) dL_acts_170 (by decide) ?_
        refine ev_zret dL_acts_174 rfl (by first | exact Or.inl rfl | exact Or.inr rfl | omega) ?_
        exact ⟨rfl, _, W2, h2⟩
theorem act_reg (hW : SgW σ) (h : InvT M σ) (hc : C01 c) (hz : z < 2147483648) {n : Int} : Ev ST miL_acts 175 (aLs y (z : Int) c n) [] M aQ := by
  have hC := sel_w hW c
  have hf := fst_lt hC
  refine ev_aload_n (np := 176) dL_acts_175 rfl rfl ?_
  refine ev_iload_n (np := 177) dL_acts_176 rfl rfl ?_
  refine ev_iconst (np := 178) dL_acts_177 rfl ?_
  refine ev_V2 (np := 181) moX9_circuitOf sL_acts_178 (sem_circuitOf hW h (c := c) (w := 2) (by omega) (by omega) ) rfl rfl (Nat.le_of_ble_eq_true rfl) rfl (fun v N1 hq => ?_)
  obtain ⟨rfl, h1⟩ := hq
  rw [of_2 hc rfl]
  refine ev_istore (np := 183) dL_acts_181 (by decide) rfl ?_
  refine ev_iload_n (np := 184) dL_acts_183 rfl rfl ?_
  refine ev_iconst (np := 185) dL_acts_184 rfl ?_
  refine ev_idiv (np := 186) dL_acts_185 (by omega) (by omega) rfl ?_
  refine ev_iconst (np := 187) dL_acts_186 rfl ?_
  refine ev_irem (np := 188) dL_acts_187 (by omega) (by omega) rfl ?_
  rw [show (z : Int) / 2 % 4 = ((z / 2 % 4 : Nat) : Int) by omega]
  have hr : z / 2 % 4 < 4 := by omega
  generalize z / 2 % 4 = r at hr ⊢
  refine ev_istore (np := 190) dL_acts_188 (by decide) rfl ?_
  refine ev_aload_n (np := 191) dL_acts_190 rfl rfl ?_
  refine ev_iload_n (np := 192) dL_acts_191 rfl rfl ?_
  refine ev_iload (np := 194) dL_acts_192 rfl rfl ?_
  refine ev_iload_n (np := 195) dL_acts_194 rfl rfl ?_
  refine ev_bipush (np := 197) dL_acts_195 (by decide) rfl ?_
  refine ev_idiv (np := 198) dL_acts_197 (by omega) (by omega) rfl ?_
  refine ev_bipush (np := 200) dL_acts_198 (by decide) rfl ?_
  refine ev_irem (np := 201) dL_acts_200 (by omega) (by omega) rfl ?_
  have hx : 0 ≤ (z : Int) / 8 % 16 ∧ (z : Int) / 8 % 16 ≤ 15 := by omega
  generalize (z : Int) / 8 % 16 = x at hx ⊢
  refine ev_iload_n (np := 202) dL_acts_201 rfl rfl ?_
  refine ev_sipush (np := 205) dL_acts_202 (by decide) rfl ?_
  refine ev_idiv (np := 206) dL_acts_205 (by omega) (by omega) rfl ?_
  refine ev_iconst (np := 207) dL_acts_206 rfl ?_
  refine ev_irem (np := 208) dL_acts_207 (by omega) (by omega) rfl ?_
  have hb : 0 ≤ (z : Int) / 128 % 2 ∧ (z : Int) / 128 % 2 ≤ 1 := by omega
  generalize (z : Int) / 128 % 2 = b at hb ⊢
  refine ev_V4 (np := 211) moX9_register sL_acts_208 (sem_register hW h1 (c := c) (r := (r : Int)) (x := x) (b := b) (by omega) (by omega) (by omega) (by omega) ) rfl rfl (Nat.le_of_ble_eq_true rfl) rfl (fun v N2 hq => ?_)
  obtain ⟨rfl, h2⟩ := hq
  have W2 := spReg_w hW c (r : Int) x b
  obtain ⟨w1, w2⟩ := hC.2.2.1 r hr
  have eb : bt (fstS (sel c σ)) r = cb (sel c σ) r := bt_st4 (fun r hr => (hC.2.2.1 r hr).2) hr
  rw [reg_v hc hr hx hb]
  refine ev_istore (np := 213) dL_acts_211 (by decide) rfl ?_
  refine ev_iload (np := 215) dL_acts_213 rfl rfl ?_
  refine ev_if_lt (tgt := 243) (np := 218) dL_acts_215 (by decide) rfl (by omega) (fun h => absurd h (by omega)) (fun _ => ?_)
  refine ev_iload (np := 220) dL_acts_218 rfl rfl ?_
  refine ev_bipush (np := 222) dL_acts_220 (by decide) rfl ?_
  refine ev_icmp_gt (tgt := 243) (np := 225) dL_acts_222 (by decide) rfl (by omega) (by omega) (fun h => absurd h (by omega)) (fun _ => ?_)
  refine ev_iload (np := 227) dL_acts_225 rfl rfl ?_
  refine ev_iconst (np := 228) dL_acts_227 rfl ?_
  refine ev_irem (np := 229) dL_acts_228 (by omega) (by omega) rfl ?_
  refine ev_iload (np := 231) dL_acts_229 rfl rfl ?_
  refine ev_iload (np := 233) dL_acts_231 rfl rfl ?_
  refine ev_ishr (np := 234) dL_acts_233 (by omega) (by omega) rfl ?_
  refine ev_iconst (np := 235) dL_acts_234 rfl ?_
  refine ev_iandm 1 (np := 236) dL_acts_235 (by omega) rfl rfl ?_
  rw [shr1, eb]
  refine ev_icmp_ne (tgt := 243) (np := 239) dL_acts_236 (by decide) rfl (by omega) (by omega) (fun h => absurd (by omega) h) (fun _ => ?_)
  refine ev_iconst (np := 240) dL_acts_239 rfl ?_
  refine ev_goto (np := 244) dL_acts_240 (by decide) ?_
  refine ev_zret dL_acts_244 rfl (by first | exact Or.inl rfl | exact Or.inr rfl | omega) ?_
  exact ⟨rfl, _, W2, h2⟩
theorem act_out (hW : SgW σ) (h : InvT M σ) (hc : C01 c) (hz : z < 2147483648) {n : Int} : Ev ST miL_acts 245 (aLs y (z : Int) c n) [] M aQ := by
  have hC := sel_w hW c
  have ho := hC.2.1
  refine ev_iload_n (np := 246) dL_acts_245 rfl rfl ?_
  refine ev_iconst (np := 247) dL_acts_246 rfl ?_
  refine ev_idiv (np := 248) dL_acts_247 (by omega) (by omega) rfl ?_
  refine ev_bipush (np := 250) dL_acts_248 (by decide) rfl ?_
  refine ev_irem (np := 251) dL_acts_250 (by omega) (by omega) rfl ?_
  rw [show (z : Int) / 2 % 16 = ((z / 2 % 16 : Nat) : Int) by omega]
  have hr : z / 2 % 16 < 16 := by omega
  generalize z / 2 % 16 = r at hr ⊢
  refine ev_istore (np := 253) dL_acts_251 (by decide) rfl ?_
  refine ev_aload_n (np := 254) dL_acts_253 rfl rfl ?_
  refine ev_iload_n (np := 255) dL_acts_254 rfl rfl ?_
  refine ev_iload (np := 257) dL_acts_255 rfl rfl ?_
  refine ev_V2 (np := 260) moX9_output sL_acts_257 (sem_output hW h (c := c) (w := (r : Int)) (by omega) (by omega) ) rfl rfl (Nat.le_of_ble_eq_true rfl) rfl (fun v N2 hq => ?_)
  obtain ⟨rfl, h2⟩ := hq
  have W2 := spOut_w hW c (r : Int)
  have es : sel c (spOut σ c (r : Int)).2 = setO (sel c σ) r := by
    rw [out_v hc (by omega), Int.toNat_natCast]
    exact sel_put c _ _
  rw [show (spOut σ c (r : Int)).1 = ((co (sel c σ) : Nat) : Int) by rw [out_v hc (by omega)]]
  refine ev_if_lt (tgt := 278) (np := 263) dL_acts_260 (by decide) rfl (by omega) (fun h => absurd h (by omega)) (fun _ => ?_)
  refine ev_aload_n (np := 264) dL_acts_263 rfl rfl ?_
  refine ev_iload_n (np := 265) dL_acts_264 rfl rfl ?_
  refine ev_iconst (np := 266) dL_acts_265 rfl ?_
  refine ev_V2 (np := 269) moX9_circuitOf sL_acts_266 (sem_circuitOf W2 h2 (c := c) (w := 1) (by omega) (by omega) ) rfl rfl (Nat.le_of_ble_eq_true rfl) rfl (fun v N3 hq => ?_)
  obtain ⟨rfl, h3⟩ := hq
  rw [of_1 hc es, show co (setO (sel c σ) r) = r from rfl]
  refine ev_iload (np := 271) dL_acts_269 rfl rfl ?_
  refine ev_icmp_ne (tgt := 278) (np := 274) dL_acts_271 (by decide) rfl (by omega) (by omega) (fun h => absurd (by omega) h) (fun _ => ?_)
  refine ev_iconst (np := 275) dL_acts_274 rfl ?_
  refine ev_goto (np := 279) dL_acts_275 (by decide) ?_
  refine ev_zret dL_acts_279 rfl (by first | exact Or.inl rfl | exact Or.inr rfl | omega) ?_
  exact ⟨rfl, _, W2, h3⟩
theorem act_copy (hW : SgW σ) (h : InvT M σ) (hc : C01 c) (hz : z < 2147483648) : Ev ST miL_acts 280 (aLs y (z : Int) c (cn (sel c σ) : Nat)) [] M aQ := by
  have hC := sel_w hW c
  have hn := hC.1
  have hcr := count_r σ
  refine ev_aload_n (np := 281) dL_acts_280 rfl rfl ?_
  refine ev_iconst (np := 282) dL_acts_281 rfl ?_
  refine ev_V1 (np := 285) moX9_count sL_acts_282 (sem_count hW h (w := 1) (by omega) ) rfl rfl (Nat.le_of_ble_eq_true rfl) rfl (fun v N1 hq => ?_)
  obtain ⟨rfl, h1⟩ := hq
  refine ev_istore (np := 287) dL_acts_285 (by decide) rfl ?_
  refine ev_iload_n (np := 288) dL_acts_287 rfl rfl ?_
  refine ev_iconst (np := 289) dL_acts_288 rfl ?_
  refine ev_irem (np := 290) dL_acts_289 (by omega) (by omega) rfl ?_
  refine ev_if_le (tgt := 303) (np := 293) dL_acts_290 (by decide) rfl (by omega) (fun h3 => ?_) (fun h3 => ?_)
  · have W2 := spCopy_w hW c
    have hnap := copy_nap hW hc
    refine ev_aload_n (np := 304) dL_acts_303 rfl rfl ?_
    refine ev_iload_n (np := 305) dL_acts_304 rfl rfl ?_
    refine ev_V1 (np := 308) moX9_copy sL_acts_305 (sem_copy hW h1 (c := c) (by omega) ) rfl rfl (Nat.le_of_ble_eq_true rfl) rfl (fun v N2 hq => ?_)
    obtain ⟨rfl, h2⟩ := hq
    rw [show (spCopy σ c).1 = ((cn (sel c σ) : Nat) : Int) by rw [copy_v hc]]
    refine ev_iload (np := 310) dL_acts_308 rfl rfl ?_
    refine ev_icmp_ne (tgt := 367) (np := 313) dL_acts_310 (by decide) rfl (by omega) (by omega) (fun h => absurd (by omega) h) (fun _ => ?_)
    refine ev_aload_n (np := 314) dL_acts_313 rfl rfl ?_
    refine ev_iconst (np := 315) dL_acts_314 rfl ?_
    refine ev_V1 (np := 318) moX9_count sL_acts_315 (sem_count W2 h2 (w := 1) (by omega) ) rfl rfl (Nat.le_of_ble_eq_true rfl) rfl (fun v N3 hq => ?_)
    obtain ⟨rfl, h3⟩ := hq
    rw [count_1 hnap]
    refine ev_iconst (np := 319) dL_acts_318 rfl ?_
    refine ev_icmp_ne (tgt := 367) (np := 322) dL_acts_319 (by decide) rfl (by omega) (by omega) (fun h => absurd (by omega) h) (fun _ => ?_)
    refine ev_aload_n (np := 323) dL_acts_322 rfl rfl ?_
    refine ev_V0 (np := 326) moX9_late sL_acts_323 (sem_late W2 h3 ) rfl rfl (Nat.le_of_ble_eq_true rfl) rfl (fun v N4 hq => ?_)
    obtain ⟨rfl, h4⟩ := hq
    rw [late_0 W2 hnap]
    refine ev_if_ne (tgt := 367) (np := 329) dL_acts_326 (by decide) rfl (by omega) (fun h => absurd (by omega) h) (fun _ => ?_)
    refine ev_aload_n (np := 330) dL_acts_329 rfl rfl ?_
    refine ev_iconst (np := 331) dL_acts_330 rfl ?_
    refine ev_V1 (np := 334) moX9_same sL_acts_331 (sem_same W2 h4 (r := 0) (by omega) ) rfl rfl (Nat.le_of_ble_eq_true rfl) rfl (fun v N5 hq => ?_)
    obtain ⟨rfl, h5⟩ := hq
    obtain ⟨u, eu, u1, u2⟩ := copy_same hW hc
    rw [eu]
    refine ev_iconst (np := 335) dL_acts_334 rfl ?_
    refine ev_iandm 1 (np := 336) dL_acts_335 (by omega) rfl rfl ?_
    rw [show (u : Int) % ((2 ^ 1 : Nat) : Int) = 1 by omega]
    refine ev_iconst (np := 337) dL_acts_336 rfl ?_
    refine ev_icmp_ne (tgt := 367) (np := 340) dL_acts_337 (by decide) rfl (by omega) (by omega) (fun h => absurd (by omega) h) (fun _ => ?_)
    refine ev_iload_n (np := 341) dL_acts_340 rfl rfl ?_
    refine ev_iconst (np := 342) dL_acts_341 rfl ?_
    refine ev_irem (np := 343) dL_acts_342 (by omega) (by omega) rfl ?_
    refine ev_if_eq (tgt := 363) (np := 346) dL_acts_343 (by decide) rfl (by omega) (fun h6 => ?_) (fun h6 => ?_)
    · refine ev_iconst (np := 364) dL_acts_363 rfl ?_
      refine ev_goto (np := 368) dL_acts_364 (by decide) ?_
      refine ev_zret dL_acts_368 rfl (by first | exact Or.inl rfl | exact Or.inr rfl | omega) ?_
      exact ⟨rfl, _, W2, h5⟩
    · refine ev_aload_n (np := 347) dL_acts_346 rfl rfl ?_
      refine ev_V0 (np := 350) moX9_undo sL_acts_347 (sem_undo W2 h5 ) rfl rfl (Nat.le_of_ble_eq_true rfl) rfl (fun v N6 hq => ?_)
      obtain ⟨rfl, h6⟩ := hq
      have W3 := spUndo_w W2
      obtain ⟨q1, q2, q3, q4⟩ := copy_undo hW hc
      refine ev_if_lt (tgt := 367) (np := 353) dL_acts_350 (by decide) rfl (by omega) (fun h => absurd h (by omega)) (fun _ => ?_)
      refine ev_aload_n (np := 354) dL_acts_353 rfl rfl ?_
      refine ev_iconst (np := 355) dL_acts_354 rfl ?_
      refine ev_V1 (np := 358) moX9_count sL_acts_355 (sem_count W3 h6 (w := 1) (by omega) ) rfl rfl (Nat.le_of_ble_eq_true rfl) rfl (fun v N7 hq => ?_)
      obtain ⟨rfl, h7⟩ := hq
      rw [show spCount (spUndo (spCopy σ c).2).2 1 = spCount σ 1 by rw [count_e, count_e σ, q3, q4]]
      refine ev_iload (np := 360) dL_acts_358 rfl rfl ?_
      generalize spCount σ 1 = sm at hcr ⊢
      refine ev_icmp_ne (tgt := 367) (np := 363) dL_acts_360 (by decide) rfl (by omega) (by omega) (fun h => absurd (by omega) h) (fun _ => ?_)
      refine ev_iconst (np := 364) dL_acts_363 rfl ?_
      refine ev_goto (np := 368) dL_acts_364 (by decide) ?_
      refine ev_zret dL_acts_368 rfl (by first | exact Or.inl rfl | exact Or.inr rfl | omega) ?_
      exact ⟨rfl, _, W3, h7⟩
  · refine ev_aload_n (np := 294) dL_acts_293 rfl rfl ?_
    refine ev_iload_n (np := 295) dL_acts_294 rfl rfl ?_
    refine ev_iconst (np := 296) dL_acts_295 rfl ?_
    refine ev_idiv (np := 297) dL_acts_296 (by omega) (by omega) rfl ?_
    rw [show (z : Int) / 3 = ((z / 3 : Nat) : Int) by omega]
    refine ev_S2 (np := 300) moL_runs sL_acts_297 (sem_runs hW h1 (z := z / 3) (by omega) ) (Nat.le_of_ble_eq_true rfl) rfl (fun v N2 hq => ?_)
    obtain ⟨rfl, h2⟩ := hq
    refine ev_goto (np := 368) dL_acts_300 (by decide) ?_
    refine ev_zret dL_acts_368 rfl (by first | exact Or.inl rfl | exact Or.inr rfl | omega) ?_
    exact ⟨rfl, _, hW, h2⟩
theorem act_kinds (hW : SgW σ) (h : InvT M σ) (hz : z < 2147483648) {n : Int} : Ev ST miL_acts 369 (aLs y (z : Int) c n) [] M aQ := by
  have c0 : C01 0 := ⟨by decide, by decide⟩
  have hn := hW.1.1
  refine ev_iload_n (np := 370) dL_acts_369 rfl rfl ?_
  refine ev_iconst (np := 371) dL_acts_370 rfl ?_
  refine ev_idiv (np := 372) dL_acts_371 (by omega) (by omega) rfl ?_
  refine ev_bipush (np := 374) dL_acts_372 (by decide) rfl ?_
  refine ev_irem (np := 375) dL_acts_374 (by omega) (by omega) rfl ?_
  rw [show (z : Int) / 2 % 8 = ((z / 2 % 8 : Nat) : Int) by omega]
  have h8 : z / 2 % 8 < 8 := by omega
  generalize z / 2 % 8 = g at h8 ⊢
  refine ev_istore (np := 377) dL_acts_375 (by decide) rfl ?_
  refine ev_aload_n (np := 378) dL_acts_377 rfl rfl ?_
  refine ev_iload (np := 380) dL_acts_378 rfl rfl ?_
  refine ev_V1 (np := 383) moX9_kinds sL_acts_380 (sem_kinds hW h (g := (g : Int)) (by omega) ) rfl rfl (Nat.le_of_ble_eq_true rfl) rfl (fun v N1 hq => ?_)
  obtain ⟨rfl, h1⟩ := hq
  by_cases hg : g < cn σ.1
  · rw [kinds_v h8 hg]
    have hk := kd_lt σ.1 (t1 σ) g 6 (Nat.le_refl 6)
    have hck := (hW.1.2.2.2 g hg).1
    refine ev_istore (np := 385) dL_acts_383 (by decide) rfl ?_
    refine ev_iload (np := 387) dL_acts_385 rfl rfl ?_
    refine ev_aload_n (np := 388) dL_acts_387 rfl rfl ?_
    refine ev_iconst (np := 389) dL_acts_388 rfl ?_
    refine ev_iconst (np := 390) dL_acts_389 rfl ?_
    refine ev_V2 (np := 393) moX9_circuitOf sL_acts_390 (sem_circuitOf hW h1 (c := 0) (w := 0) (by omega) (by omega) ) rfl rfl (Nat.le_of_ble_eq_true rfl) rfl (fun v N2 hq => ?_)
    obtain ⟨rfl, h2⟩ := hq
    rw [of_0 c0 (sel_0 σ)]
    refine ev_icmp_lt (tgt := 411) (np := 396) dL_acts_393 (by decide) rfl (by omega) (by omega) (fun _ => ?_) (fun h => absurd (by omega) h)
    refine ev_iload (np := 413) dL_acts_411 rfl rfl ?_
    refine ev_aload_n (np := 414) dL_acts_413 rfl rfl ?_
    refine ev_iconst (np := 415) dL_acts_414 rfl ?_
    refine ev_bipush (np := 417) dL_acts_415 (by decide) rfl ?_
    refine ev_iload (np := 419) dL_acts_417 rfl rfl ?_
    refine ev_iadd (np := 420) dL_acts_419 rfl ?_
    refine ev_V2 (np := 423) moX9_circuitOf sL_acts_420 (sem_circuitOf hW h2 (c := 0) (w := 10 + (g : Int)) (by omega) (by omega) ) rfl rfl (Nat.le_of_ble_eq_true rfl) rfl (fun v N3 hq => ?_)
    obtain ⟨rfl, h3⟩ := hq
    rw [of_10 c0 (sel_0 σ) hg h8]
    refine ev_ishr (np := 424) dL_acts_423 (by omega) (by omega) rfl ?_
    refine ev_iconst (np := 425) dL_acts_424 rfl ?_
    refine ev_iandm 1 (np := 426) dL_acts_425 (by omega) rfl rfl ?_
    rw [shr1, kinds_own hW hg]
    refine ev_aload_n (np := 427) dL_acts_426 rfl rfl ?_
    refine ev_iconst (np := 428) dL_acts_427 rfl ?_
    refine ev_V1 (np := 431) moX9_count sL_acts_428 (sem_count hW h3 (w := 1) (by omega) ) rfl rfl (Nat.le_of_ble_eq_true rfl) rfl (fun v N4 hq => ?_)
    obtain ⟨rfl, h4⟩ := hq
    have hcr := count_r σ
    generalize spCount σ 1 = sm at hcr ⊢
    refine ev_icmp_ne (tgt := 438) (np := 434) dL_acts_431 (by decide) rfl (by omega) (by omega) (fun h => absurd (by omega) h) (fun _ => ?_)
    refine ev_iconst (np := 435) dL_acts_434 rfl ?_
    refine ev_goto (np := 439) dL_acts_435 (by decide) ?_
    refine ev_zret dL_acts_439 rfl (by first | exact Or.inl rfl | exact Or.inr rfl | omega) ?_
    exact ⟨rfl, _, hW, h4⟩
  · rw [kinds_n h8 hg]
    refine ev_istore (np := 385) dL_acts_383 (by decide) rfl ?_
    refine ev_iload (np := 387) dL_acts_385 rfl rfl ?_
    refine ev_aload_n (np := 388) dL_acts_387 rfl rfl ?_
    refine ev_iconst (np := 389) dL_acts_388 rfl ?_
    refine ev_iconst (np := 390) dL_acts_389 rfl ?_
    refine ev_V2 (np := 393) moX9_circuitOf sL_acts_390 (sem_circuitOf hW h1 (c := 0) (w := 0) (by omega) (by omega) ) rfl rfl (Nat.le_of_ble_eq_true rfl) rfl (fun v N2 hq => ?_)
    obtain ⟨rfl, h2⟩ := hq
    rw [of_0 c0 (sel_0 σ)]
    refine ev_icmp_lt (tgt := 411) (np := 396) dL_acts_393 (by decide) rfl (by omega) (by omega) (fun h => absurd h (by omega)) (fun _ => ?_)
    refine ev_iload (np := 398) dL_acts_396 rfl rfl ?_
    refine ev_ldc (np := 400) sL_acts_398 rfl ?_
    refine ev_icmp_ne (tgt := 407) (np := 403) dL_acts_400 (by decide) rfl (by omega) (by omega) (fun h => absurd (by omega) h) (fun _ => ?_)
    refine ev_iconst (np := 404) dL_acts_403 rfl ?_
    refine ev_goto (np := 439) dL_acts_404 (by decide) ?_
    refine ev_zret dL_acts_439 rfl (by first | exact Or.inl rfl | exact Or.inr rfl | omega) ?_
    exact ⟨rfl, _, hW, h2⟩
theorem act_apart (hW : SgW σ) (h : InvT M σ) {n : Int} : Ev ST miL_acts 440 (aLs y (z : Int) c n) [] M aQ := by
  refine ev_aload_n (np := 441) dL_acts_440 rfl rfl ?_
  refine ev_S1 (np := 444) moL_apart sL_acts_441 (sem_lapart hW h ) (Nat.le_of_ble_eq_true rfl) rfl (fun v N1 hq => ?_)
  obtain ⟨rfl, h1⟩ := hq
  refine ev_zret dL_acts_444 rfl (by first | exact Or.inl rfl | exact Or.inr rfl | omega) ?_
  exact ⟨rfl, _, hW, h1⟩
theorem act_runs (hW : SgW σ) (h : InvT M σ) (hc : C01 c) (hz : z < 2147483648) {n : Int} : Ev ST miL_acts 445 (aLs y (z : Int) c n) [] M aQ := by
  refine ev_aload_n (np := 446) dL_acts_445 rfl rfl ?_
  refine ev_iload_n (np := 447) dL_acts_446 rfl rfl ?_
  refine ev_S2 (np := 450) moL_runs sL_acts_447 (sem_runs hW h (z := z) hz ) (Nat.le_of_ble_eq_true rfl) rfl (fun v N1 hq => ?_)
  obtain ⟨rfl, h1⟩ := hq
  refine ev_if_eq (tgt := 465) (np := 453) dL_acts_450 (by decide) rfl (by omega) (fun h => absurd h (by omega)) (fun _ => ?_)
  refine ev_aload_n (np := 454) dL_acts_453 rfl rfl ?_
  refine ev_iload_n (np := 455) dL_acts_454 rfl rfl ?_
  refine ev_S2 (np := 458) moL_holds sL_acts_455 (sem_holds hW h1 hc ) (Nat.le_of_ble_eq_true rfl) rfl (fun v N2 hq => ?_)
  obtain ⟨rfl, h2⟩ := hq
  refine ev_if_eq (tgt := 465) (np := 461) dL_acts_458 (by decide) rfl (by omega) (fun h => absurd h (by omega)) (fun _ => ?_)
  refine ev_iconst (np := 462) dL_acts_461 rfl ?_
  refine ev_goto (np := 466) dL_acts_462 (by decide) ?_
  refine ev_zret dL_acts_466 rfl (by first | exact Or.inl rfl | exact Or.inr rfl | omega) ?_
  exact ⟨rfl, _, hW, h2⟩
end AC
theorem sem_acts {M : Mem} {σ : Sg} (hW : SgW σ) (h : InvT M σ) {y : Nat} (hy : y < 2147483648) : Sem ST miL_acts [.inr (cX 0), .inl (y : Int)] M aQ := by
  refine Sem.of (by decide) ST_ok (Nat.le_of_ble_eq_true rfl) (ls0 := [some (.inr (cX 0)), some (.inl (y : Int)), none, none, none, none, none, none, none, none, none, none, none, none]) rfl ?_
  refine ev_iload_n (np := 1) dL_acts_0 rfl rfl ?_
  refine ev_bipush (np := 3) dL_acts_1 (by decide) rfl ?_
  refine ev_idiv (np := 4) dL_acts_3 (by omega) (by omega) rfl ?_
  rw [show (y : Int) / 8 = ((y / 8 : Nat) : Int) by omega]
  have hz : y / 8 < 2147483648 := by omega
  generalize y / 8 = z at hz ⊢
  refine ev_istore_n (np := 5) dL_acts_4 (by decide) rfl ?_
  refine ev_iload_n (np := 6) dL_acts_5 rfl rfl ?_
  refine ev_iconst (np := 7) dL_acts_6 rfl ?_
  refine ev_irem (np := 8) dL_acts_7 (by omega) (by omega) rfl ?_
  have hc : C01 ((z : Int) % 2) := ⟨by omega, by omega⟩
  generalize (z : Int) % 2 = c at hc ⊢
  refine ev_istore_n (np := 9) dL_acts_8 (by decide) rfl ?_
  refine ev_aload_n (np := 10) dL_acts_9 rfl rfl ?_
  refine ev_iload_n (np := 11) dL_acts_10 rfl rfl ?_
  refine ev_iconst (np := 12) dL_acts_11 rfl ?_
  refine ev_V2 (np := 15) moX9_circuitOf sL_acts_12 (sem_circuitOf hW h (c := c) (w := 0) (by omega) (by omega) ) rfl rfl (Nat.le_of_ble_eq_true rfl) rfl (fun v N1 hq => ?_)
  obtain ⟨rfl, h1⟩ := hq
  rw [of_0 hc rfl]
  refine ev_istore (np := 17) dL_acts_15 (by decide) rfl ?_
  refine ev_iload_n (np := 18) dL_acts_17 rfl rfl ?_
  refine ev_bipush (np := 20) dL_acts_18 (by decide) rfl ?_
  refine ev_irem (np := 21) dL_acts_20 (by omega) (by omega) rfl ?_
  rcases (show (y : Int) % 8 = 0 ∨ (y : Int) % 8 = 1 ∨ (y : Int) % 8 = 2 ∨ (y : Int) % 8 = 3 ∨ (y : Int) % 8 = 4 ∨ (y : Int) % 8 = 5 ∨ (y : Int) % 8 = 6 ∨ (y : Int) % 8 = 7 by omega) with q | q | q | q | q | q | q | q
  · rw [q]
    refine ev_swIn (np := 64) dL_acts_21 (by omega) (by omega) (by first | rfl | (simp; done)) (by decide) ?_
    exact act_gate hW h1 hc hz
  · rw [q]
    refine ev_swIn (np := 64) dL_acts_21 (by omega) (by omega) (by first | rfl | (simp; done)) (by decide) ?_
    exact act_gate hW h1 hc hz
  · rw [q]
    refine ev_swIn (np := 175) dL_acts_21 (by omega) (by omega) (by first | rfl | (simp; done)) (by decide) ?_
    exact act_reg hW h1 hc hz
  · rw [q]
    refine ev_swIn (np := 245) dL_acts_21 (by omega) (by omega) (by first | rfl | (simp; done)) (by decide) ?_
    exact act_out hW h1 hc hz
  · rw [q]
    refine ev_swIn (np := 280) dL_acts_21 (by omega) (by omega) (by first | rfl | (simp; done)) (by decide) ?_
    exact act_copy hW h1 hc hz
  · rw [q]
    refine ev_swIn (np := 369) dL_acts_21 (by omega) (by omega) (by first | rfl | (simp; done)) (by decide) ?_
    exact act_kinds hW h1 hz
  · rw [q]
    refine ev_swIn (np := 440) dL_acts_21 (by omega) (by omega) (by first | rfl | (simp; done)) (by decide) ?_
    exact act_apart hW h1
  · rw [q]
    refine ev_swOut (np := 445) dL_acts_21 (by omega) (by omega) (by decide) ?_
    exact act_runs hW h1 hc hz
