/-! LATE, in the reference -/
def phW (w : Nat) : Nat := if w < 2 then 0 else if w < 4 then 1 else if w < 8 then 2 else if w < 16 then 3 else 4
def pbW (w : Nat) : Nat := w - 2 ^ phW w
def mcd (c : Nat) : Nat := 4096 * phW (c / 256) + 256 * pbW (c / 256) + c % 256
theorem w_a : ∀ b, b < 5 → ∀ w, w < 32 → 1 ≤ w → w < 2 * 2 ^ b → phW w ≤ b ∧ pbW w < 16 := by decide +kernel
def loB (b w x : Nat) : Bool := !(decide (1 ≤ w) && (decide (w < 2 * 2 ^ b) && decide (phW w < b))) || (decide (w * 2 + x < 2 * 2 ^ b) && (decide (phW (w * 2 + x) = phW w + 1) && decide (pbW (w * 2 + x) = (2 * pbW w + x) % 2 ^ b)))
theorem loB_ok : ∀ b, b < 5 → ∀ w, w < 32 → ∀ x, x < 2 → loB b w x = true := by decide +kernel
theorem w_lo {b : Nat} (hb : b < 5) {w : Nat} (hw : w < 32) {x : Nat} (hx : x < 2) (h1 : 1 ≤ w) (h2 : w < 2 * 2 ^ b) (h3 : phW w < b) : w * 2 + x < 2 * 2 ^ b ∧ phW (w * 2 + x) = phW w + 1 ∧ pbW (w * 2 + x) = (2 * pbW w + x) % 2 ^ b := by
  have h := loB_ok b hb w hw x hx
  unfold loB at h
  rw [decide_eq_true h1, decide_eq_true h2, decide_eq_true h3] at h
  simp only [Bool.and_self, Bool.not_true, Bool.false_or, Bool.and_eq_true, decide_eq_true_eq] at h
  exact h
def hiB (b w x : Nat) : Bool := !(decide (1 ≤ w) && (decide (w < 2 * 2 ^ b) && decide (phW w = b))) || (decide (¬ w * 2 + x < 2 * 2 ^ b) && (decide (bt (w * 2 + x) b = (if b = 0 then x else bt (pbW w) (b - 1))) && (decide (phW ((w * 2 + x) % 2 ^ b + 2 ^ b) = b) && decide (pbW ((w * 2 + x) % 2 ^ b + 2 ^ b) = (2 * pbW w + x) % 2 ^ b))))
theorem hiB_ok : ∀ b, b < 5 → ∀ w, w < 32 → ∀ x, x < 2 → hiB b w x = true := by decide +kernel
theorem w_hi {b : Nat} (hb : b < 5) {w : Nat} (hw : w < 32) {x : Nat} (hx : x < 2) (h1 : 1 ≤ w) (h2 : w < 2 * 2 ^ b) (h3 : phW w = b) : ¬ w * 2 + x < 2 * 2 ^ b ∧ bt (w * 2 + x) b = (if b = 0 then x else bt (pbW w) (b - 1)) ∧ phW ((w * 2 + x) % 2 ^ b + 2 ^ b) = b ∧ pbW ((w * 2 + x) % 2 ^ b + 2 ^ b) = (2 * pbW w + x) % 2 ^ b := by
  have h := hiB_ok b hb w hw x hx
  unfold hiB at h
  rw [decide_eq_true h1, decide_eq_true h2, decide_eq_true h3] at h
  simp only [Bool.and_self, Bool.not_true, Bool.false_or, Bool.and_eq_true, decide_eq_true_eq] at h
  exact h
theorem w_inj : ∀ v, v < 32 → ∀ w, w < 32 → (1 ≤ v ∧ 1 ≤ w) ∧ (phW v = phW w ∧ pbW v = pbW w) → v = w := by decide +kernel
theorem mcd_lt {c : Nat} (h1 : 256 ≤ c) (h2 : c < 8192) : mcd c < 20480 := by
  obtain ⟨a, d⟩ := w_a 4 (by decide) (c / 256) (by omega) (by omega) (by omega)
  unfold mcd
  omega
theorem mcd_inj {c d : Nat} (h1 : 256 ≤ c) (h2 : c < 8192) (g1 : 256 ≤ d) (g2 : d < 8192) (e : mcd c = mcd d) : c = d := by
  obtain ⟨a1, a2⟩ := w_a 4 (by decide) (c / 256) (by omega) (by omega) (by omega)
  obtain ⟨b1, b2⟩ := w_a 4 (by decide) (d / 256) (by omega) (by omega) (by omega)
  unfold mcd at e
  have := w_inj (c / 256) (by omega) (d / 256) (by omega) ⟨⟨by omega, by omega⟩, by omega, by omega⟩
  omega
def LwM (N : Mem) (s : Lst) : Prop := (∀ c, 256 ≤ c → c < 8192 → N (cX 13) (mcd c) = if lmet s c = true then 1 else 0) ∧ ∀ j, j < ln s → N (cX 12) j = (mcd (lq s j) : Int)
theorem LwM.fy {M N : Mem} {s : Lst} (h : LwM M s) (f : Fy (uM [6] []) M N) : LwM N s := by
  unfold LwM
  rw [f.arr (n := 12) (by decide), f.arr (n := 13) (by decide)]
  exact h
theorem LwM.push {N : Mem} {s : Lst} (h : LwM N s) {c : Nat} (h1 : 256 ≤ c) (h2 : c < 8192) (hq : ∀ j, j < ln s → lq s j < 8192) (hm : ¬ lmet s c = true) : LwM (updM (updM N (cX 13) (mcd c) 1) (cX 12) (ln s) (mcd c : Int)) (lMeet s c) := by
  unfold lMeet
  rw [if_neg hm]
  refine ⟨fun d d1 d2 => ?_, fun j hj => ?_⟩
  · show _ = if fup (lmet s) c true d = true then 1 else 0
    by_cases e : d = c
    · subst e
      rw [fup_s]
      simp [updM]
    · rw [fup_n _ _ e, ← h.1 d d1 d2]
      have : ¬ mcd d = mcd c := fun k => e (mcd_inj d1 d2 h1 h2 k)
      simp [updM, this]
  · have hj : j < ln s + 1 := hj
    show _ = ((mcd (fup (lq s) (ln s) c j) : Nat) : Int)
    by_cases e : j = ln s
    · subst e
      rw [fup_s, updM_same]
    · rw [fup_n _ _ e, ← h.2 j (by omega)]
      simp [updM, e]
theorem mlate_in {M : Mem} {Z O : Circ} (hZ : WF Z) (hO : WF O) (r0 : RefS M 0 Z) (r1 : RefS M 1 O) {b : Nat} (hb : b ≤ 4) {s : Lst} (hI : LI b s) {k : Nat} (hk : k < ln s) {Q : Option Val → Mem → Prop}
    (K1 : ∀ (s' : Lst) (N : Mem) (a1 a2 a3 a4 : Option Val), lIn b (tabOf Z) (tabOf O) k 4 s = some s' → LwM N s' → Fy (uM [6, 12, 13] []) M N → Ev SM miX10_isLate 280 [some (.inr (cX 0)), some (.inl (b : Int)), some (.inl ((2 ^ b - 1 : Nat) : Int)), some (.inl (ln s' : Int)), some (.inl (k : Int)), some (.inl (phW (lq s k / 256) : Int)), some (.inl (pbW (lq s k / 256) : Int)), some (.inl ((lq s k / 16 % 16 : Nat) : Int)), some (.inl ((lq s k % 16 : Nat) : Int)), a1, a2, a3, a4] [] N Q)
    (K0 : ∀ N : Mem, lIn b (tabOf Z) (tabOf O) k 4 s = none → Fy (uM [6, 12, 13] []) M N → Q (some (.inl 0)) N) :
    ∀ (m i : Nat) (s' : Lst) (N : Mem) (a2 a3 a4 : Option Val), i + m = 4 → lIn b (tabOf Z) (tabOf O) k i s = some s' → LwM N s' → Fy (uM [6, 12, 13] []) M N → Ev SM miX10_isLate 130 [some (.inr (cX 0)), some (.inl (b : Int)), some (.inl ((2 ^ b - 1 : Nat) : Int)), some (.inl (ln s' : Int)), some (.inl (k : Int)), some (.inl (phW (lq s k / 256) : Int)), some (.inl (pbW (lq s k / 256) : Int)), some (.inl ((lq s k / 16 % 16 : Nat) : Int)), some (.inl ((lq s k % 16 : Nat) : Int)), some (.inl (i : Int)), a2, a3, a4] [] N Q := by
  have hTZ := tabOf_wf hZ
  have hTO := tabOf_wf hO
  have hp4 := pow4 hb
  have hp0 := Nat.two_pow_pos b
  obtain ⟨c1, c2⟩ := hI.2.1 k hk
  have zl : lq s k / 16 % 16 < 16 := by omega
  have ol : lq s k % 16 < 16 := by omega
  have w1 : 1 ≤ lq s k / 256 := by omega
  have w2 : lq s k / 256 < 2 * 2 ^ b := by omega
  have w3 : lq s k / 256 < 32 := by omega
  obtain ⟨pa, pb⟩ := w_a b (by omega) _ w3 w1 w2
  have stay : ∀ q i, lIn b (tabOf Z) (tabOf O) k i s = none → lIn b (tabOf Z) (tabOf O) k (i + q) s = none := by
    intro q
    induction q with
    | zero => intro i h; exact h
    | succ q ih =>
      intro i h
      rw [show i + (q + 1) = (i + q) + 1 by omega]
      unfold lIn
      rw [ih i h]
  intro m
  induction m with
  | zero =>
    intro i s' N a2 a3 a4 hi e hp hf
    refine ev_iload (np := 132) dX10_isLate_130 rfl rfl ?_
    refine ev_iconst (np := 133) dX10_isLate_132 rfl ?_
    refine ev_icmp_ge (tgt := 280) (np := 136) dX10_isLate_133 (by decide) rfl (by omega) (by omega) (fun _ => ?_) (fun h => absurd (by omega) h)
    rw [show i = 4 by omega] at *
    exact K1 s' N _ _ _ _ e hp hf
  | succ m ih =>
    intro i s' N a2 a3 a4 hi e hp hf
    have i4 : i < 4 := by omega
    obtain ⟨q1, q2, q3⟩ := LI.inn hb hTZ hTO hI hk i s' e
    have hle := q1.le
    have x2 := out_lt Z (lq s k / 16 % 16) i
    have y2 := out_lt O (lq s k % 16) i
    have lo := w_lo (by omega) w3 x2 w1 w2
    have hh := w_hi (by omega) w3 x2 w1 w2
    have nz := nxt_lt Z (lq s k / 16 % 16) i
    have no := nxt_lt O (lq s k % 16) i
    have elw : lw (tabOf Z) (lq s' k) i = lq s k / 256 * 2 + outS Z (lq s k / 16 % 16) i := by
      rw [q3]
      unfold lw
      rw [show bt ((tabOf Z).2.1 (lq s k / 16 % 16)) i = outS Z (lq s k / 16 % 16) i from bt_st4 (fun r _ => out_lt Z _ r) i4]
    have eo : bt ((tabOf O).2.1 (lq s' k % 16)) i = outS O (lq s k % 16) i := by
      rw [q3]
      exact bt_st4 (fun r _ => out_lt O _ r) i4
    have at188 : ∀ (N2 : Mem) (w' : Nat) (a3 : Option Val), 1 ≤ w' → w' < 2 * 2 ^ b → phW w' = (if phW (lq s k / 256) < b then phW (lq s k / 256) + 1 else b) → pbW w' = (2 * pbW (lq s k / 256) + outS Z (lq s k / 16 % 16) i) % 2 ^ b → lnx b (tabOf Z) (tabOf O) (lq s' k) i = some (lcode (tabOf Z) (tabOf O) w' (lq s' k) i) → LwM N2 s' → Fy (uM [6, 12, 13] []) M N2 → Ev SM miX10_isLate 188 [some (.inr (cX 0)), some (.inl (b : Int)), some (.inl ((2 ^ b - 1 : Nat) : Int)), some (.inl (ln s' : Int)), some (.inl (k : Int)), some (.inl (phW (lq s k / 256) : Int)), some (.inl (pbW (lq s k / 256) : Int)), some (.inl ((lq s k / 16 % 16 : Nat) : Int)), some (.inl ((lq s k % 16 : Nat) : Int)), some (.inl (i : Int)), some (.inl (outS Z (lq s k / 16 % 16) i : Int)), a3, a4] [] N2 Q := by
      intro N2 w' a3 g1 g2 g3 g4 g5 hp hf
      have e1 : lIn b (tabOf Z) (tabOf O) k (i + 1) s = some (lMeet s' (lcode (tabOf Z) (tabOf O) w' (lq s' k) i)) := by simp [lIn, e, g5]
      have hcd := lcode_lt hTZ hTO (c := lq s' k) (i := i) g1 g2
      have em : mcd (lcode (tabOf Z) (tabOf O) w' (lq s' k) i) = 4096 * phW w' + 256 * pbW w' + (16 * nxtS Z (lq s k / 16 % 16) i + nxtS O (lq s k % 16) i) := by
        rw [q3]
        show mcd ((w' * 16 + nxtS Z (lq s k / 16 % 16) i) * 16 + nxtS O (lq s k % 16) i) = _
        unfold mcd
        rw [show ((w' * 16 + nxtS Z (lq s k / 16 % 16) i) * 16 + nxtS O (lq s k % 16) i) / 256 = w' by omega]
        omega
      have hcm := mcd_lt hcd.1 (by omega)
      generalize lcode (tabOf Z) (tabOf O) w' (lq s' k) i = cd at *
      have hmod : (2 * pbW (lq s k / 256) + outS Z (lq s k / 16 % 16) i) % 2 ^ b < 2 ^ b := Nat.mod_lt _ hp0
      have emod : ((2 : Int) * (pbW (lq s k / 256) : Int) + (outS Z (lq s k / 16 % 16) i : Int)) % ((2 ^ b : Nat) : Int) = ((pbW w' : Nat) : Int) := by rw [g4]; norm_cast
      have at205 : ∀ P : Int, P = (phW w' : Int) → Ev SM miX10_isLate 205 [some (.inr (cX 0)), some (.inl (b : Int)), some (.inl ((2 ^ b - 1 : Nat) : Int)), some (.inl (ln s' : Int)), some (.inl (k : Int)), some (.inl (phW (lq s k / 256) : Int)), some (.inl (pbW (lq s k / 256) : Int)), some (.inl ((lq s k / 16 % 16 : Nat) : Int)), some (.inl ((lq s k % 16 : Nat) : Int)), some (.inl (i : Int)), some (.inl (outS Z (lq s k / 16 % 16) i : Int)), a3, a4] [.inl P, .inl 4096] N2 Q := by
        rintro _ rfl
        obtain ⟨pa', pb'⟩ := w_a b (by omega) w' (by omega) g1 g2
        refine ev_imul (np := 206) dX10_isLate_205 rfl ?_
        refine ev_sipush (np := 209) dX10_isLate_206 (by decide) rfl ?_
        refine ev_iconst (np := 210) dX10_isLate_209 rfl ?_
        refine ev_iload (np := 212) dX10_isLate_210 rfl rfl ?_
        refine ev_imul (np := 213) dX10_isLate_212 rfl ?_
        refine ev_iload (np := 215) dX10_isLate_213 rfl rfl ?_
        refine ev_iadd (np := 216) dX10_isLate_215 rfl ?_
        refine ev_iload_n (np := 217) dX10_isLate_216 rfl rfl ?_
        refine ev_iandm b (np := 218) dX10_isLate_217 (by omega) rfl rfl ?_
        rw [emod]
        refine ev_imul (np := 219) dX10_isLate_218 rfl ?_
        refine ev_iadd (np := 220) dX10_isLate_219 rfl ?_
        refine ev_bipush (np := 222) dX10_isLate_220 (by decide) rfl ?_
        refine ev_aload_n (np := 223) dX10_isLate_222 rfl rfl ?_
        refine ev_iconst (np := 224) dX10_isLate_223 rfl ?_
        refine ev_iload (np := 226) dX10_isLate_224 rfl rfl ?_
        refine ev_iload (np := 228) dX10_isLate_226 rfl rfl ?_
        refine ev_V3 (np := 231) moX10_then sX10_isLate_228 (sem_mthen hZ (b := 0) (by omega) zl i4 (r0.eq (hf.arr (by decide))) ) rfl rfl (Nat.le_of_ble_eq_true rfl) rfl (fun v3 N3 hq => ?_)
        obtain ⟨rfl, f3⟩ := hq
        have hf3 := hf.tr (f3.le (by decide))
        refine ev_imul (np := 232) dX10_isLate_231 rfl ?_
        refine ev_iadd (np := 233) dX10_isLate_232 rfl ?_
        refine ev_aload_n (np := 234) dX10_isLate_233 rfl rfl ?_
        refine ev_iconst (np := 235) dX10_isLate_234 rfl ?_
        refine ev_iload (np := 237) dX10_isLate_235 rfl rfl ?_
        refine ev_iload (np := 239) dX10_isLate_237 rfl rfl ?_
        refine ev_V3 (np := 242) moX10_then sX10_isLate_239 (sem_mthen hO (b := 1) (by omega) ol i4 (r1.eq (hf3.arr (by decide))) ) rfl rfl (Nat.le_of_ble_eq_true rfl) rfl (fun v4 N4 hq => ?_)
        obtain ⟨rfl, f4⟩ := hq
        have hf4 := hf3.tr (f4.le (by decide))
        have hp4 := hp.fy (f3.tr f4)
        rw [show (4096 : Int) * ((phW w' : Nat) : Int) + 256 * ((pbW w' : Nat) : Int) + 16 * (nxtS Z (lq s k / 16 % 16) i : Int) = ((4096 * phW w' + 256 * pbW w' + 16 * nxtS Z (lq s k / 16 % 16) i : Nat) : Int) by omega]
        refine ev_iadd (np := 243) dX10_isLate_242 rfl ?_
        refine ev_istore (np := 245) dX10_isLate_243 (by decide) rfl ?_
        refine ev_aload_n (np := 246) dX10_isLate_245 rfl rfl ?_
        refine ev_getR (np := 249) sX10_isLate_246 rfl rfl rfl ?_
        refine ev_iload (np := 251) dX10_isLate_249 rfl rfl ?_
        rw [show ((4096 * phW w' + 256 * pbW w' + 16 * nxtS Z (lq s k / 16 % 16) i : Nat) : Int) + (nxtS O (lq s k % 16) i : Int) = (mcd cd : Int) by omega]
        refine ev_iaload (np := 252) dX10_isLate_251 rfl (by omega) (by omega) rfl ?_
        rw [Int.toNat_natCast, hp4.1 cd hcd.1 (by omega)]
        by_cases hm : lmet s' cd = true
        · rw [if_pos hm]
          have e2 : lMeet s' cd = s' := by unfold lMeet; rw [if_pos hm]
          rw [e2] at e1
          refine ev_if_ne (tgt := 274) (np := 255) dX10_isLate_252 (by decide) rfl (by omega) (fun _ => ?_) (fun h => absurd h (by omega))
          refine ev_iinc (np := 277) dX10_isLate_274 rfl (by decide) rfl ?_
          refine ev_goto (np := 130) dX10_isLate_277 (by decide) ?_
          exact ih (i + 1) s' N4 _ _ _ (by omega) e1 hp4 hf4
        · rw [if_neg hm]
          have hlt := q1.lt (c := cd) (by omega) hm
          have hpp := hp4.push hcd.1 (by omega) (fun j hj => by have := (q1.2.1 j hj).2; omega) hm
          have hn : ln (lMeet s' cd) = ln s' + 1 := by unfold lMeet; rw [if_neg hm]
          have ihn := ih (i + 1) (lMeet s' cd) _ (some (.inl (outS Z (lq s k / 16 % 16) i : Int))) a3 (some (.inl (mcd cd : Int))) (by omega) e1 hpp (hf4.tr ((Fy.upd rfl).tr (Fy.upd rfl)))
          rw [hn] at ihn
          refine ev_if_ne (tgt := 274) (np := 255) dX10_isLate_252 (by decide) rfl (by omega) (fun h => absurd (by omega) h) (fun _ => ?_)
          refine ev_aload_n (np := 256) dX10_isLate_255 rfl rfl ?_
          refine ev_getR (np := 259) sX10_isLate_256 rfl rfl rfl ?_
          refine ev_iload (np := 261) dX10_isLate_259 rfl rfl ?_
          refine ev_iconst (np := 262) dX10_isLate_261 rfl ?_
          refine ev_iastore (np := 263) dX10_isLate_262 rfl (by omega) (by omega) rfl ?_
          rw [Int.toNat_natCast]
          refine ev_aload_n (np := 264) dX10_isLate_263 rfl rfl ?_
          refine ev_getR (np := 267) sX10_isLate_264 rfl rfl rfl ?_
          refine ev_iload_n (np := 268) dX10_isLate_267 rfl rfl ?_
          refine ev_iload (np := 270) dX10_isLate_268 rfl rfl ?_
          refine ev_iastore (np := 271) dX10_isLate_270 rfl (by omega) (by omega) rfl ?_
          rw [Int.toNat_natCast]
          refine ev_iinc (np := 274) dX10_isLate_271 rfl (by decide) rfl ?_
          refine ev_iinc (np := 277) dX10_isLate_274 rfl (by decide) rfl ?_
          refine ev_goto (np := 130) dX10_isLate_277 (by decide) ?_
          exact ihn
      refine ev_sipush (np := 191) dX10_isLate_188 (by decide) rfl ?_
      refine ev_iload (np := 193) dX10_isLate_191 rfl rfl ?_
      refine ev_iload_n (np := 194) dX10_isLate_193 rfl rfl ?_
      refine ev_icmp_ge (tgt := 204) (np := 197) dX10_isLate_194 (by decide) rfl (by omega) (by omega) (fun h1 => ?_) (fun h1 => ?_)
      · rw [if_neg (by omega)] at g3
        refine ev_iload_n (np := 205) dX10_isLate_204 rfl rfl ?_
        exact at205 _ (by omega)
      · rw [if_pos (by omega)] at g3
        refine ev_iload (np := 199) dX10_isLate_197 rfl rfl ?_
        refine ev_iconst (np := 200) dX10_isLate_199 rfl ?_
        refine ev_iadd (np := 201) dX10_isLate_200 rfl ?_
        refine ev_goto (np := 205) dX10_isLate_201 (by decide) ?_
        exact at205 _ (by omega)
    have at164 : ∀ (N2 : Mem) (ov : Nat), ov = (if b = 0 then outS Z (lq s k / 16 % 16) i else bt (pbW (lq s k / 256)) (b - 1)) → ov < 2 → LwM N2 s' → Fy (uM [6, 12, 13] []) M N2 → Ev SM miX10_isLate 164 [some (.inr (cX 0)), some (.inl (b : Int)), some (.inl ((2 ^ b - 1 : Nat) : Int)), some (.inl (ln s' : Int)), some (.inl (k : Int)), some (.inl (phW (lq s k / 256) : Int)), some (.inl (pbW (lq s k / 256) : Int)), some (.inl ((lq s k / 16 % 16 : Nat) : Int)), some (.inl ((lq s k % 16 : Nat) : Int)), some (.inl (i : Int)), some (.inl (outS Z (lq s k / 16 % 16) i : Int)), a3, a4] [.inl (ov : Int)] N2 Q := by
      intro N2 ov ho ho2 hp hf
      refine ev_istore (np := 166) dX10_isLate_164 (by decide) rfl ?_
      refine ev_iload (np := 168) dX10_isLate_166 rfl rfl ?_
      refine ev_iload_n (np := 169) dX10_isLate_168 rfl rfl ?_
      refine ev_icmp_ne (tgt := 188) (np := 172) dX10_isLate_169 (by decide) rfl (by omega) (by omega) (fun h1 => ?_) (fun h1 => ?_)
      · obtain ⟨l1, l2, l3⟩ := lo (by omega)
        refine at188 N2 (lq s k / 256 * 2 + outS Z (lq s k / 16 % 16) i) _ (by omega) l1 (by rw [if_pos (by omega)]; exact l2) l3 ?_ hp hf
        unfold lnx
        rw [elw, if_pos l1]
      · obtain ⟨l1, l2, l3, l4⟩ := hh (by omega)
        refine ev_aload_n (np := 173) dX10_isLate_172 rfl rfl ?_
        refine ev_iconst (np := 174) dX10_isLate_173 rfl ?_
        refine ev_iload (np := 176) dX10_isLate_174 rfl rfl ?_
        refine ev_iload (np := 178) dX10_isLate_176 rfl rfl ?_
        refine ev_V3 (np := 181) moX10_out sX10_isLate_178 (sem_mout hO (b := 1) (by omega) ol i4 (r1.eq (hf.arr (by decide))) ) rfl rfl (Nat.le_of_ble_eq_true rfl) rfl (fun v3 N3 hq => ?_)
        obtain ⟨rfl, f3⟩ := hq
        have hf3 := hf.tr (f3.le (by decide))
        have hp3 := hp.fy f3
        have hml := Nat.mod_lt (lq s k / 256 * 2 + outS Z (lq s k / 16 % 16) i) hp0
        refine ev_iload (np := 183) dX10_isLate_181 rfl rfl ?_
        refine ev_icmp_eq (tgt := 188) (np := 186) dX10_isLate_183 (by decide) rfl (by omega) (by omega) (fun h2 => ?_) (fun h2 => ?_)
        · refine at188 N3 ((lq s k / 256 * 2 + outS Z (lq s k / 16 % 16) i) % 2 ^ b + 2 ^ b) _ (by omega) (by omega) (by rw [if_neg (by omega)]; exact l3) l4 ?_ hp3 hf3
          unfold lnx
          rw [elw, if_neg l1, if_pos (by rw [l2, eo, ← ho]; omega)]
        · have en : lIn b (tabOf Z) (tabOf O) k 4 s = none := by
            have e1 : lIn b (tabOf Z) (tabOf O) k (i + 1) s = none := by
              have : lnx b (tabOf Z) (tabOf O) (lq s' k) i = none := by
                unfold lnx
                rw [elw, if_neg l1, if_neg (by rw [l2, eo, ← ho]; omega)]
              simp [lIn, e, this]
            have := stay (4 - (i + 1)) (i + 1) e1
            rwa [show i + 1 + (4 - (i + 1)) = 4 by omega] at this
          refine ev_iconst (np := 187) dX10_isLate_186 rfl ?_
          refine ev_zret dX10_isLate_187 rfl (by first | exact Or.inl rfl | exact Or.inr rfl | omega) ?_
          exact K0 N3 en hf3
    refine ev_iload (np := 132) dX10_isLate_130 rfl rfl ?_
    refine ev_iconst (np := 133) dX10_isLate_132 rfl ?_
    refine ev_icmp_ge (tgt := 280) (np := 136) dX10_isLate_133 (by decide) rfl (by omega) (by omega) (fun h => absurd h (by omega)) (fun _ => ?_)
    refine ev_aload_n (np := 137) dX10_isLate_136 rfl rfl ?_
    refine ev_iconst (np := 138) dX10_isLate_137 rfl ?_
    refine ev_iload (np := 140) dX10_isLate_138 rfl rfl ?_
    refine ev_iload (np := 142) dX10_isLate_140 rfl rfl ?_
    refine ev_V3 (np := 145) moX10_out sX10_isLate_142 (sem_mout hZ (b := 0) (by omega) zl i4 (r0.eq (hf.arr (by decide))) ) rfl rfl (Nat.le_of_ble_eq_true rfl) rfl (fun v3 N3 hq => ?_)
    obtain ⟨rfl, f3⟩ := hq
    have hf3 := hf.tr (f3.le (by decide))
    have hp3 := hp.fy f3
    refine ev_istore (np := 147) dX10_isLate_145 (by decide) rfl ?_
    refine ev_iload_n (np := 148) dX10_isLate_147 rfl rfl ?_
    refine ev_if_ne (tgt := 156) (np := 151) dX10_isLate_148 (by decide) rfl (by omega) (fun h1 => ?_) (fun h1 => ?_)
    · have hbl := bt_lt (pbW (lq s k / 256)) (b - 1)
      refine ev_iload (np := 158) dX10_isLate_156 rfl rfl ?_
      refine ev_iload_n (np := 159) dX10_isLate_158 rfl rfl ?_
      refine ev_iconst (np := 160) dX10_isLate_159 rfl ?_
      refine ev_isub (np := 161) dX10_isLate_160 rfl ?_
      rw [show (b : Int) - 1 = ((b - 1 : Nat) : Int) by omega]
      refine ev_ishr (np := 162) dX10_isLate_161 (by omega) (by omega) rfl ?_
      refine ev_iconst (np := 163) dX10_isLate_162 rfl ?_
      refine ev_iandm 1 (np := 164) dX10_isLate_163 (by omega) rfl rfl ?_
      rw [shr1]
      exact at164 N3 _ (by rw [if_neg (by omega)]) hbl hp3 hf3
    · refine ev_iload (np := 153) dX10_isLate_151 rfl rfl ?_
      refine ev_goto (np := 164) dX10_isLate_153 (by decide) ?_
      exact at164 N3 _ (by rw [if_pos (by omega)]) x2 hp3 hf3
theorem mlate_out {M : Mem} {Z O : Circ} (hZ : WF Z) (hO : WF O) (r0 : RefS M 0 Z) (r1 : RefS M 1 O) {b : Nat} (hb : b ≤ 4) : ∀ (f k : Nat) (s : Lst) (N : Mem) (a1 a2 a3 a4 a5 a6 a7 a8 : Option Val), LI b s → k + f = 8193 → LwM N s → Fy (uM [6, 12, 13] []) M N → Ev SM miX10_isLate 65 [some (.inr (cX 0)), some (.inl (b : Int)), some (.inl ((2 ^ b - 1 : Nat) : Int)), some (.inl (ln s : Int)), some (.inl (k : Int)), a1, a2, a3, a4, a5, a6, a7, a8] [] N (fun v N => v = some (.inl (if lOut b (tabOf Z) (tabOf O) f k s = true then 1 else 0)) ∧ Fy (uM [6, 12, 13] []) M N) := by
  have hTZ := tabOf_wf hZ
  have hTO := tabOf_wf hO
  have hp4 := pow4 hb
  have hp0 := Nat.two_pow_pos b
  have stop : ∀ (k : Nat) (s : Lst) (N : Mem) (a1 a2 a3 a4 a5 a6 a7 a8 : Option Val) (R : Bool), LI b s → k ≤ 8193 → ¬ k < ln s → R = true → Fy (uM [6, 12, 13] []) M N → Ev SM miX10_isLate 65 [some (.inr (cX 0)), some (.inl (b : Int)), some (.inl ((2 ^ b - 1 : Nat) : Int)), some (.inl (ln s : Int)), some (.inl (k : Int)), a1, a2, a3, a4, a5, a6, a7, a8] [] N (fun v N => v = some (.inl (if R = true then 1 else 0)) ∧ Fy (uM [6, 12, 13] []) M N) := by
    intro k s N a1 a2 a3 a4 a5 a6 a7 a8 R hI hk h2 hR hf
    have hle := hI.le
    refine ev_iload (np := 67) dX10_isLate_65 rfl rfl ?_
    refine ev_iload_n (np := 68) dX10_isLate_67 rfl rfl ?_
    refine ev_icmp_ge (tgt := 286) (np := 71) dX10_isLate_68 (by decide) rfl (by omega) (by omega) (fun _ => ?_) (fun h => absurd (by omega) h)
    refine ev_iconst (np := 287) dX10_isLate_286 rfl ?_
    refine ev_zret dX10_isLate_287 rfl (by first | exact Or.inl rfl | exact Or.inr rfl | omega) ?_
    exact ⟨by rw [if_pos hR], hf⟩
  intro f
  induction f with
  | zero =>
    intro k s N a1 a2 a3 a4 a5 a6 a7 a8 hI hk hp hf
    have hle := hI.le
    exact stop k s N _ _ _ _ _ _ _ _ _ hI (by omega) (by omega) rfl hf
  | succ f ih =>
    intro k s N a1 a2 a3 a4 a5 a6 a7 a8 hI hk hp hf
    have hle := hI.le
    by_cases g : k < ln s
    · have e0 : lOut b (tabOf Z) (tabOf O) (f + 1) k s = (match lIn b (tabOf Z) (tabOf O) k 4 s with
        | none => false
        | some s' => lOut b (tabOf Z) (tabOf O) f (k + 1) s') := by
        show (if k < ln s then _ else true) = _
        rw [if_pos g]
        cases lIn b (tabOf Z) (tabOf O) k 4 s <;> rfl
      rw [e0]
      obtain ⟨c1, c2⟩ := hI.2.1 k g
      have hqk := hp.2 k g
      have hm := mcd_lt c1 (show lq s k < 8192 by omega)
      obtain ⟨pa, pb⟩ := w_a b (by omega) (lq s k / 256) (by omega) (by omega) (by omega)
      have em : mcd (lq s k) = 4096 * phW (lq s k / 256) + 256 * pbW (lq s k / 256) + lq s k % 256 := rfl
      refine ev_iload (np := 67) dX10_isLate_65 rfl rfl ?_
      refine ev_iload_n (np := 68) dX10_isLate_67 rfl rfl ?_
      refine ev_icmp_ge (tgt := 286) (np := 71) dX10_isLate_68 (by decide) rfl (by omega) (by omega) (fun h => absurd h (by omega)) (fun _ => ?_)
      refine ev_aload_n (np := 72) dX10_isLate_71 rfl rfl ?_
      refine ev_getR (np := 75) sX10_isLate_72 rfl rfl rfl ?_
      refine ev_iload (np := 77) dX10_isLate_75 rfl rfl ?_
      refine ev_iaload (np := 78) dX10_isLate_77 rfl (by omega) (by omega) rfl ?_
      rw [Int.toNat_natCast, hqk]
      refine ev_sipush (np := 81) dX10_isLate_78 (by decide) rfl ?_
      refine ev_idiv (np := 82) dX10_isLate_81 (by omega) (by omega) rfl ?_
      rw [show (mcd (lq s k) : Int) / 4096 = (phW (lq s k / 256) : Int) by omega]
      refine ev_istore (np := 84) dX10_isLate_82 (by decide) rfl ?_
      refine ev_aload_n (np := 85) dX10_isLate_84 rfl rfl ?_
      refine ev_getR (np := 88) sX10_isLate_85 rfl rfl rfl ?_
      refine ev_iload (np := 90) dX10_isLate_88 rfl rfl ?_
      refine ev_iaload (np := 91) dX10_isLate_90 rfl (by omega) (by omega) rfl ?_
      rw [Int.toNat_natCast, hqk]
      refine ev_sipush (np := 94) dX10_isLate_91 (by decide) rfl ?_
      refine ev_idiv (np := 95) dX10_isLate_94 (by omega) (by omega) rfl ?_
      refine ev_bipush (np := 97) dX10_isLate_95 (by decide) rfl ?_
      refine ev_irem (np := 98) dX10_isLate_97 (by omega) (by omega) rfl ?_
      rw [show (mcd (lq s k) : Int) / 256 % 16 = (pbW (lq s k / 256) : Int) by omega]
      refine ev_istore (np := 100) dX10_isLate_98 (by decide) rfl ?_
      refine ev_aload_n (np := 101) dX10_isLate_100 rfl rfl ?_
      refine ev_getR (np := 104) sX10_isLate_101 rfl rfl rfl ?_
      refine ev_iload (np := 106) dX10_isLate_104 rfl rfl ?_
      refine ev_iaload (np := 107) dX10_isLate_106 rfl (by omega) (by omega) rfl ?_
      rw [Int.toNat_natCast, hqk]
      refine ev_bipush (np := 109) dX10_isLate_107 (by decide) rfl ?_
      refine ev_idiv (np := 110) dX10_isLate_109 (by omega) (by omega) rfl ?_
      refine ev_bipush (np := 112) dX10_isLate_110 (by decide) rfl ?_
      refine ev_irem (np := 113) dX10_isLate_112 (by omega) (by omega) rfl ?_
      rw [show (mcd (lq s k) : Int) / 16 % 16 = ((lq s k / 16 % 16 : Nat) : Int) by omega]
      refine ev_istore (np := 115) dX10_isLate_113 (by decide) rfl ?_
      refine ev_aload_n (np := 116) dX10_isLate_115 rfl rfl ?_
      refine ev_getR (np := 119) sX10_isLate_116 rfl rfl rfl ?_
      refine ev_iload (np := 121) dX10_isLate_119 rfl rfl ?_
      refine ev_iaload (np := 122) dX10_isLate_121 rfl (by omega) (by omega) rfl ?_
      rw [Int.toNat_natCast, hqk]
      refine ev_bipush (np := 124) dX10_isLate_122 (by decide) rfl ?_
      refine ev_irem (np := 125) dX10_isLate_124 (by omega) (by omega) rfl ?_
      rw [show (mcd (lq s k) : Int) % 16 = ((lq s k % 16 : Nat) : Int) by omega]
      refine ev_istore (np := 127) dX10_isLate_125 (by decide) rfl ?_
      refine ev_iconst (np := 128) dX10_isLate_127 rfl ?_
      refine ev_istore (np := 130) dX10_isLate_128 (by decide) rfl ?_
      refine mlate_in hZ hO r0 r1 hb hI g ?_ ?_ 4 0 s N _ _ _ rfl rfl hp hf
      · intro s' N2 b1 b2 b3 b4 e hp2 hf2
        rw [e]
        obtain ⟨q1, q2, q3⟩ := LI.inn hb hTZ hTO hI g 4 s' e
        refine ev_iinc (np := 283) dX10_isLate_280 rfl (by decide) rfl ?_
        refine ev_goto (np := 65) dX10_isLate_283 (by decide) ?_
        exact ih (k + 1) s' N2 _ _ _ _ _ _ _ _ q1 (by omega) hp2 hf2
      · intro N2 e hf2
        rw [e]
        exact ⟨rfl, hf2⟩
    · refine stop k s N _ _ _ _ _ _ _ _ _ hI (by omega) g ?_ hf
      show (if k < ln s then _ else true) = true
      rw [if_neg g]
theorem mlate_clr {M : Mem} {Z O : Circ} (hZ : WF Z) (hO : WF O) (r0 : RefS M 0 Z) (r1 : RefS M 1 O) {b : Nat} (hb : b ≤ 4) {a0 a a1 a2 a3 a4 a5 a6 a7 a8 : Option Val} : ∀ (m i : Nat) (N : Mem), i + m = 20480 → Fy (uM [6, 12, 13] []) M N → (∀ c, c < i → N (cX 13) c = 0) → Ev SM miX10_isLate 2 [some (.inr (cX 0)), some (.inl (b : Int)), some (.inl (i : Int)), a0, a, a1, a2, a3, a4, a5, a6, a7, a8] [] N (fun v N => v = some (.inl (if isLateB b (tabOf Z) (tabOf O) = true then 1 else 0)) ∧ Fy (uM [6, 12, 13] []) M N) := by
  have hTZ := tabOf_wf hZ
  have hTO := tabOf_wf hO
  have lz := fst_lt hZ
  have lo := fst_lt hO
  have hp4 := pow4 hb
  have hp0 := Nat.two_pow_pos b
  intro m
  induction m with
  | zero =>
    intro i N hi hf h0
    have hN0 := r0.eq (hf.arr (n := 1) (by decide))
    have hN1 := r1.eq (hf.arr (n := 1) (by decide))
    refine ev_iload_n (np := 3) dX10_isLate_2 rfl rfl ?_
    refine ev_sipush (np := 6) dX10_isLate_3 (by decide) rfl ?_
    refine ev_icmp_ge (tgt := 22) (np := 9) dX10_isLate_6 (by decide) rfl (by omega) (by omega) (fun _ => ?_) (fun h => absurd (by omega) h)
    refine ev_iconst (np := 23) dX10_isLate_22 rfl ?_
    refine ev_iload_n (np := 24) dX10_isLate_23 rfl rfl ?_
    refine ev_ishl (np := 25) dX10_isLate_24 (by omega) rfl ?_
    rw [Int.toNat_natCast, Int.one_mul]
    refine ev_iconst (np := 26) dX10_isLate_25 rfl ?_
    refine ev_isub (np := 27) dX10_isLate_26 rfl ?_
    refine ev_istore_n (np := 28) dX10_isLate_27 (by decide) rfl ?_
    refine ev_iconst (np := 29) dX10_isLate_28 rfl ?_
    refine ev_istore_n (np := 30) dX10_isLate_29 (by decide) rfl ?_
    refine ev_aload_n (np := 31) dX10_isLate_30 rfl rfl ?_
    refine ev_getR (np := 34) sX10_isLate_31 rfl rfl rfl ?_
    refine ev_iconst (np := 35) dX10_isLate_34 rfl ?_
    refine ev_bipush (np := 37) dX10_isLate_35 (by decide) rfl ?_
    refine ev_aload_n (np := 38) dX10_isLate_37 rfl rfl ?_
    refine ev_iconst (np := 39) dX10_isLate_38 rfl ?_
    rw [show ((2 ^ b : Nat) : Int) - 1 = ((2 ^ b - 1 : Nat) : Int) by omega]
    refine ev_Vi1 (np := 42) moX10_first sX10_isLate_39 (sem_mfirst hZ (b := 0) (by omega) hN0) rfl rfl (Nat.le_of_ble_eq_true rfl) rfl ?_
    refine ev_imul (np := 43) dX10_isLate_42 rfl ?_
    refine ev_aload_n (np := 44) dX10_isLate_43 rfl rfl ?_
    refine ev_iconst (np := 45) dX10_isLate_44 rfl ?_
    refine ev_Vi1 (np := 48) moX10_first sX10_isLate_45 (sem_mfirst hO (b := 1) (by omega) hN1) rfl rfl (Nat.le_of_ble_eq_true rfl) rfl ?_
    refine ev_iadd (np := 49) dX10_isLate_48 rfl ?_
    rw [show (16 : Int) * (fstS Z : Int) + (fstS O : Int) = ((16 * fstS Z + fstS O : Nat) : Int) by omega]
    refine ev_iastore (np := 50) dX10_isLate_49 rfl (by omega) (by omega) rfl ?_
    rw [show (0 : Int).toNat = 0 from rfl]
    refine ev_aload_n (np := 51) dX10_isLate_50 rfl rfl ?_
    refine ev_getR (np := 54) sX10_isLate_51 rfl rfl rfl ?_
    refine ev_aload_n (np := 55) dX10_isLate_54 rfl rfl ?_
    refine ev_getR (np := 58) sX10_isLate_55 rfl rfl rfl ?_
    refine ev_iconst (np := 59) dX10_isLate_58 rfl ?_
    refine ev_iaload (np := 60) dX10_isLate_59 rfl (by omega) (by omega) rfl ?_
    rw [show (0 : Int).toNat = 0 from rfl, updM_same]
    refine ev_iconst (np := 61) dX10_isLate_60 rfl ?_
    refine ev_iastore (np := 62) dX10_isLate_61 rfl (by omega) (by omega) rfl ?_
    rw [Int.toNat_natCast]
    refine ev_iconst (np := 63) dX10_isLate_62 rfl ?_
    refine ev_istore (np := 65) dX10_isLate_63 (by decide) rfl ?_
    have em : mcd ((16 + fstS Z) * 16 + fstS O) = 16 * fstS Z + fstS O := by
      unfold mcd
      rw [show ((16 + fstS Z) * 16 + fstS O) / 256 = 1 by omega, show phW 1 = 0 from rfl, show pbW 1 = 0 from rfl]
      omega
    refine mlate_out hZ hO r0 r1 hb 8193 0 (lInit (tabOf Z) (tabOf O)) _ _ _ _ _ _ _ _ _ (LI.init hb hTZ hTO) rfl ⟨fun c d1 d2 => ?_, fun j hj => ?_⟩ (hf.tr ((Fy.upd rfl).tr (Fy.upd rfl)))
    · show _ = if fup (fun _ => false) ((16 + fstS Z) * 16 + fstS O) true c = true then 1 else 0
      have := h0 (mcd c) (by have := mcd_lt d1 d2; omega)
      by_cases e : c = (16 + fstS Z) * 16 + fstS O
      · subst e
        rw [fup_s, em]
        simp [updM]
      · have ne : ¬ mcd c = 16 * fstS Z + fstS O := fun k => e (mcd_inj d1 d2 (by omega) (by omega) (by rw [em]; exact k))
        rw [fup_n _ _ e]
        simp [updM, ne, this]
    · have hj : j < 0 + 1 := hj
      have e : j = 0 := by omega
      subst e
      show _ = ((mcd ((16 + fstS Z) * 16 + fstS O) : Nat) : Int)
      rw [em]
      simp [updM]
  | succ m ih =>
    intro i N hi hf h0
    refine ev_iload_n (np := 3) dX10_isLate_2 rfl rfl ?_
    refine ev_sipush (np := 6) dX10_isLate_3 (by decide) rfl ?_
    refine ev_icmp_ge (tgt := 22) (np := 9) dX10_isLate_6 (by decide) rfl (by omega) (by omega) (fun h => absurd h (by omega)) (fun _ => ?_)
    refine ev_aload_n (np := 10) dX10_isLate_9 rfl rfl ?_
    refine ev_getR (np := 13) sX10_isLate_10 rfl rfl rfl ?_
    refine ev_iload_n (np := 14) dX10_isLate_13 rfl rfl ?_
    refine ev_iconst (np := 15) dX10_isLate_14 rfl ?_
    refine ev_iastore (np := 16) dX10_isLate_15 rfl (by omega) (by omega) rfl ?_
    rw [Int.toNat_natCast]
    refine ev_iinc (np := 19) dX10_isLate_16 rfl (by decide) rfl ?_
    refine ev_goto (np := 2) dX10_isLate_19 (by decide) ?_
    refine ih (i + 1) _ (by omega) (hf.tr (Fy.upd rfl)) (fun c hc => ?_)
    by_cases e : c = i
    · rw [e, updM_same]
    · have := h0 c (by omega)
      simp [updM, e, this]
theorem sem_misLate {M : Mem} {Z O : Circ} (hZ : WF Z) (hO : WF O) (r0 : RefS M 0 Z) (r1 : RefS M 1 O) {b : Nat} (hb : b ≤ 4) : Sem SM miX10_isLate [.inr (cX 0), .inl (b : Int)] M (fun v N => v = some (.inl (if isLateB b (tabOf Z) (tabOf O) = true then 1 else 0)) ∧ Fy (uM [6, 12, 13] []) M N) := by
  refine Sem.of (by decide) SM_ok (Nat.le_of_ble_eq_true rfl) (ls0 := [some (.inr (cX 0)), some (.inl (b : Int)), none, none, none, none, none, none, none, none, none, none, none]) rfl ?_
  refine ev_iconst (np := 1) dX10_isLate_0 rfl ?_
  refine ev_istore_n (np := 2) dX10_isLate_1 (by decide) rfl ?_
  exact mlate_clr hZ hO r0 r1 hb 20480 0 M rfl Fy.rf (fun c hc => absurd hc (Nat.not_lt_zero c))
def ltS (σ : Sg) (b : Nat) : Bool := isLateB b (tz σ) (t1 σ)
theorem mlt_loop {σ : Sg} (hW : SgW σ) : ∀ (m b : Nat) (N : Mem), b + m = 5 → InvM N σ → (∀ a, a < b → ltS σ a = false) → Ev SM miX10_late 2 [some (.inr (cX 0)), some (.inl (b : Int))] [] N (fun v N => v = some (.inl (spLate σ)) ∧ InvM N σ) := by
  intro m
  induction m with
  | zero =>
    intro b N hb hI h0
    refine ev_iload_n (np := 3) dX10_late_2 rfl rfl ?_
    refine ev_iconst (np := 4) dX10_late_3 rfl ?_
    refine ev_icmp_ge (tgt := 23) (np := 7) dX10_late_4 (by decide) rfl (by omega) (by omega) (fun _ => ?_) (fun h => absurd (by omega) h)
    refine ev_ldc (np := 25) sX10_late_23 rfl ?_
    refine ev_iret dX10_late_25 rfl ?_
    refine ⟨?_, hI⟩
    have e : ∀ a, a < 5 → isLateB a (tz σ) (t1 σ) = false := fun a ha => h0 a (by omega)
    rw [spLate, e 0 (by decide), e 1 (by decide), e 2 (by decide), e 3 (by decide), e 4 (by decide)]
    rfl
  | succ m ih =>
    intro b N hb hI h0
    refine ev_iload_n (np := 3) dX10_late_2 rfl rfl ?_
    refine ev_iconst (np := 4) dX10_late_3 rfl ?_
    refine ev_icmp_ge (tgt := 23) (np := 7) dX10_late_4 (by decide) rfl (by omega) (by omega) (fun h => absurd h (by omega)) (fun _ => ?_)
    refine ev_aload_n (np := 8) dX10_late_7 rfl rfl ?_
    refine ev_iload_n (np := 9) dX10_late_8 rfl rfl ?_
    refine ev_V1 (np := 12) moX10_isLate sX10_late_9 (sem_misLate hW.1 hW.2.1 hI.1 hI.2.1 (b := b) (by omega) ) rfl rfl (Nat.le_of_ble_eq_true rfl) rfl (fun v N2 hq => ?_)
    obtain ⟨rfl, hf⟩ := hq
    have hI2 := hI.scr (hf.le (by decide))
    by_cases e : isLateB b (tabOf σ.1) (tabOf σ.2.1) = true
    · rw [if_pos e]
      refine ev_if_eq (tgt := 17) (np := 15) dX10_late_12 (by decide) rfl (by omega) (fun h => absurd h (by omega)) (fun _ => ?_)
      refine ev_iload_n (np := 16) dX10_late_15 rfl rfl ?_
      refine ev_iret dX10_late_16 rfl ?_
      refine ⟨?_, hI2⟩
      have e' : isLateB b (tz σ) (t1 σ) = true := e
      rcases (show b = 0 ∨ b = 1 ∨ b = 2 ∨ b = 3 ∨ b = 4 by omega) with rfl | rfl | rfl | rfl | rfl
      · rw [spLate, if_pos e']; rfl
      · have h1 : isLateB 0 (tz σ) (t1 σ) = false := h0 0 (by decide)
        rw [spLate, h1, if_neg (by decide), if_pos e']; rfl
      · have h1 : isLateB 0 (tz σ) (t1 σ) = false := h0 0 (by decide)
        have h2 : isLateB 1 (tz σ) (t1 σ) = false := h0 1 (by decide)
        rw [spLate, h1, if_neg (by decide), h2, if_neg (by decide), if_pos e']; rfl
      · have h1 : isLateB 0 (tz σ) (t1 σ) = false := h0 0 (by decide)
        have h2 : isLateB 1 (tz σ) (t1 σ) = false := h0 1 (by decide)
        have h3 : isLateB 2 (tz σ) (t1 σ) = false := h0 2 (by decide)
        rw [spLate, h1, if_neg (by decide), h2, if_neg (by decide), h3, if_neg (by decide), if_pos e']; rfl
      · have h1 : isLateB 0 (tz σ) (t1 σ) = false := h0 0 (by decide)
        have h2 : isLateB 1 (tz σ) (t1 σ) = false := h0 1 (by decide)
        have h3 : isLateB 2 (tz σ) (t1 σ) = false := h0 2 (by decide)
        have h4 : isLateB 3 (tz σ) (t1 σ) = false := h0 3 (by decide)
        rw [spLate, h1, if_neg (by decide), h2, if_neg (by decide), h3, if_neg (by decide), h4, if_neg (by decide), if_pos e']; rfl
    · rw [if_neg e]
      refine ev_if_eq (tgt := 17) (np := 15) dX10_late_12 (by decide) rfl (by omega) (fun _ => ?_) (fun h => absurd (by omega) h)
      refine ev_iinc (np := 20) dX10_late_17 rfl (by decide) rfl ?_
      refine ev_goto (np := 2) dX10_late_20 (by decide) ?_
      refine ih (b + 1) N2 (by omega) hI2 (fun a ha => ?_)
      by_cases c : a = b
      · subst c
        show isLateB a (tabOf σ.1) (tabOf σ.2.1) = false
        cases k : isLateB a (tabOf σ.1) (tabOf σ.2.1) with
        | false => rfl
        | true => exact absurd k e
      · exact h0 a (by omega)
theorem sem_mlate {M : Mem} {σ : Sg} (hW : SgW σ) (h : InvM M σ) : Sem SM miX10_late [.inr (cX 0)] M (fun v N => v = some (.inl (spLate σ)) ∧ InvM N σ) := by
  refine Sem.of (by decide) SM_ok (Nat.le_of_ble_eq_true rfl) (ls0 := [some (.inr (cX 0)), none]) rfl ?_
  refine ev_iconst (np := 1) dX10_late_0 rfl ?_
  refine ev_istore_n (np := 2) dX10_late_1 (by decide) rfl ?_
  exact mlt_loop hW 5 0 M rfl h (fun a ha => absurd ha (Nat.not_lt_zero a))
