/-! PAIRS THAT ARE COME TO, in the reference -/
theorem updM_f {M : Mem} {b k j : Nat} {v : Int} (h : (0 == b) = false) : updM M (cX b) k v (cX 0) j = M (cX 0) j := by
  unfold updM
  rw [if_neg]
  rintro ⟨e, -⟩
  cases e
  simp at h
theorem updM_a {M : Mem} {a b k j : Nat} {v : Int} (h : (a == b) = false) : updM M (cX b) k v (cX a) j = M (cX a) j := by
  unfold updM
  rw [if_neg]
  rintro ⟨e, -⟩
  cases e
  simp at h
def PwM (N : Mem) (s : Bst) : Prop := N (cX 0) 16 = (bn s : Int) ∧ ∀ j, j < bn s → N (cX 7) j = ((16 * bz s j + bo s j : Nat) : Int) ∧ N (cX 10) j = (btk s j : Int) ∧ (0 < j → N (cX 8) j = (bah s j : Int) ∧ N (cX 9) j = (bli s j : Int))
def MtM (N : Mem) (s : Bst) : Prop := ∀ c, c < 256 → N (cX 11) c = if bmet s c = true then 1 else 0
/-- where the outputs first differ, so far: pairs below k, inputs below i at k -/
def ApI (T0 T1 : Tab) (s : Bst) (k i : Nat) (a b : Int) : Prop := (a = -1 ∧ (∀ p, p < k → bdif T0 T1 s p = 0) ∧ ∀ j, j < i → bt (bdif T0 T1 s k) j = 0) ∨ ∃ p j : Nat, a = (p : Int) ∧ b = (j : Int) ∧ p < bn s ∧ j < 4 ∧ bt (bdif T0 T1 s p) j = 1 ∧ (∀ q, q < p → bdif T0 T1 s q = 0) ∧ ∀ q, q < j → bt (bdif T0 T1 s p) q = 0
abbrev mPush (N : Mem) (n c k i t : Nat) : Mem := updM (updM (updM (updM (updM (updM N (cX 11) c 1) (cX 7) n (c : Int)) (cX 8) n (k : Int)) (cX 9) n (i : Int)) (cX 10) n ((t : Int) + 1)) (cX 0) 16 ((n : Int) + 1)
theorem mPush_ok {N : Mem} {s : Bst} (h : PwM N s) (hm : MtM N s) (z o k i : Nat) : PwM (mPush N (bn s) (16 * z + o) k i (btk s k)) (bPush s z o (btk s k + 1) k i) ∧ MtM (mPush N (bn s) (16 * z + o) k i (btk s k)) (bPush s z o (btk s k + 1) k i) ∧ Fy (uM [7, 8, 9, 10, 11] [16]) N (mPush N (bn s) (16 * z + o) k i (btk s k)) := by
  refine ⟨⟨?_, fun j hj => ?_⟩, fun c hc => ?_, ?_⟩
  · rw [mPush, updM_same]
    show _ = ((bn s + 1 : Nat) : Int)
    omega
  · have hj : j < bn s + 1 := hj
    show updM _ _ _ _ (cX 7) j = ((16 * fup (bz s) (bn s) z j + fup (bo s) (bn s) o j : Nat) : Int) ∧ updM _ _ _ _ (cX 10) j = ((fup (btk s) (bn s) (btk s k + 1) j : Nat) : Int) ∧ (0 < j → updM _ _ _ _ (cX 8) j = ((fup (bah s) (bn s) k j : Nat) : Int) ∧ updM _ _ _ _ (cX 9) j = ((fup (bli s) (bn s) i j : Nat) : Int))
    by_cases e : j = bn s
    · subst e
      simp only [fup_s]
      refine ⟨by simp [updM], by simp [updM], fun _ => ⟨by simp [updM], by simp [updM]⟩⟩
    · obtain ⟨a, b, c⟩ := h.2 j (by omega)
      simp only [fup_n _ _ e]
      refine ⟨by rw [← a]; simp [updM, e], by rw [← b]; simp [updM, e], fun h0 => ⟨by rw [← (c h0).1]; simp [updM, e], by rw [← (c h0).2]; simp [updM, e]⟩⟩
  · show updM _ _ _ _ (cX 11) c = if fup (bmet s) (16 * z + o) true c = true then 1 else 0
    by_cases e : c = 16 * z + o
    · subst e
      rw [fup_s]
      simp [updM]
    · rw [fup_n _ _ e, ← hm c hc]
      simp [updM, e]
  · exact (((((Fy.upd rfl).tr (Fy.upd rfl)).tr (Fy.upd rfl)).tr (Fy.upd rfl)).tr (Fy.upd rfl)).tr (Fy.upd rfl)
theorem meet_at {s : Bst} {z o k i p : Nat} (h : p < bn s) : bz (bMeet s z o k i) p = bz s p ∧ bo (bMeet s z o k i) p = bo s p := by
  unfold bMeet
  split
  · exact ⟨rfl, rfl⟩
  · exact ⟨fup_n _ _ (by omega), fup_n _ _ (by omega)⟩
theorem ApI.meet {T0 T1 : Tab} {s : Bst} {k i : Nat} {a b : Int} (h : ApI T0 T1 s k i a b) (hk : k < bn s) (z o k' i' : Nat) : ApI T0 T1 (bMeet s z o k' i') k i a b := by
  have e : ∀ p, p < bn s → bdif T0 T1 (bMeet s z o k' i') p = bdif T0 T1 s p := fun p hp => by unfold bdif; rw [(meet_at hp).1, (meet_at hp).2]
  rcases h with ⟨h1, h2, h3⟩ | ⟨p, j, h1, h2, h3, h4, h5, h6, h7⟩
  · exact Or.inl ⟨h1, fun p hp => by rw [e p (by omega)]; exact h2 p hp, fun j hj => by rw [e k hk]; exact h3 j hj⟩
  · exact Or.inr ⟨p, j, h1, h2, Nat.lt_of_lt_of_le h3 (meet_n _ _ _ _ _), h4, by rw [e p h3]; exact h5, fun q hq => by rw [e q (by omega)]; exact h6 q hq, fun q hq => by rw [e p h3]; exact h7 q hq⟩
theorem low0 : ∀ x, x < 16 → (∀ j, j < 4 → bt x j = 0) → x = 0 := by decide +kernel
theorem low4 : ∀ x, x < 16 → ∀ j, j < 4 → bt x j = 1 → (∀ q, q < j → bt x q = 0) → least4 x = j := by decide +kernel
theorem bap_first {T0 T1 : Tab} {s : Bst} {p : Nat} (hp : p < bn s) (hd : bdif T0 T1 s p ≠ 0) (hz : ∀ q, q < p → bdif T0 T1 s q = 0) : ∀ f a, a ≤ p → p < a + f → bap T0 T1 s f a = p
  | 0, a, h1, h2 => by omega
  | f + 1, a, h1, h2 => by
    unfold bap
    rw [if_pos (by omega)]
    by_cases e : a = p
    · subst e; rw [if_neg hd]
    · rw [if_pos (hz a (by omega))]
      exact bap_first hp hd hz f (a + 1) (by omega) (by omega)
theorem bap_none {T0 T1 : Tab} {s : Bst} (hz : ∀ q, q < bn s → bdif T0 T1 s q = 0) : ∀ f a, a ≤ bn s → bn s ≤ a + f → bap T0 T1 s f a = bn s
  | 0, a, h1, h2 => by unfold bap; omega
  | f + 1, a, h1, h2 => by
    unfold bap
    by_cases e : a < bn s
    · rw [if_pos e, if_pos (hz a e)]
      exact bap_none hz f (a + 1) (by omega) (by omega)
    · rw [if_neg e]; omega
/-- what pairsUp has found out of where the outputs first differ -/
def ApE (T0 T1 : Tab) (a b : Int) : Prop := (a = -1 ∧ napS T0 T1 = true) ∨ (napS T0 T1 = false ∧ a = (bapS T0 T1 : Int) ∧ bapS T0 T1 < bn (bfs T0 T1) ∧ b = (least4 (bdif T0 T1 (bfs T0 T1) (bapS T0 T1)) : Int))
theorem ApI.fin {T0 T1 : Tab} (h0 : TWF T0) (h1 : TWF T1) {a b : Int} (h : ApI T0 T1 (bfs T0 T1) (bn (bfs T0 T1)) 0 a b) : ApE T0 T1 a b := by
  have hB := BI.bfs h0 h1
  have hn := hB.le
  rcases h with ⟨h1, h2, h3⟩ | ⟨p, j, e1, e2, h3, h4, h5, h6, h7⟩
  · left
    refine ⟨h1, ?_⟩
    have : bapS T0 T1 = bn (bfs T0 T1) := bap_none h2 256 0 (Nat.zero_le _) (by omega)
    unfold napS
    rw [this]
    simp
  · right
    have hd : bdif T0 T1 (bfs T0 T1) p ≠ 0 := fun e => by rw [e, bt_0] at h5; cases h5
    have e : bapS T0 T1 = p := bap_first h3 hd h6 256 0 (Nat.zero_le _) (by omega)
    refine ⟨?_, by rw [e]; exact e1, by rw [e]; exact h3, ?_⟩
    · unfold napS
      rw [e]
      simp [h3]
    · rw [e, low4 _ (bdif_lt h0 h1 _ _) j h4 h5 h7]
      exact e2
theorem mpu_in {M : Mem} {Z O : Circ} (hZ : WF Z) (hO : WF O) (r0 : RefS M 0 Z) (r1 : RefS M 1 O) {s : Bst} (hB : BI s) {k : Nat} (hk : k < bn s) {Q : Option Val → Mem → Prop}
    (K : ∀ (N : Mem) (u v : Option Val), PwM N (bIn (tabOf Z) (tabOf O) k 4 s) → MtM N (bIn (tabOf Z) (tabOf O) k 4 s) → ApI (tabOf Z) (tabOf O) (bIn (tabOf Z) (tabOf O) k 4 s) k 4 (N (cX 0) 17) (N (cX 0) 18) → Fy (uM [6, 7, 8, 9, 10, 11] [16, 17, 18]) M N → Ev SM miX10_pairsUp 259 [some (.inr (cX 0)), some (.inl (k : Int)), some (.inl (bz s k : Int)), some (.inl (bo s k : Int)), u, v] [] N Q) :
    ∀ (m i : Nat) (N : Mem) (u : Option Val), i + m = 4 → PwM N (bIn (tabOf Z) (tabOf O) k i s) → MtM N (bIn (tabOf Z) (tabOf O) k i s) → ApI (tabOf Z) (tabOf O) (bIn (tabOf Z) (tabOf O) k i s) k i (N (cX 0) 17) (N (cX 0) 18) → Fy (uM [6, 7, 8, 9, 10, 11] [16, 17, 18]) M N → bz (bIn (tabOf Z) (tabOf O) k i s) k = bz s k ∧ bo (bIn (tabOf Z) (tabOf O) k i s) k = bo s k → Ev SM miX10_pairsUp 111 [some (.inr (cX 0)), some (.inl (k : Int)), some (.inl (bz s k : Int)), some (.inl (bo s k : Int)), some (.inl (i : Int)), u] [] N Q := by
  have hTZ := tabOf_wf hZ
  have hTO := tabOf_wf hO
  obtain ⟨z16, o16, -, -, -⟩ := hB.2 k hk
  intro m
  induction m with
  | zero =>
    intro i N u hi hp hm ha hf hzo
    refine ev_iload (np := 113) dX10_pairsUp_111 rfl rfl ?_
    refine ev_iconst (np := 114) dX10_pairsUp_113 rfl ?_
    refine ev_icmp_ge (tgt := 259) (np := 117) dX10_pairsUp_114 (by decide) rfl (by omega) (by omega) (fun _ => ?_) (fun h => absurd (by omega) h)
    rw [show i = 4 by omega] at *
    exact K N _ _ hp hm ha hf
  | succ m ih =>
    intro i N u hi hp hm ha hf hzo
    have i4 : i < 4 := by omega
    obtain ⟨hB2, hn2⟩ := BI.inn hTZ hTO hB hk i (by omega)
    have ihn := ih (i + 1)
    rw [show bIn (tabOf Z) (tabOf O) k (i + 1) s = bMeet (bIn (tabOf Z) (tabOf O) k i s) (nxtS Z (bz (bIn (tabOf Z) (tabOf O) k i s) k) i) (nxtS O (bo (bIn (tabOf Z) (tabOf O) k i s) k) i) k i from rfl, hzo.1, hzo.2] at ihn
    generalize hs' : bIn (tabOf Z) (tabOf O) k i s = s' at *
    have hk' : k < bn s' := by omega
    have lz := nxt_lt Z (bz s k) i
    have lo := nxt_lt O (bo s k) i
    have l1 := out_lt Z (bz s k) i
    have l2 := out_lt O (bo s k) i
    have hle := hB2.le
    have tkk := (hB2.2 k hk').2.2.1
    have dk : bt (bdif (tabOf Z) (tabOf O) s' k) i = 0 ↔ outS Z (bz s k) i = outS O (bo s k) i := by
      unfold bdif
      rw [hzo.1, hzo.2, xor_bit _ (hTZ.2.1 _) _ (hTO.2.1 _) i i4]
      show bt (st4 (outS Z (bz s k))) i = bt (st4 (outS O (bo s k))) i ↔ _
      rw [bt_st4 (fun r _ => out_lt Z _ r) i4, bt_st4 (fun r _ => out_lt O _ r) i4]
    have dl := bt_lt (bdif (tabOf Z) (tabOf O) s' k) i
    have at154 : ∀ N2 : Mem, PwM N2 s' → MtM N2 s' → ApI (tabOf Z) (tabOf O) s' k (i + 1) (N2 (cX 0) 17) (N2 (cX 0) 18) → Fy (uM [6, 7, 8, 9, 10, 11] [16, 17, 18]) M N2 → Ev SM miX10_pairsUp 154 [some (.inr (cX 0)), some (.inl (k : Int)), some (.inl (bz s k : Int)), some (.inl (bo s k : Int)), some (.inl (i : Int)), u] [] N2 Q := by
      intro N2 hp hm ha hf
      refine ev_bipush (np := 156) dX10_pairsUp_154 (by decide) rfl ?_
      refine ev_aload_n (np := 157) dX10_pairsUp_156 rfl rfl ?_
      refine ev_iconst (np := 158) dX10_pairsUp_157 rfl ?_
      refine ev_iload_n (np := 159) dX10_pairsUp_158 rfl rfl ?_
      refine ev_iload (np := 161) dX10_pairsUp_159 rfl rfl ?_
      refine ev_V3 (np := 164) moX10_then sX10_pairsUp_161 (sem_mthen hZ (b := 0) (by omega) z16 i4 (r0.eq (hf.arr (by decide))) ) rfl rfl (Nat.le_of_ble_eq_true rfl) rfl (fun v3 N3 hq => ?_)
      obtain ⟨rfl, f3⟩ := hq
      have hf3 := hf.tr (f3.le (by decide))
      refine ev_imul (np := 165) dX10_pairsUp_164 rfl ?_
      refine ev_aload_n (np := 166) dX10_pairsUp_165 rfl rfl ?_
      refine ev_iconst (np := 167) dX10_pairsUp_166 rfl ?_
      refine ev_iload_n (np := 168) dX10_pairsUp_167 rfl rfl ?_
      refine ev_iload (np := 170) dX10_pairsUp_168 rfl rfl ?_
      refine ev_V3 (np := 173) moX10_then sX10_pairsUp_170 (sem_mthen hO (b := 1) (by omega) o16 i4 (r1.eq (hf3.arr (by decide))) ) rfl rfl (Nat.le_of_ble_eq_true rfl) rfl (fun v4 N4 hq => ?_)
      obtain ⟨rfl, f4⟩ := hq
      have hf4 := hf3.tr (f4.le (by decide))
      have f34 := f3.tr f4
      have hp4 : PwM N4 s' := by
        unfold PwM
        rw [f34.fld (j := 16) (by decide), f34.arr (n := 7) (by decide), f34.arr (n := 8) (by decide), f34.arr (n := 9) (by decide), f34.arr (n := 10) (by decide)]
        exact hp
      have hm4 : MtM N4 s' := by unfold MtM; rw [f34.arr (n := 11) (by decide)]; exact hm
      have ha4 : ApI (tabOf Z) (tabOf O) s' k (i + 1) (N4 (cX 0) 17) (N4 (cX 0) 18) := by rw [f34.fld (j := 17) (by decide), f34.fld (j := 18) (by decide)]; exact ha
      refine ev_iadd (np := 174) dX10_pairsUp_173 rfl ?_
      refine ev_istore (np := 176) dX10_pairsUp_174 (by decide) rfl ?_
      refine ev_aload_n (np := 177) dX10_pairsUp_176 rfl rfl ?_
      refine ev_getR (np := 180) sX10_pairsUp_177 rfl rfl rfl ?_
      refine ev_iload (np := 182) dX10_pairsUp_180 rfl rfl ?_
      rw [show (16 : Int) * (nxtS Z (bz s k) i : Int) + (nxtS O (bo s k) i : Int) = ((16 * nxtS Z (bz s k) i + nxtS O (bo s k) i : Nat) : Int) by omega]
      have hc : 16 * nxtS Z (bz s k) i + nxtS O (bo s k) i < 256 := by omega
      have zo' := meet_at (z := nxtS Z (bz s k) i) (o := nxtS O (bo s k) i) (k := k) (i := i) hk'
      refine ev_iaload (np := 183) dX10_pairsUp_182 rfl (by omega) (by omega) rfl ?_
      rw [Int.toNat_natCast, hm4 _ hc]
      by_cases e : bmet s' (16 * nxtS Z (bz s k) i + nxtS O (bo s k) i) = true
      · rw [if_pos e]
        have eM : bMeet s' (nxtS Z (bz s k) i) (nxtS O (bo s k) i) k i = s' := by unfold bMeet; rw [if_pos e]
        rw [eM] at ihn
        refine ev_if_ne (tgt := 253) (np := 186) dX10_pairsUp_183 (by decide) rfl (by omega) (fun _ => ?_) (fun h => absurd h (by omega))
        refine ev_iinc (np := 256) dX10_pairsUp_253 rfl (by decide) rfl ?_
        refine ev_goto (np := 111) dX10_pairsUp_256 (by decide) ?_
        exact ihn N4 _ (by omega) hp4 hm4 ha4 hf4 hzo
      · rw [if_neg e]
        have hlt := hB2.lt lz lo e
        have eM : bMeet s' (nxtS Z (bz s k) i) (nxtS O (bo s k) i) k i = bPush s' (nxtS Z (bz s k) i) (nxtS O (bo s k) i) (btk s' k + 1) k i := by unfold bMeet; rw [if_neg e]
        obtain ⟨q1, q2, q3⟩ := mPush_ok hp4 hm4 (nxtS Z (bz s k) i) (nxtS O (bo s k) i) k i
        have ha5 := ha4.meet hk' (nxtS Z (bz s k) i) (nxtS O (bo s k) i) k i
        rw [eM] at ihn ha5 zo'
        generalize 16 * nxtS Z (bz s k) i + nxtS O (bo s k) i = c at *
        have hmy := hp4.1
        have htk := (hp4.2 k hk').2.1
        refine ev_if_ne (tgt := 253) (np := 186) dX10_pairsUp_183 (by decide) rfl (by omega) (fun h => absurd (by omega) h) (fun _ => ?_)
        refine ev_aload_n (np := 187) dX10_pairsUp_186 rfl rfl ?_
        refine ev_getR (np := 190) sX10_pairsUp_187 rfl rfl rfl ?_
        refine ev_iload (np := 192) dX10_pairsUp_190 rfl rfl ?_
        refine ev_iconst (np := 193) dX10_pairsUp_192 rfl ?_
        refine ev_iastore (np := 194) dX10_pairsUp_193 rfl (by omega) (by omega) rfl ?_
        rw [Int.toNat_natCast]
        refine ev_aload_n (np := 195) dX10_pairsUp_194 rfl rfl ?_
        refine ev_getR (np := 198) sX10_pairsUp_195 rfl rfl rfl ?_
        refine ev_aload_n (np := 199) dX10_pairsUp_198 rfl rfl ?_
        refine ev_getI (np := 202) sX10_pairsUp_199 rfl rfl rfl ?_
        refine ev_iload (np := 204) dX10_pairsUp_202 rfl rfl ?_
        rw [updM_f (b := 11) rfl, hmy]
        refine ev_iastore (np := 205) dX10_pairsUp_204 rfl (by omega) (by omega) rfl ?_
        rw [Int.toNat_natCast]
        refine ev_aload_n (np := 206) dX10_pairsUp_205 rfl rfl ?_
        refine ev_getR (np := 209) sX10_pairsUp_206 rfl rfl rfl ?_
        refine ev_aload_n (np := 210) dX10_pairsUp_209 rfl rfl ?_
        refine ev_getI (np := 213) sX10_pairsUp_210 rfl rfl rfl ?_
        refine ev_iload_n (np := 214) dX10_pairsUp_213 rfl rfl ?_
        rw [updM_f (b := 7) rfl, updM_f (b := 11) rfl, hmy]
        refine ev_iastore (np := 215) dX10_pairsUp_214 rfl (by omega) (by omega) rfl ?_
        rw [Int.toNat_natCast]
        refine ev_aload_n (np := 216) dX10_pairsUp_215 rfl rfl ?_
        refine ev_getR (np := 219) sX10_pairsUp_216 rfl rfl rfl ?_
        refine ev_aload_n (np := 220) dX10_pairsUp_219 rfl rfl ?_
        refine ev_getI (np := 223) sX10_pairsUp_220 rfl rfl rfl ?_
        refine ev_iload (np := 225) dX10_pairsUp_223 rfl rfl ?_
        rw [updM_f (b := 8) rfl, updM_f (b := 7) rfl, updM_f (b := 11) rfl, hmy]
        refine ev_iastore (np := 226) dX10_pairsUp_225 rfl (by omega) (by omega) rfl ?_
        rw [Int.toNat_natCast]
        refine ev_aload_n (np := 227) dX10_pairsUp_226 rfl rfl ?_
        refine ev_getR (np := 230) sX10_pairsUp_227 rfl rfl rfl ?_
        refine ev_aload_n (np := 231) dX10_pairsUp_230 rfl rfl ?_
        refine ev_getI (np := 234) sX10_pairsUp_231 rfl rfl rfl ?_
        refine ev_aload_n (np := 235) dX10_pairsUp_234 rfl rfl ?_
        refine ev_getR (np := 238) sX10_pairsUp_235 rfl rfl rfl ?_
        refine ev_iload_n (np := 239) dX10_pairsUp_238 rfl rfl ?_
        rw [updM_f (b := 9) rfl, updM_f (b := 8) rfl, updM_f (b := 7) rfl, updM_f (b := 11) rfl, hmy]
        refine ev_iaload (np := 240) dX10_pairsUp_239 rfl (by omega) (by omega) rfl ?_
        rw [Int.toNat_natCast, updM_a (a := 10) (b := 9) rfl, updM_a (a := 10) (b := 8) rfl, updM_a (a := 10) (b := 7) rfl, updM_a (a := 10) (b := 11) rfl, htk]
        refine ev_iconst (np := 241) dX10_pairsUp_240 rfl ?_
        refine ev_iadd (np := 242) dX10_pairsUp_241 rfl ?_
        refine ev_iastore (np := 243) dX10_pairsUp_242 rfl (by omega) (by omega) rfl ?_
        rw [Int.toNat_natCast]
        refine ev_aload_n (np := 244) dX10_pairsUp_243 rfl rfl ?_
        refine ev_dup (np := 245) dX10_pairsUp_244 rfl ?_
        refine ev_getI (np := 248) sX10_pairsUp_245 rfl rfl rfl ?_
        rw [updM_f (b := 10) rfl, updM_f (b := 9) rfl, updM_f (b := 8) rfl, updM_f (b := 7) rfl, updM_f (b := 11) rfl, hmy]
        refine ev_iconst (np := 249) dX10_pairsUp_248 rfl ?_
        refine ev_iadd (np := 250) dX10_pairsUp_249 rfl ?_
        refine ev_put (np := 253) sX10_pairsUp_250 rfl rfl rfl ?_
        refine ev_iinc (np := 256) dX10_pairsUp_253 rfl (by decide) rfl ?_
        refine ev_goto (np := 111) dX10_pairsUp_256 (by decide) ?_
        refine ihn _ _ (by omega) q1 q2 ?_ (hf4.tr (q3.le (by decide))) ⟨zo'.1.trans hzo.1, zo'.2.trans hzo.2⟩
        rw [← q3.fld (j := 17) (by decide), ← q3.fld (j := 18) (by decide)] at ha5
        exact ha5
    refine ev_iload (np := 113) dX10_pairsUp_111 rfl rfl ?_
    refine ev_iconst (np := 114) dX10_pairsUp_113 rfl ?_
    refine ev_icmp_ge (tgt := 259) (np := 117) dX10_pairsUp_114 (by decide) rfl (by omega) (by omega) (fun h => absurd h (by omega)) (fun _ => ?_)
    refine ev_aload_n (np := 118) dX10_pairsUp_117 rfl rfl ?_
    refine ev_getI (np := 121) sX10_pairsUp_118 rfl rfl rfl ?_
    rcases ha with ⟨a1, a2, a3⟩ | ⟨p, j, a1, a2, a3, a4, a5, a6, a7⟩
    · rw [a1]
      refine ev_if_ge (tgt := 154) (np := 124) dX10_pairsUp_121 (by decide) rfl (by omega) (fun h => absurd h (by omega)) (fun _ => ?_)
      refine ev_aload_n (np := 125) dX10_pairsUp_124 rfl rfl ?_
      refine ev_iconst (np := 126) dX10_pairsUp_125 rfl ?_
      refine ev_iload_n (np := 127) dX10_pairsUp_126 rfl rfl ?_
      refine ev_iload (np := 129) dX10_pairsUp_127 rfl rfl ?_
      refine ev_V3 (np := 132) moX10_out sX10_pairsUp_129 (sem_mout hZ (b := 0) (by omega) z16 i4 (r0.eq (hf.arr (by decide))) ) rfl rfl (Nat.le_of_ble_eq_true rfl) rfl (fun v3 N3 hq => ?_)
      obtain ⟨rfl, f3⟩ := hq
      have hf3 := hf.tr (f3.le (by decide))
      refine ev_aload_n (np := 133) dX10_pairsUp_132 rfl rfl ?_
      refine ev_iconst (np := 134) dX10_pairsUp_133 rfl ?_
      refine ev_iload_n (np := 135) dX10_pairsUp_134 rfl rfl ?_
      refine ev_iload (np := 137) dX10_pairsUp_135 rfl rfl ?_
      refine ev_V3 (np := 140) moX10_out sX10_pairsUp_137 (sem_mout hO (b := 1) (by omega) o16 i4 (r1.eq (hf3.arr (by decide))) ) rfl rfl (Nat.le_of_ble_eq_true rfl) rfl (fun v4 N4 hq => ?_)
      obtain ⟨rfl, f4⟩ := hq
      have hf4 := hf3.tr (f4.le (by decide))
      have f34 := f3.tr f4
      have hp4 : PwM N4 s' := by
        unfold PwM
        rw [f34.fld (j := 16) (by decide), f34.arr (n := 7) (by decide), f34.arr (n := 8) (by decide), f34.arr (n := 9) (by decide), f34.arr (n := 10) (by decide)]
        exact hp
      have hm4 : MtM N4 s' := by unfold MtM; rw [f34.arr (n := 11) (by decide)]; exact hm
      refine ev_icmp_eq (tgt := 154) (np := 143) dX10_pairsUp_140 (by decide) rfl (by omega) (by omega) (fun h1 => ?_) (fun h1 => ?_)
      · refine at154 N4 hp4 hm4 (Or.inl ⟨by rw [f34.fld (j := 17) (by decide)]; exact a1, a2, fun j hj => ?_⟩) hf4
        by_cases e : j = i
        · rw [e]; exact dk.mpr (by omega)
        · exact a3 j (by omega)
      · refine ev_aload_n (np := 144) dX10_pairsUp_143 rfl rfl ?_
        refine ev_iload_n (np := 145) dX10_pairsUp_144 rfl rfl ?_
        refine ev_put (np := 148) sX10_pairsUp_145 rfl rfl rfl ?_
        refine ev_aload_n (np := 149) dX10_pairsUp_148 rfl rfl ?_
        refine ev_iload (np := 151) dX10_pairsUp_149 rfl rfl ?_
        refine ev_put (np := 154) sX10_pairsUp_151 rfl rfl rfl ?_
        refine at154 _ ?_ ?_ ?_ (hf4.tr ((Fy.upd rfl).tr (Fy.upd rfl)))
        · have f5 : Fy (uM [] [17, 18]) N4 (updM (updM N4 (cX 0) 17 (k : Int)) (cX 0) 18 (i : Int)) := (Fy.upd rfl).tr (Fy.upd rfl)
          unfold PwM
          rw [f5.fld (j := 16) (by decide), f5.arr (n := 7) (by decide), f5.arr (n := 8) (by decide), f5.arr (n := 9) (by decide), f5.arr (n := 10) (by decide)]
          exact hp4
        · have f5 : Fy (uM [] [17, 18]) N4 (updM (updM N4 (cX 0) 17 (k : Int)) (cX 0) 18 (i : Int)) := (Fy.upd rfl).tr (Fy.upd rfl)
          unfold MtM
          rw [f5.arr (n := 11) (by decide)]
          exact hm4
        · refine Or.inr ⟨k, i, by simp [updM], by simp [updM], hk', i4, ?_, a2, a3⟩
          have : ¬ bt (bdif (tabOf Z) (tabOf O) s' k) i = 0 := fun e => h1 (by have := dk.mp e; omega)
          omega
    · rw [a1]
      refine ev_if_ge (tgt := 154) (np := 124) dX10_pairsUp_121 (by decide) rfl (by omega) (fun _ => ?_) (fun h => absurd (by omega) h)
      exact at154 N hp hm (Or.inr ⟨p, j, a1, a2, a3, a4, a5, a6, a7⟩) hf
theorem mpu_out {M : Mem} {Z O : Circ} (hZ : WF Z) (hO : WF O) (r0 : RefS M 0 Z) (r1 : RefS M 1 O) : ∀ (f k : Nat) (s : Bst) (N : Mem) (u v w x : Option Val), BI s → k + f = 257 → k ≤ bn s → PwM N s → MtM N s → ApI (tabOf Z) (tabOf O) s k 0 (N (cX 0) 17) (N (cX 0) 18) → Fy (uM [6, 7, 8, 9, 10, 11] [16, 17, 18]) M N → Ev SM miX10_pairsUp 80 [some (.inr (cX 0)), some (.inl (k : Int)), u, v, w, x] [] N (fun v N => v = none ∧ PwM N (bOut (tabOf Z) (tabOf O) f k s) ∧ ApI (tabOf Z) (tabOf O) (bOut (tabOf Z) (tabOf O) f k s) (bn (bOut (tabOf Z) (tabOf O) f k s)) 0 (N (cX 0) 17) (N (cX 0) 18) ∧ Fy (uM [6, 7, 8, 9, 10, 11] [16, 17, 18]) M N) := by
  have hTZ := tabOf_wf hZ
  have hTO := tabOf_wf hO
  have stop : ∀ (k : Nat) (s : Bst) (N : Mem) (u v w x : Option Val) (r : Bst), BI s → k ≤ bn s → ¬ k < bn s → r = s → PwM N s → ApI (tabOf Z) (tabOf O) s k 0 (N (cX 0) 17) (N (cX 0) 18) → Fy (uM [6, 7, 8, 9, 10, 11] [16, 17, 18]) M N → Ev SM miX10_pairsUp 80 [some (.inr (cX 0)), some (.inl (k : Int)), u, v, w, x] [] N (fun v N => v = none ∧ PwM N r ∧ ApI (tabOf Z) (tabOf O) r (bn r) 0 (N (cX 0) 17) (N (cX 0) 18) ∧ Fy (uM [6, 7, 8, 9, 10, 11] [16, 17, 18]) M N) := by
    intro k s N u v w x r hB h1 h2 e hp ha hf
    subst e
    have hle := hB.le
    have hmy := hp.1
    refine ev_iload_n (np := 81) dX10_pairsUp_80 rfl rfl ?_
    refine ev_aload_n (np := 82) dX10_pairsUp_81 rfl rfl ?_
    refine ev_getI (np := 85) sX10_pairsUp_82 rfl rfl rfl ?_
    rw [hmy]
    refine ev_icmp_ge (tgt := 265) (np := 88) dX10_pairsUp_85 (by decide) rfl (by omega) (by omega) (fun _ => ?_) (fun h => absurd (by omega) h)
    refine ev_vret dX10_pairsUp_265 rfl ?_
    rw [show k = bn r by omega] at ha
    exact ⟨rfl, hp, ha, hf⟩
  intro f
  induction f with
  | zero =>
    intro k s N u v w x hB hk h1 hp hm ha hf
    have hle := hB.le
    exact stop k s N u v w x _ hB h1 (by omega) rfl hp ha hf
  | succ f ih =>
    intro k s N u v w x hB hk h1 hp hm ha hf
    have hle := hB.le
    by_cases g : k < bn s
    · have hmy := hp.1
      obtain ⟨c1, c2, -, -, -⟩ := hB.2 k g
      have hpk := (hp.2 k g).1
      have ih2 := ih (k + 1) (bIn (tabOf Z) (tabOf O) k 4 s)
      obtain ⟨hB2, hn2⟩ := BI.inn hTZ hTO hB g 4 (Nat.le_refl 4)
      rw [show bOut (tabOf Z) (tabOf O) (f + 1) k s = bOut (tabOf Z) (tabOf O) f (k + 1) (bIn (tabOf Z) (tabOf O) k 4 s) by show (if k < bn s then _ else s) = _; rw [if_pos g]]
      refine ev_iload_n (np := 81) dX10_pairsUp_80 rfl rfl ?_
      refine ev_aload_n (np := 82) dX10_pairsUp_81 rfl rfl ?_
      refine ev_getI (np := 85) sX10_pairsUp_82 rfl rfl rfl ?_
      rw [hmy]
      refine ev_icmp_ge (tgt := 265) (np := 88) dX10_pairsUp_85 (by decide) rfl (by omega) (by omega) (fun h => absurd h (by omega)) (fun _ => ?_)
      refine ev_aload_n (np := 89) dX10_pairsUp_88 rfl rfl ?_
      refine ev_getR (np := 92) sX10_pairsUp_89 rfl rfl rfl ?_
      refine ev_iload_n (np := 93) dX10_pairsUp_92 rfl rfl ?_
      refine ev_iaload (np := 94) dX10_pairsUp_93 rfl (by omega) (by omega) rfl ?_
      rw [Int.toNat_natCast, hpk]
      refine ev_bipush (np := 96) dX10_pairsUp_94 (by decide) rfl ?_
      refine ev_idiv (np := 97) dX10_pairsUp_96 (by omega) (by omega) rfl ?_
      rw [show (((16 * bz s k + bo s k : Nat) : Int) / 16) = (bz s k : Int) by omega]
      refine ev_istore_n (np := 98) dX10_pairsUp_97 (by decide) rfl ?_
      refine ev_aload_n (np := 99) dX10_pairsUp_98 rfl rfl ?_
      refine ev_getR (np := 102) sX10_pairsUp_99 rfl rfl rfl ?_
      refine ev_iload_n (np := 103) dX10_pairsUp_102 rfl rfl ?_
      refine ev_iaload (np := 104) dX10_pairsUp_103 rfl (by omega) (by omega) rfl ?_
      rw [Int.toNat_natCast, hpk]
      refine ev_bipush (np := 106) dX10_pairsUp_104 (by decide) rfl ?_
      refine ev_irem (np := 107) dX10_pairsUp_106 (by omega) (by omega) rfl ?_
      rw [show (((16 * bz s k + bo s k : Nat) : Int) % 16) = (bo s k : Int) by omega]
      refine ev_istore_n (np := 108) dX10_pairsUp_107 (by decide) rfl ?_
      refine ev_iconst (np := 109) dX10_pairsUp_108 rfl ?_
      refine ev_istore (np := 111) dX10_pairsUp_109 (by decide) rfl ?_
      refine mpu_in hZ hO r0 r1 hB g ?_ 4 0 N _ rfl hp hm ha hf ⟨rfl, rfl⟩
      intro N2 u2 v2 hp2 hm2 ha2 hf2
      refine ev_iinc (np := 262) dX10_pairsUp_259 rfl (by decide) rfl ?_
      refine ev_goto (np := 80) dX10_pairsUp_262 (by decide) ?_
      refine ih2 N2 _ _ _ _ hB2 (by omega) (by omega) hp2 hm2 ?_ hf2
      rcases ha2 with ⟨a1, a2, a3⟩ | a
      · refine Or.inl ⟨a1, fun p hp => ?_, fun j hj => absurd hj (Nat.not_lt_zero j)⟩
        by_cases e : p = k
        · rw [e]; exact low0 _ (bdif_lt hTZ hTO _ _) a3
        · exact a2 p (by omega)
      · exact Or.inr a
    · exact stop k s N u v w x _ hB h1 g (by show (if k < bn s then _ else s) = s; rw [if_neg g]) hp ha hf
theorem mpu_clr {M : Mem} {Z O : Circ} (hZ : WF Z) (hO : WF O) (r0 : RefS M 0 Z) (r1 : RefS M 1 O) {u v w x : Option Val} : ∀ (m i : Nat) (N : Mem), i + m = 256 → Fy (uM [6, 7, 8, 9, 10, 11] [16, 17, 18]) M N → (∀ c, c < i → N (cX 11) c = 0) → Ev SM miX10_pairsUp 2 [some (.inr (cX 0)), some (.inl (i : Int)), u, v, w, x] [] N (fun v N => v = none ∧ PwM N (bfs (tabOf Z) (tabOf O)) ∧ ApI (tabOf Z) (tabOf O) (bfs (tabOf Z) (tabOf O)) (bn (bfs (tabOf Z) (tabOf O))) 0 (N (cX 0) 17) (N (cX 0) 18) ∧ Fy (uM [6, 7, 8, 9, 10, 11] [16, 17, 18]) M N) := by
  have hTZ := tabOf_wf hZ
  have hTO := tabOf_wf hO
  have lz := fst_lt hZ
  have lo := fst_lt hO
  intro m
  induction m with
  | zero =>
    intro i N hi hf h0
    have hN0 := r0.eq (hf.arr (n := 1) (by decide))
    have hN1 := r1.eq (hf.arr (n := 1) (by decide))
    refine ev_iload_n (np := 3) dX10_pairsUp_2 rfl rfl ?_
    refine ev_sipush (np := 6) dX10_pairsUp_3 (by decide) rfl ?_
    refine ev_icmp_ge (tgt := 22) (np := 9) dX10_pairsUp_6 (by decide) rfl (by omega) (by omega) (fun _ => ?_) (fun h => absurd (by omega) h)
    refine ev_aload_n (np := 23) dX10_pairsUp_22 rfl rfl ?_
    refine ev_getR (np := 26) sX10_pairsUp_23 rfl rfl rfl ?_
    refine ev_iconst (np := 27) dX10_pairsUp_26 rfl ?_
    refine ev_bipush (np := 29) dX10_pairsUp_27 (by decide) rfl ?_
    refine ev_aload_n (np := 30) dX10_pairsUp_29 rfl rfl ?_
    refine ev_iconst (np := 31) dX10_pairsUp_30 rfl ?_
    refine ev_Vi1 (np := 34) moX10_first sX10_pairsUp_31 (sem_mfirst hZ (b := 0) (by omega) hN0) rfl rfl (Nat.le_of_ble_eq_true rfl) rfl ?_
    refine ev_imul (np := 35) dX10_pairsUp_34 rfl ?_
    refine ev_aload_n (np := 36) dX10_pairsUp_35 rfl rfl ?_
    refine ev_iconst (np := 37) dX10_pairsUp_36 rfl ?_
    refine ev_Vi1 (np := 40) moX10_first sX10_pairsUp_37 (sem_mfirst hO (b := 1) (by omega) hN1) rfl rfl (Nat.le_of_ble_eq_true rfl) rfl ?_
    refine ev_iadd (np := 41) dX10_pairsUp_40 rfl ?_
    rw [show (16 : Int) * (fstS Z : Int) + (fstS O : Int) = ((16 * fstS Z + fstS O : Nat) : Int) by omega]
    refine ev_iastore (np := 42) dX10_pairsUp_41 rfl (by omega) (by omega) rfl ?_
    rw [show (0 : Int).toNat = 0 from rfl]
    refine ev_aload_n (np := 43) dX10_pairsUp_42 rfl rfl ?_
    refine ev_getR (np := 46) sX10_pairsUp_43 rfl rfl rfl ?_
    refine ev_aload_n (np := 47) dX10_pairsUp_46 rfl rfl ?_
    refine ev_getR (np := 50) sX10_pairsUp_47 rfl rfl rfl ?_
    refine ev_iconst (np := 51) dX10_pairsUp_50 rfl ?_
    refine ev_iaload (np := 52) dX10_pairsUp_51 rfl (by omega) (by omega) rfl ?_
    rw [show (0 : Int).toNat = 0 from rfl, updM_same]
    refine ev_iconst (np := 53) dX10_pairsUp_52 rfl ?_
    refine ev_iastore (np := 54) dX10_pairsUp_53 rfl (by omega) (by omega) rfl ?_
    rw [Int.toNat_natCast]
    refine ev_aload_n (np := 55) dX10_pairsUp_54 rfl rfl ?_
    refine ev_getR (np := 58) sX10_pairsUp_55 rfl rfl rfl ?_
    refine ev_iconst (np := 59) dX10_pairsUp_58 rfl ?_
    refine ev_iconst (np := 60) dX10_pairsUp_59 rfl ?_
    refine ev_iastore (np := 61) dX10_pairsUp_60 rfl (by omega) (by omega) rfl ?_
    refine ev_aload_n (np := 62) dX10_pairsUp_61 rfl rfl ?_
    refine ev_getR (np := 65) sX10_pairsUp_62 rfl rfl rfl ?_
    refine ev_iconst (np := 66) dX10_pairsUp_65 rfl ?_
    refine ev_iconst (np := 67) dX10_pairsUp_66 rfl ?_
    refine ev_iastore (np := 68) dX10_pairsUp_67 rfl (by omega) (by omega) rfl ?_
    rw [show (0 : Int).toNat = 0 from rfl]
    refine ev_aload_n (np := 69) dX10_pairsUp_68 rfl rfl ?_
    refine ev_iconst (np := 70) dX10_pairsUp_69 rfl ?_
    refine ev_put (np := 73) sX10_pairsUp_70 rfl rfl rfl ?_
    refine ev_aload_n (np := 74) dX10_pairsUp_73 rfl rfl ?_
    refine ev_iconst (np := 75) dX10_pairsUp_74 rfl ?_
    refine ev_put (np := 78) sX10_pairsUp_75 rfl rfl rfl ?_
    refine ev_iconst (np := 79) dX10_pairsUp_78 rfl ?_
    refine ev_istore_n (np := 80) dX10_pairsUp_79 (by decide) rfl ?_
    refine mpu_out hZ hO r0 r1 257 0 (bInit (tabOf Z) (tabOf O)) _ _ _ _ _ (BI.init hTZ hTO) rfl (Nat.zero_le _) ⟨by simp [updM]; rfl, fun j hj => ?_⟩ (fun c hc => ?_) (Or.inl ⟨by simp [updM], fun p hp => absurd hp (Nat.not_lt_zero p), fun j hj => absurd hj (Nat.not_lt_zero j)⟩) (hf.tr ((((((Fy.upd rfl).tr (Fy.upd rfl)).tr (Fy.upd rfl)).tr (Fy.upd rfl)).tr (Fy.upd rfl)).tr (Fy.upd rfl)))
    · have hj : j < 0 + 1 := hj
      have e : j = 0 := by omega
      subst e
      refine ⟨?_, ?_, fun h => absurd h (Nat.lt_irrefl 0)⟩
      · simp [updM]; rfl
      · simp [updM]; rfl
    · show _ = if fup (fun _ => false) (16 * fstS Z + fstS O) true c = true then 1 else 0
      have := h0 c (by omega)
      by_cases e : c = 16 * fstS Z + fstS O
      · subst e
        rw [fup_s]
        simp [updM]
      · rw [fup_n _ _ e]
        simp [updM, e, this]
  | succ m ih =>
    intro i N hi hf h0
    refine ev_iload_n (np := 3) dX10_pairsUp_2 rfl rfl ?_
    refine ev_sipush (np := 6) dX10_pairsUp_3 (by decide) rfl ?_
    refine ev_icmp_ge (tgt := 22) (np := 9) dX10_pairsUp_6 (by decide) rfl (by omega) (by omega) (fun h => absurd h (by omega)) (fun _ => ?_)
    refine ev_aload_n (np := 10) dX10_pairsUp_9 rfl rfl ?_
    refine ev_getR (np := 13) sX10_pairsUp_10 rfl rfl rfl ?_
    refine ev_iload_n (np := 14) dX10_pairsUp_13 rfl rfl ?_
    refine ev_iconst (np := 15) dX10_pairsUp_14 rfl ?_
    refine ev_iastore (np := 16) dX10_pairsUp_15 rfl (by omega) (by omega) rfl ?_
    rw [Int.toNat_natCast]
    refine ev_iinc (np := 19) dX10_pairsUp_16 rfl (by decide) rfl ?_
    refine ev_goto (np := 2) dX10_pairsUp_19 (by decide) ?_
    refine ih (i + 1) _ (by omega) (hf.tr (Fy.upd rfl)) (fun c hc => ?_)
    by_cases e : c = i
    · rw [e, updM_same]
    · have := h0 c (by omega)
      simp [updM, e, this]
theorem sem_mpairsUp {M : Mem} {Z O : Circ} (hZ : WF Z) (hO : WF O) (r0 : RefS M 0 Z) (r1 : RefS M 1 O) : Sem SM miX10_pairsUp [.inr (cX 0)] M (fun v N => v = none ∧ PwM N (bfs (tabOf Z) (tabOf O)) ∧ ApE (tabOf Z) (tabOf O) (N (cX 0) 17) (N (cX 0) 18) ∧ Fy (uM [6, 7, 8, 9, 10, 11] [16, 17, 18]) M N) := by
  refine Sem.of (by decide) SM_ok (Nat.le_of_ble_eq_true rfl) (ls0 := [some (.inr (cX 0)), none, none, none, none, none]) rfl ?_
  refine ev_iconst (np := 1) dX10_pairsUp_0 rfl ?_
  refine ev_istore_n (np := 2) dX10_pairsUp_1 (by decide) rfl ?_
  have := mpu_clr hZ hO r0 r1 (u := none) (v := none) (w := none) (x := none) 256 0 M rfl Fy.rf (fun c hc => absurd hc (Nat.not_lt_zero c))
  refine this.imp ?_
  rintro v N ⟨h1, h2, h3, h4⟩
  exact ⟨h1, h2, h3.fin (tabOf_wf hZ) (tabOf_wf hO), h4⟩
