/-! LATE OUTPUTS: the situations that are come to. A situation: the outputs waited for (below a leading 1), both states -/
abbrev Lst : Type := Nat × (Nat → Nat) × (Nat → Bool)
abbrev ln (s : Lst) : Nat := s.1
abbrev lq (s : Lst) : Nat → Nat := s.2.1
abbrev lmet (s : Lst) : Nat → Bool := s.2.2
def lMeet (s : Lst) (c : Nat) : Lst := if lmet s c = true then s else (ln s + 1, fup (lq s) (ln s) c, fup (lmet s) c true)
def lw (T0 : Tab) (c i : Nat) : Nat := c / 256 * 2 + bt (T0.2.1 (c / 16 % 16)) i
def lcode (T0 T1 : Tab) (w c i : Nat) : Nat := (w * 16 + T0.1 (c / 16 % 16) i) * 16 + T1.1 (c % 16) i
def lnx (by0 : Nat) (T0 T1 : Tab) (c i : Nat) : Option Nat :=
  if lw T0 c i < 2 * 2 ^ by0 then some (lcode T0 T1 (lw T0 c i) c i)
  else if bt (lw T0 c i) by0 = bt (T1.2.1 (c % 16)) i then some (lcode T0 T1 (lw T0 c i % 2 ^ by0 + 2 ^ by0) c i) else none
def l0 : Lst := (0, fun _ => 0, fun _ => false)
def lInit (T0 T1 : Tab) : Lst := lMeet l0 ((16 + T0.2.2) * 16 + T1.2.2)
def lIn (by0 : Nat) (T0 T1 : Tab) (k : Nat) : Nat → Lst → Option Lst
  | 0, s => some s
  | i + 1, s => match lIn by0 T0 T1 k i s with
    | none => none
    | some s' => match lnx by0 T0 T1 (lq s' k) i with
      | none => none
      | some c => some (lMeet s' c)
def lOut (by0 : Nat) (T0 T1 : Tab) : Nat → Nat → Lst → Bool
  | 0, _, _ => true
  | f + 1, k, s => if k < ln s then (match lIn by0 T0 T1 k 4 s with
    | none => false
    | some s' => lOut by0 T0 T1 f (k + 1) s') else true
def isLateB (by0 : Nat) (T0 T1 : Tab) : Bool := lOut by0 T0 T1 8193 0 (lInit T0 T1)
def LI (by0 : Nat) (s : Lst) : Prop := cnt (lmet s) 8192 = ln s ∧ (∀ j, j < ln s → 256 ≤ lq s j ∧ lq s j < 2 * 2 ^ by0 * 256) ∧ ∀ c, lmet s c = true → ∃ j, j < ln s ∧ lq s j = c
theorem LI.le {b : Nat} {s : Lst} (h : LI b s) : ln s ≤ 8192 := by rw [← h.1]; exact cnt_le _ _
theorem pow4 {b : Nat} (h : b ≤ 4) : 2 ^ b ≤ 16 := Nat.pow_le_pow_right (n := 2) (by decide) h
theorem LI.lt {b : Nat} {s : Lst} (h : LI b s) {c : Nat} (hc : c < 8192) (hm : ¬ lmet s c = true) : ln s < 8192 := by
  have h1 := cnt_up (p := lmet s) (c := c) (by cases e : lmet s c <;> simp_all) 8192 hc
  have h2 := cnt_le (fup (lmet s) c true) 8192
  have h3 := h.1
  omega
theorem LI.meet {b : Nat} {s : Lst} (h : LI b s) (hb : b ≤ 4) {c : Nat} (hc : 256 ≤ c) (hc2 : c < 2 * 2 ^ b * 256) : LI b (lMeet s c) := by
  have := pow4 hb
  unfold lMeet
  split
  · exact h
  · next hm =>
    refine ⟨?_, fun j hj => ?_, fun d hd => ?_⟩
    · show cnt (fup (lmet s) c true) 8192 = ln s + 1
      rw [cnt_up (by cases e : lmet s c <;> simp_all) 8192 (by omega), h.1]
    · have hj2 : j < ln s + 1 := hj
      show 256 ≤ fup (lq s) (ln s) c j ∧ fup (lq s) (ln s) c j < _
      by_cases e : j = ln s
      · rw [e, fup_s]; exact ⟨hc, hc2⟩
      · rw [fup_n _ _ e]; exact h.2.1 j (by omega)
    · have hd2 : fup (lmet s) c true d = true := hd
      show ∃ j, j < ln s + 1 ∧ fup (lq s) (ln s) c j = d
      by_cases e : d = c
      · exact ⟨ln s, by omega, by rw [fup_s, e]⟩
      · rw [fup_n _ _ e] at hd2
        obtain ⟨j, h1, h2⟩ := h.2.2 d hd2
        exact ⟨j, by omega, by rw [fup_n _ _ (by omega)]; exact h2⟩
theorem lmeet_n (s : Lst) (c : Nat) : ln s ≤ ln (lMeet s c) ∧ ∀ j, j < ln s → lq (lMeet s c) j = lq s j := by
  unfold lMeet
  split
  · exact ⟨Nat.le_refl _, fun _ _ => rfl⟩
  · exact ⟨Nat.le_succ _, fun j hj => fup_n _ _ (by omega)⟩
theorem lcode_lt {T0 T1 : Tab} (h0 : TWF T0) (h1 : TWF T1) {w c i b : Nat} (hw : 1 ≤ w) (hw2 : w < 2 * 2 ^ b) : 256 ≤ lcode T0 T1 w c i ∧ lcode T0 T1 w c i < 2 * 2 ^ b * 256 := by
  have a := h0.1 (c / 16 % 16) i
  have d := h1.1 (c % 16) i
  unfold lcode
  omega
theorem lnx_ok {b : Nat} {T0 T1 : Tab} (h0 : TWF T0) (h1 : TWF T1) {c i d : Nat} (hc : 256 ≤ c) (h : lnx b T0 T1 c i = some d) : 256 ≤ d ∧ d < 2 * 2 ^ b * 256 := by
  have hp := Nat.two_pow_pos b
  unfold lnx at h
  split at h
  · next g =>
    cases h
    exact lcode_lt h0 h1 (by unfold lw; omega) g
  · split at h
    · cases h
      have := Nat.mod_lt (lw T0 c i) hp
      exact lcode_lt h0 h1 (by omega) (by omega)
    · cases h
theorem LI.init {b : Nat} (hb : b ≤ 4) {T0 T1 : Tab} (h0 : TWF T0) (h1 : TWF T1) : LI b (lInit T0 T1) := by
  have hp := Nat.two_pow_pos b
  have a := h0.2.2
  have d := h1.2.2
  exact LI.meet (s := l0) ⟨cnt_none 8192, fun j hj => absurd hj (Nat.not_lt_zero j), fun c hc => by cases hc⟩ hb (by omega) (by omega)
theorem LI.inn {b : Nat} (hb : b ≤ 4) {T0 T1 : Tab} (h0 : TWF T0) (h1 : TWF T1) {s : Lst} (h : LI b s) {k : Nat} (hk : k < ln s) : ∀ i s', lIn b T0 T1 k i s = some s' → LI b s' ∧ ln s ≤ ln s' ∧ lq s' k = lq s k := by
  intro i
  induction i with
  | zero => intro s' e; cases e; exact ⟨h, Nat.le_refl _, rfl⟩
  | succ i ih =>
    intro s' e
    unfold lIn at e
    split at e
    · cases e
    · next s2 e2 =>
      obtain ⟨a1, a2, a3⟩ := ih s2 e2
      split at e
      · cases e
      · next c e3 =>
        cases e
        obtain ⟨b1, b2⟩ := lnx_ok h0 h1 (a1.2.1 k (by omega)).1 e3
        obtain ⟨m1, m2⟩ := lmeet_n s2 c
        exact ⟨a1.meet hb b1 b2, Nat.le_trans a2 m1, by rw [m2 k (by omega), a3]⟩
-- in the class
def LwT (N : Mem) (s : Lst) : Prop := N (cX 14) 2 = (ln s : Int) ∧ (∀ c, c < 8192 → N (cX 16) c = if lmet s c = true then 1 else 0) ∧ ∀ j, j < ln s → N (cX 18) j = (lq s j : Int)
def LZ (N : Mem) : Prop := ∀ c, c < 8192 → N (cX 16) c = 0
theorem rw15 : IsRow (cX 15) (cX 16) 8192 := ⟨rfl, rfl, by decide⟩
theorem rw17 : IsRow (cX 17) (cX 18) 8192 := ⟨rfl, rfl, by decide⟩
theorem sem_lmeet {M : Mem} {b : Nat} {s : Lst} (hb : b ≤ 4) (hI : LI b s) (h : LwT M s) {w z o : Nat} (hw : w < 2 * 2 ^ b) (hz : z < 16) (ho : o < 16) : Sem ST miX3_meet [.inr (cX 14), .inl (w : Int), .inl (z : Int), .inl (o : Int)] M (fun v N => v = none ∧ LwT N (lMeet s ((w * 16 + z) * 16 + o)) ∧ Fx (uX 14 19) M N) := by
  refine Sem.of (by decide) ST_ok (Nat.le_of_ble_eq_true rfl) (ls0 := [some (.inr (cX 14)), some (.inl (w : Int)), some (.inl (z : Int)), some (.inl (o : Int)), none]) rfl ?_
  have hp := pow4 hb
  have hle := hI.le
  obtain ⟨h1, h2, h3⟩ := id h
  have hmm := h2 ((w * 16 + z) * 16 + o) (by omega)
  have e0 : ((((w : Int) * 16 + (z : Int)) * 16 + (o : Int))).toNat = (w * 16 + z) * 16 + o := by omega
  refine ev_iload_n (np := 1) dX3_meet_0 rfl rfl ?_
  refine ev_bipush (np := 3) dX3_meet_1 (by decide) rfl ?_
  refine ev_imul (np := 4) dX3_meet_3 rfl ?_
  refine ev_iload_n (np := 5) dX3_meet_4 rfl rfl ?_
  refine ev_iadd (np := 6) dX3_meet_5 rfl ?_
  refine ev_bipush (np := 8) dX3_meet_6 (by decide) rfl ?_
  refine ev_imul (np := 9) dX3_meet_8 rfl ?_
  refine ev_iload_n (np := 10) dX3_meet_9 rfl rfl ?_
  refine ev_iadd (np := 11) dX3_meet_10 rfl ?_
  refine ev_istore (np := 13) dX3_meet_11 (by decide) rfl ?_
  refine ev_aload_n (np := 14) dX3_meet_13 rfl rfl ?_
  refine ev_getR (np := 17) sX3_meet_14 rfl rfl rfl ?_
  refine ev_iload (np := 19) dX3_meet_17 rfl rfl ?_
  refine ev_Vi1 (np := 22) moX6_get sX3_meet_19 (sem_get rw15 M (by omega)) rfl rfl (Nat.le_of_ble_eq_true rfl) rfl ?_
  rw [e0, hmm]
  by_cases hm : lmet s ((w * 16 + z) * 16 + o) = true
  · rw [if_pos hm]
    refine ev_if_ne (tgt := 68) (np := 25) dX3_meet_22 (by decide) rfl (by omega) (fun _ => ?_) (fun h => absurd h (by omega))
    refine ev_vret dX3_meet_68 rfl ?_
    rw [lMeet, if_pos hm]
    exact ⟨rfl, h, Fx.rf⟩
  · have hn := hI.lt (by omega) hm
    rw [if_neg hm]
    refine ev_if_ne (tgt := 68) (np := 25) dX3_meet_22 (by decide) rfl (by omega) (fun h => absurd (by omega) h) (fun _ => ?_)
    refine ev_aload_n (np := 26) dX3_meet_25 rfl rfl ?_
    refine ev_getI (np := 29) sX3_meet_26 rfl rfl rfl ?_
    rw [h1]
    refine ev_sipush (np := 32) dX3_meet_29 (by decide) rfl ?_
    refine ev_icmp_ge (tgt := 68) (np := 35) dX3_meet_32 (by decide) rfl (by omega) (by omega) (fun h => absurd h (by omega)) (fun _ => ?_)
    refine ev_aload_n (np := 36) dX3_meet_35 rfl rfl ?_
    refine ev_getR (np := 39) sX3_meet_36 rfl rfl rfl ?_
    refine ev_iload (np := 41) dX3_meet_39 rfl rfl ?_
    refine ev_iconst (np := 42) dX3_meet_41 rfl ?_
    refine ev_Vv2 (np := 45) moX6_set sX3_meet_42 (sem_set rw15 M (by omega)) rfl rfl (Nat.le_of_ble_eq_true rfl) rfl ?_
    rw [e0]
    refine ev_aload_n (np := 46) dX3_meet_45 rfl rfl ?_
    refine ev_getR (np := 49) sX3_meet_46 rfl rfl rfl ?_
    refine ev_aload_n (np := 50) dX3_meet_49 rfl rfl ?_
    refine ev_getI (np := 53) sX3_meet_50 rfl rfl rfl ?_
    rw [show updM M (cX 16) ((w * 16 + z) * 16 + o) 1 (cX 14) 2 = (ln s : Int) by rw [← h1]; simp [updM]]
    refine ev_iload (np := 55) dX3_meet_53 rfl rfl ?_
    refine ev_Vv2 (np := 58) moX6_set sX3_meet_55 (sem_set rw17 _ (by omega)) rfl rfl (Nat.le_of_ble_eq_true rfl) rfl ?_
    rw [Int.toNat_natCast]
    refine ev_aload_n (np := 59) dX3_meet_58 rfl rfl ?_
    refine ev_dup (np := 60) dX3_meet_59 rfl ?_
    refine ev_getI (np := 63) sX3_meet_60 rfl rfl rfl ?_
    rw [show updM (updM M (cX 16) ((w * 16 + z) * 16 + o) 1) (cX 18) (ln s) (((w : Int) * 16 + (z : Int)) * 16 + (o : Int)) (cX 14) 2 = (ln s : Int) by rw [← h1]; simp [updM]]
    refine ev_iconst (np := 64) dX3_meet_63 rfl ?_
    refine ev_iadd (np := 65) dX3_meet_64 rfl ?_
    refine ev_put (np := 68) sX3_meet_65 rfl rfl rfl ?_
    refine ev_vret dX3_meet_68 rfl ?_
    rw [lMeet, if_neg hm]
    refine ⟨rfl, ⟨?_, fun c hc => ?_, fun j hj => ?_⟩, ((Fx.upd rfl).tr (Fx.upd rfl)).tr (Fx.upd rfl)⟩
    · rw [updM_same]; rfl
    · show _ = if fup (lmet s) _ true c = true then (1 : Int) else 0
      by_cases e : c = (w * 16 + z) * 16 + o
      · rw [e, fup_s, if_pos rfl]; simp [updM]
      · rw [fup_n _ _ e, ← h2 c hc]; simp [updM, e]
    · have hj2 : j < ln s + 1 := hj
      show _ = ((fup (lq s) (ln s) _ j : Nat) : Int)
      by_cases e : j = ln s
      · rw [e, fup_s]; simp [updM]
      · rw [fup_n _ _ e, ← h3 j (by omega)]; simp [updM, e]
theorem Fx.lw {U : Cc → Bool} {M N : Mem} (h : Fx U M N) (hu : ∀ n, 14 ≤ n → n < 19 → U (cX n) = false) {s : Lst} (hp : LwT M s) : LwT N s := by
  obtain ⟨h1, h2, h3⟩ := hp
  exact ⟨by rw [h _ (hu 14 (by decide) (by decide))]; exact h1, by rw [h _ (hu 16 (by decide) (by decide))]; exact h2, by rw [h _ (hu 18 (by decide) (by decide))]; exact h3⟩
theorem sem_lstep {M : Mem} {t0 t1 : Fin 3} {T0 T1 : Tab} (h0 : TWF T0) (h1 : TWF T1) (g0 : TabT M t0 T0) (g1 : TabT M t1 T1) {b : Nat} {s : Lst} (hb : b ≤ 4) (hI : LI b s) (h : LwT M s) {c i : Nat} (hc : 256 ≤ c) (hc2 : c < 2 * 2 ^ b * 256) (hi : i < 4) :
    Sem ST miX3_step [.inr (cX 14), .inl (c : Int), .inl (i : Int), .inl (b : Int), .inr (cT t0 0), .inr (cT t1 0)] M (fun v N => Fx (uX 14 19) M N ∧ match lnx b T0 T1 c i with
      | none => v = some (.inl 0) ∧ LwT N s
      | some d => v = some (.inl 1) ∧ LwT N (lMeet s d)) := by
  refine Sem.of (by decide) ST_ok (Nat.le_of_ble_eq_true rfl) (ls0 := [some (.inr (cX 14)), some (.inl (c : Int)), some (.inl (i : Int)), some (.inl (b : Int)), some (.inr (cT t0 0)), some (.inr (cT t1 0)), none, none, none, none]) rfl ?_
  have hp := pow4 hb
  have hp0 := Nat.two_pow_pos b
  have x1 := h0.2.1 (c / 16 % 16)
  have x2 := h1.2.1 (c % 16)
  have y1 := h0.1 (c / 16 % 16) i
  have y2 := h1.1 (c % 16) i
  have b1 := bt_lt (T0.2.1 (c / 16 % 16)) i
  have b2 := bt_lt (T1.2.1 (c % 16)) i
  refine ev_iload_n (np := 1) dX3_step_0 rfl rfl ?_
  refine ev_bipush (np := 3) dX3_step_1 (by decide) rfl ?_
  refine ev_idiv (np := 4) dX3_step_3 (by omega) (by omega) rfl ?_
  refine ev_bipush (np := 6) dX3_step_4 (by decide) rfl ?_
  refine ev_irem (np := 7) dX3_step_6 (by omega) (by omega) rfl ?_
  refine ev_istore (np := 9) dX3_step_7 (by decide) rfl ?_
  refine ev_iload_n (np := 10) dX3_step_9 rfl rfl ?_
  refine ev_bipush (np := 12) dX3_step_10 (by decide) rfl ?_
  refine ev_irem (np := 13) dX3_step_12 (by omega) (by omega) rfl ?_
  refine ev_istore (np := 15) dX3_step_13 (by decide) rfl ?_
  refine ev_iload_n (np := 16) dX3_step_15 rfl rfl ?_
  refine ev_sipush (np := 19) dX3_step_16 (by decide) rfl ?_
  refine ev_idiv (np := 20) dX3_step_19 (by omega) (by omega) rfl ?_
  refine ev_iconst (np := 21) dX3_step_20 rfl ?_
  refine ev_imul (np := 22) dX3_step_21 rfl ?_
  refine ev_aload (np := 24) dX3_step_22 rfl rfl ?_
  refine ev_iload (np := 26) dX3_step_24 rfl rfl ?_
  rw [show (c : Int) / 16 % 16 = ((c / 16 % 16 : Nat) : Int) by omega, show (c : Int) % 16 = ((c % 16 : Nat) : Int) by omega]
  refine ev_Vi1 (np := 29) moX7_outputSet sX3_step_26 (sem_tOut g0 (s := c / 16 % 16) (by omega)) rfl rfl (Nat.le_of_ble_eq_true rfl) rfl ?_
  refine ev_iload_n (np := 30) dX3_step_29 rfl rfl ?_
  refine ev_Ni2 (np := 33) moX9_bitOf sX3_step_30 (sem_bit M (b := T0.2.1 (c / 16 % 16)) (p := i) (by omega) (by omega)) (Nat.le_of_ble_eq_true rfl) rfl ?_
  refine ev_iadd (np := 34) dX3_step_33 rfl ?_
  rw [show (c : Int) / 256 * 2 + ((bt (T0.2.1 (c / 16 % 16)) i : Nat) : Int) = ((lw T0 c i : Nat) : Int) by unfold lw; omega]
  have hwb : lw T0 c i < 2 * (2 * 2 ^ b) := by unfold lw; omega
  have hw1 : 2 ≤ lw T0 c i := by unfold lw; omega
  have tail : ∀ w : Nat, 1 ≤ w → w < 2 * 2 ^ b → lnx b T0 T1 c i = some (lcode T0 T1 w c i) → ∀ f : Option Val, Ev ST miX3_step 86 [some (.inr (cX 14)), some (.inl (c : Int)), some (.inl (i : Int)), some (.inl (b : Int)), some (.inr (cT t0 0)), some (.inr (cT t1 0)), some (.inl ((c / 16 % 16 : Nat) : Int)), some (.inl ((c % 16 : Nat) : Int)), some (.inl (w : Int)), f] [] M (fun v N => Fx (uX 14 19) M N ∧ match lnx b T0 T1 c i with
      | none => v = some (.inl 0) ∧ LwT N s
      | some d => v = some (.inl 1) ∧ LwT N (lMeet s d)) := by
    intro w w1 w2 e f
    refine ev_aload_n (np := 87) dX3_step_86 rfl rfl ?_
    refine ev_iload (np := 89) dX3_step_87 rfl rfl ?_
    refine ev_aload (np := 91) dX3_step_89 rfl rfl ?_
    refine ev_iload (np := 93) dX3_step_91 rfl rfl ?_
    refine ev_iload_n (np := 94) dX3_step_93 rfl rfl ?_
    refine ev_Vi2 (np := 97) moX7_stateBehind sX3_step_94 (sem_tBehind g0 (s := c / 16 % 16) (i := i) (by omega) hi) rfl rfl (Nat.le_of_ble_eq_true rfl) rfl ?_
    refine ev_aload (np := 99) dX3_step_97 rfl rfl ?_
    refine ev_iload (np := 101) dX3_step_99 rfl rfl ?_
    refine ev_iload_n (np := 102) dX3_step_101 rfl rfl ?_
    refine ev_Vi2 (np := 105) moX7_stateBehind sX3_step_102 (sem_tBehind g1 (s := c % 16) (i := i) (by omega) hi) rfl rfl (Nat.le_of_ble_eq_true rfl) rfl ?_
    refine ev_V3 (np := 108) moX3_meet sX3_step_105 (sem_lmeet hb hI h w2 y1 y2 ) rfl rfl (Nat.le_of_ble_eq_true rfl) rfl (fun v N hq => ?_)
    obtain ⟨rfl, q1, q2⟩ := hq
    refine ev_iconst (np := 109) dX3_step_108 rfl ?_
    refine ev_zret dX3_step_109 rfl (by first | exact Or.inl rfl | exact Or.inr rfl | omega) ?_
    rw [e]
    exact ⟨q2, rfl, q1⟩
  refine ev_istore (np := 36) dX3_step_34 (by decide) rfl ?_
  refine ev_iconst (np := 37) dX3_step_36 rfl ?_
  refine ev_iload_n (np := 38) dX3_step_37 rfl rfl ?_
  refine ev_ishl (np := 39) dX3_step_38 (by omega) rfl ?_
  rw [show (2 : Int) * ((2 ^ (b : Int).toNat : Nat) : Int) = ((2 * 2 ^ b : Nat) : Int) by rw [Int.toNat_natCast]; omega]
  refine ev_istore (np := 41) dX3_step_39 (by decide) rfl ?_
  refine ev_iload (np := 43) dX3_step_41 rfl rfl ?_
  refine ev_iload (np := 45) dX3_step_43 rfl rfl ?_
  refine ev_icmp_lt (tgt := 86) (np := 48) dX3_step_45 (by decide) rfl (by omega) (by omega) (fun h5 => ?_) (fun h5 => ?_)
  · exact tail (lw T0 c i) (by omega) (by omega) (by rw [lnx, if_pos (by omega)]) _
  · refine ev_iload (np := 50) dX3_step_48 rfl rfl ?_
    refine ev_iload_n (np := 51) dX3_step_50 rfl rfl ?_
    refine ev_Ni2 (np := 54) moX9_bitOf sX3_step_51 (sem_bit M (b := lw T0 c i) (p := b) (by omega) (by omega)) (Nat.le_of_ble_eq_true rfl) rfl ?_
    refine ev_aload (np := 56) dX3_step_54 rfl rfl ?_
    refine ev_iload (np := 58) dX3_step_56 rfl rfl ?_
    refine ev_Vi1 (np := 61) moX7_outputSet sX3_step_58 (sem_tOut g1 (s := c % 16) (by omega)) rfl rfl (Nat.le_of_ble_eq_true rfl) rfl ?_
    refine ev_iload_n (np := 62) dX3_step_61 rfl rfl ?_
    refine ev_Ni2 (np := 65) moX9_bitOf sX3_step_62 (sem_bit M (b := T1.2.1 (c % 16)) (p := i) (by omega) (by omega)) (Nat.le_of_ble_eq_true rfl) rfl ?_
    have b3 := bt_lt (lw T0 c i) b
    refine ev_icmp_eq (tgt := 70) (np := 68) dX3_step_65 (by decide) rfl (by omega) (by omega) (fun h6 => ?_) (fun h6 => ?_)
    · refine ev_iload (np := 72) dX3_step_70 rfl rfl ?_
      refine ev_iload (np := 74) dX3_step_72 rfl rfl ?_
      refine ev_iconst (np := 75) dX3_step_74 rfl ?_
      refine ev_idiv (np := 76) dX3_step_75 (by omega) (by omega) rfl ?_
      refine ev_iconst (np := 77) dX3_step_76 rfl ?_
      refine ev_isub (np := 78) dX3_step_77 rfl ?_
      refine ev_iandm b (np := 79) dX3_step_78 (by omega) (by omega) rfl ?_
      refine ev_iload (np := 81) dX3_step_79 rfl rfl ?_
      refine ev_iconst (np := 82) dX3_step_81 rfl ?_
      refine ev_idiv (np := 83) dX3_step_82 (by omega) (by omega) rfl ?_
      have hml := Nat.mod_lt (lw T0 c i) hp0
      rw [show ((lw T0 c i : Nat) : Int) % ((2 ^ b : Nat) : Int) = ((lw T0 c i % 2 ^ b : Nat) : Int) by omega, show ((2 * 2 ^ b : Nat) : Int) / 2 = ((2 ^ b : Nat) : Int) by omega]
      refine ev_ior (np := 84) dX3_step_83 (Int.natCast_nonneg _) (Int.natCast_nonneg _) rfl ?_
      rw [Int.toNat_natCast, Int.toNat_natCast, Nat.or_two_pow_eq_add_of_lt hml]
      refine ev_istore (np := 86) dX3_step_84 (by decide) rfl ?_
      exact tail (lw T0 c i % 2 ^ b + 2 ^ b) (by omega) (by omega) (by rw [lnx, if_neg (by omega), if_pos (by omega)]) _
    · refine ev_iconst (np := 69) dX3_step_68 rfl ?_
      refine ev_zret dX3_step_69 rfl (by first | exact Or.inl rfl | exact Or.inr rfl | omega) ?_
      rw [lnx, if_neg (by omega), if_neg (by omega)]
      exact ⟨Fx.rf, rfl, h⟩
