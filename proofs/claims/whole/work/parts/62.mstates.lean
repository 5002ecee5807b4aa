/-! STATES THAT ARE COME TO, in the reference -/
theorem shr1 (b p : Nat) : (b : Int) / ((2 ^ ((p : Int)).toNat : Nat) : Int) % ((2 ^ 1 : Nat) : Int) = (bt b p : Int) := by
  rw [Int.toNat_natCast]
  unfold bt
  norm_cast
/-- the same gathering, begun with f0 -/
def sbF (T : Tab) (X f0 : Nat) : Nat → Nat
  | 0 => f0
  | s + 1 => if bt X s = 1 then sbI T s 4 (sbF T X f0 s) else sbF T X f0 s
theorem sbI_or (T : Tab) (s a b : Nat) : ∀ i, sbI T s i (a ||| b) = a ||| sbI T s i b
  | 0 => rfl
  | i + 1 => by
    show sbI T s i (a ||| b) ||| _ = a ||| (sbI T s i b ||| _)
    rw [sbI_or T s a b i, Nat.or_assoc]
theorem sbF_or (T : Tab) (X f0 : Nat) : ∀ s, sbF T X f0 s = f0 ||| sbS T X s
  | 0 => (Nat.or_zero f0).symm
  | s + 1 => by
    unfold sbF sbS
    rw [sbF_or T X f0 s]
    split
    · exact sbI_or T s f0 _ 4
    · rfl
theorem sbF_lt {T : Tab} (hT : TWF T) {X f0 : Nat} (h : f0 < 65536) (s : Nat) : sbF T X f0 s < 65536 := by
  rw [sbF_or]
  exact Nat.or_lt_two_pow (n := 16) h (sbS_lt hT s)
theorem eq16 {a b : Nat} (ha : a < 65536) (hb : b < 65536) (h : ∀ s, s < 16 → a.testBit s = b.testBit s) : a = b := by
  apply Nat.eq_of_testBit_eq
  intro i
  rcases Nat.lt_or_ge i 16 with g | g
  · exact h i g
  · have hp : 2 ^ 16 ≤ 2 ^ i := Nat.pow_le_pow_right (by decide) g
    rw [Nat.testBit_lt_two_pow (by omega), Nat.testBit_lt_two_pow (by omega)]
theorem sct_up (T : Tab) (r s : Nat) (h : (sct T r).testBit s = true) : (sct T (r + 1)).testBit s = true := by
  show (sct T r ||| _).testBit s = true
  rw [Nat.testBit_or, h, Bool.true_or]
theorem sct_grow {T : Tab} (hT : TWF T) : ∀ r, (∀ q, q < r → sct T q ≠ sct T (q + 1)) → r + 1 ≤ cnt (sct T r).testBit 16
  | 0, _ => by
    have h0 : (sct T 0).testBit T.2.2 = true := by
      show (2 ^ T.2.2).testBit T.2.2 = true
      rw [Nat.testBit_two_pow]
      simp
    have : ∀ n, T.2.2 < n → 1 ≤ cnt (sct T 0).testBit n := by
      intro n
      induction n with
      | zero => intro h; omega
      | succ n ih =>
        intro h
        unfold cnt
        by_cases e : T.2.2 = n
        · rw [← e, if_pos h0]; omega
        · have := ih (by omega); omega
    exact this 16 hT.2.2
  | r + 1, h => by
    have ih := sct_grow hT r (fun q hq => h q (by omega))
    have m := cnt_mono (p := (sct T r).testBit) (q := (sct T (r + 1)).testBit) (fun s => sct_up T r s) 16
    rcases Nat.lt_or_ge (cnt (sct T r).testBit 16) (cnt (sct T (r + 1)).testBit 16) with g | g
    · omega
    · have e := cnt_eq (p := (sct T r).testBit) (q := (sct T (r + 1)).testBit) (fun s => sct_up T r s) 16 (by omega)
      exact absurd (eq16 (sct_lt hT r) (sct_lt hT (r + 1)) e) (h r (by omega))
theorem sct_stay {T : Tab} {r : Nat} (h : sct T r = sct T (r + 1)) : ∀ q, sct T (r + q) = sct T r
  | 0 => rfl
  | q + 1 => by
    show sct T (r + q) ||| sbS T (sct T (r + q)) 16 = sct T r
    rw [sct_stay h q]
    exact h.symm
theorem sct_16 {T : Tab} (hT : TWF T) {r : Nat} (h : sct T r = sct T (r + 1)) : sct T r = sct T 16 := by
  obtain ⟨q, hq, e⟩ : ∃ q, q < 16 ∧ sct T q = sct T (q + 1) := by
    apply Classical.byContradiction
    intro hn
    have h1 := sct_grow hT 16 (fun q hq e => hn ⟨q, hq, e⟩)
    have h2 := cnt_le (sct T 16).testBit 16
    omega
  have e16 : sct T 16 = sct T q := by
    have := sct_stay e (16 - q)
    rwa [show q + (16 - q) = 16 by omega] at this
  rcases Nat.lt_or_ge r q with g | g
  · have := sct_stay h (q - r)
    rw [show r + (q - r) = q by omega] at this
    rw [e16, this]
  · have := sct_stay e (r - q)
    rw [show q + (r - q) = r by omega] at this
    rw [e16, this]
theorem sct_17 {T : Tab} (hT : TWF T) : sct T 17 = sct T 16 := by
  obtain ⟨q, hq, e⟩ : ∃ q, q < 16 ∧ sct T q = sct T (q + 1) := by
    apply Classical.byContradiction
    intro hn
    have h1 := sct_grow hT 16 (fun q hq e => hn ⟨q, hq, e⟩)
    have h2 := cnt_le (sct T 16).testBit 16
    omega
  have a := sct_stay e (16 - q)
  have b := sct_stay e (17 - q)
  rw [show q + (16 - q) = 16 by omega] at a
  rw [show q + (17 - q) = 17 by omega] at b
  rw [a, b]
theorem ct_in {b : Nat} {C : Circ} (hC : WF C) (hb : b ≤ 1) {P : Mem → Prop} (sl : ∀ N, P N → RefS N b C) (pf : ∀ N N', P N → Fy (uM [6] []) N N' → P N') {X s : Nat} (hX : X < 65536) (hs : s < 16) {f0 : Nat} (hf0 : f0 < 65536) {Q : Option Val → Mem → Prop}
    (K : ∀ (N : Mem) (u : Option Val), P N → Ev SM miX10_comesTo 66 [some (.inr (cX 0)), some (.inl (b : Int)), some (.inl ((if bt X s = 1 then sbI (tabOf C) s 4 f0 else f0 : Nat) : Int)), some (.inl (X : Int)), some (.inl (s : Int)), u] [] N Q) :
    ∀ (m i : Nat) (N : Mem), i + m = 4 → (bt X s = 1 ∨ i = 0) → P N → Ev SM miX10_comesTo 30 [some (.inr (cX 0)), some (.inl (b : Int)), some (.inl ((sbI (tabOf C) s i f0 : Nat) : Int)), some (.inl (X : Int)), some (.inl (s : Int)), some (.inl (i : Int))] [] N Q := by
  have hT := tabOf_wf hC
  have hbt := bt_lt X s
  intro m
  induction m with
  | zero =>
    intro i N hi hc hI
    refine ev_iload (np := 32) dX10_comesTo_30 rfl rfl ?_
    refine ev_iconst (np := 33) dX10_comesTo_32 rfl ?_
    refine ev_icmp_ge (tgt := 66) (np := 36) dX10_comesTo_33 (by decide) rfl (by omega) (by omega) (fun _ => ?_) (fun h => absurd (by omega) h)
    have := K N (some (.inl (i : Int))) hI
    rw [if_pos (hc.resolve_right (by omega))] at this
    rw [show i = 4 by omega] at this ⊢
    exact this
  | succ m ih =>
    intro i N hi hc hI
    have hl := sbI_lt (s := s) hT i f0 hf0
    refine ev_iload (np := 32) dX10_comesTo_30 rfl rfl ?_
    refine ev_iconst (np := 33) dX10_comesTo_32 rfl ?_
    refine ev_icmp_ge (tgt := 66) (np := 36) dX10_comesTo_33 (by decide) rfl (by omega) (by omega) (fun h => absurd h (by omega)) (fun _ => ?_)
    refine ev_iload_n (np := 37) dX10_comesTo_36 rfl rfl ?_
    refine ev_iload (np := 39) dX10_comesTo_37 rfl rfl ?_
    refine ev_ishr (np := 40) dX10_comesTo_39 (by omega) (by omega) rfl ?_
    refine ev_iconst (np := 41) dX10_comesTo_40 rfl ?_
    refine ev_iandm 1 (np := 42) dX10_comesTo_41 (by omega) rfl rfl ?_
    rw [shr1]
    refine ev_iconst (np := 43) dX10_comesTo_42 rfl ?_
    refine ev_icmp_ne (tgt := 66) (np := 46) dX10_comesTo_43 (by decide) rfl (by omega) (by omega) (fun h1 => ?_) (fun h1 => ?_)
    · have e : i = 0 := hc.resolve_left (by omega)
      subst e
      have := K N (some (.inl ((0 : Nat) : Int))) hI
      rw [if_neg (by omega)] at this
      exact this
    · refine ev_iload_n (np := 47) dX10_comesTo_46 rfl rfl ?_
      refine ev_iconst (np := 48) dX10_comesTo_47 rfl ?_
      refine ev_aload_n (np := 49) dX10_comesTo_48 rfl rfl ?_
      refine ev_iload_n (np := 50) dX10_comesTo_49 rfl rfl ?_
      refine ev_iload (np := 52) dX10_comesTo_50 rfl rfl ?_
      refine ev_iload (np := 54) dX10_comesTo_52 rfl rfl ?_
      refine ev_V3 (np := 57) moX10_then sX10_comesTo_54 (sem_mthen hC hb (s := s) (i := i) hs (by omega) (sl N hI) ) rfl rfl (Nat.le_of_ble_eq_true rfl) rfl (fun v N2 hq => ?_)
      obtain ⟨rfl, f⟩ := hq
      have hx := nxt_lt C s i
      refine ev_ishl (np := 58) dX10_comesTo_57 (by omega) rfl ?_
      refine ev_ior (np := 59) dX10_comesTo_58 (by omega) (Int.mul_nonneg (by omega) (Int.natCast_nonneg _)) rfl ?_
      rw [Int.toNat_natCast (nxtS C s i), show (((sbI (tabOf C) s i f0 : Int)).toNat ||| ((1 : Int) * ((2 ^ nxtS C s i : Nat) : Int)).toNat : Nat) = sbI (tabOf C) s (i + 1) f0 by rw [Int.toNat_natCast, Int.one_mul, Int.toNat_natCast]; rfl]
      refine ev_istore_n (np := 60) dX10_comesTo_59 (by decide) rfl ?_
      refine ev_iinc (np := 63) dX10_comesTo_60 rfl (by decide) rfl ?_
      refine ev_goto (np := 30) dX10_comesTo_63 (by decide) ?_
      exact ih (i + 1) N2 (by omega) (Or.inl (by omega)) (pf _ _ hI f)
theorem ct_mid {b : Nat} {C : Circ} (hC : WF C) (hb : b ≤ 1) {P : Mem → Prop} (sl : ∀ N, P N → RefS N b C) (pf : ∀ N N', P N → Fy (uM [6] []) N N' → P N') {X : Nat} (hX : X < 65536) {Q : Option Val → Mem → Prop}
    (K : ∀ (N : Mem) (u v : Option Val), P N → Ev SM miX10_comesTo 72 [some (.inr (cX 0)), some (.inl (b : Int)), some (.inl ((X ||| sbS (tabOf C) X 16 : Nat) : Int)), some (.inl (X : Int)), u, v] [] N Q) :
    ∀ (m s : Nat) (N : Mem) (v : Option Val), s + m = 16 → P N → Ev SM miX10_comesTo 20 [some (.inr (cX 0)), some (.inl (b : Int)), some (.inl ((sbF (tabOf C) X X s : Nat) : Int)), some (.inl (X : Int)), some (.inl (s : Int)), v] [] N Q := by
  have hT := tabOf_wf hC
  intro m
  induction m with
  | zero =>
    intro s N v hs hI
    refine ev_iload (np := 22) dX10_comesTo_20 rfl rfl ?_
    refine ev_bipush (np := 24) dX10_comesTo_22 (by decide) rfl ?_
    refine ev_icmp_ge (tgt := 72) (np := 27) dX10_comesTo_24 (by decide) rfl (by omega) (by omega) (fun _ => ?_) (fun h => absurd (by omega) h)
    rw [show s = 16 by omega, sbF_or]
    exact K N _ _ hI
  | succ m ih =>
    intro s N v hs hI
    refine ev_iload (np := 22) dX10_comesTo_20 rfl rfl ?_
    refine ev_bipush (np := 24) dX10_comesTo_22 (by decide) rfl ?_
    refine ev_icmp_ge (tgt := 72) (np := 27) dX10_comesTo_24 (by decide) rfl (by omega) (by omega) (fun h => absurd h (by omega)) (fun _ => ?_)
    refine ev_iconst (np := 28) dX10_comesTo_27 rfl ?_
    refine ev_istore (np := 30) dX10_comesTo_28 (by decide) rfl ?_
    refine ct_in hC hb sl pf hX (show s < 16 by omega) (sbF_lt hT hX s) ?_ 4 0 N rfl (Or.inr rfl) hI
    intro N2 u hI2
    refine ev_iinc (np := 69) dX10_comesTo_66 rfl (by decide) rfl ?_
    refine ev_goto (np := 20) dX10_comesTo_69 (by decide) ?_
    exact ih (s + 1) N2 _ (by omega) hI2
theorem ct_out {b : Nat} {C : Circ} (hC : WF C) (hb : b ≤ 1) {P : Mem → Prop} (sl : ∀ N, P N → RefS N b C) (pf : ∀ N N', P N → Fy (uM [6] []) N N' → P N') : ∀ (m r : Nat) (H : Nat) (N : Mem) (u v : Option Val), r + m = 17 → P N → (H = sct (tabOf C) r → sct (tabOf C) r = sct (tabOf C) 16) → (r = 17 → H = sct (tabOf C) r) → H < 65536 → Ev SM miX10_comesTo 10 [some (.inr (cX 0)), some (.inl (b : Int)), some (.inl ((sct (tabOf C) r : Nat) : Int)), some (.inl (H : Int)), u, v] [] N (fun v N => v = some (.inl (sct (tabOf C) 16 : Nat)) ∧ P N) := by
  have hT := tabOf_wf hC
  intro m
  induction m with
  | zero =>
    intro r H N u v hr hI h1 h2 h3
    have hl := sct_lt hT r
    have e := h2 (by omega)
    refine ev_iload_n (np := 11) dX10_comesTo_10 rfl rfl ?_
    refine ev_iload_n (np := 12) dX10_comesTo_11 rfl rfl ?_
    refine ev_icmp_eq (tgt := 75) (np := 15) dX10_comesTo_12 (by decide) rfl (by omega) (by omega) (fun _ => ?_) (fun h => absurd (by omega) h)
    refine ev_iload_n (np := 76) dX10_comesTo_75 rfl rfl ?_
    refine ev_iret dX10_comesTo_76 rfl ?_
    exact ⟨by rw [h1 e], hI⟩
  | succ m ih =>
    intro r H N u v hr hI h1 h2 h3
    have hl := sct_lt hT r
    refine ev_iload_n (np := 11) dX10_comesTo_10 rfl rfl ?_
    refine ev_iload_n (np := 12) dX10_comesTo_11 rfl rfl ?_
    by_cases e : H = sct (tabOf C) r
    · refine ev_icmp_eq (tgt := 75) (np := 15) dX10_comesTo_12 (by decide) rfl (by omega) (by omega) (fun _ => ?_) (fun h => absurd (by omega) h)
      refine ev_iload_n (np := 76) dX10_comesTo_75 rfl rfl ?_
      refine ev_iret dX10_comesTo_76 rfl ?_
      exact ⟨by rw [h1 e], hI⟩
    · refine ev_icmp_eq (tgt := 75) (np := 15) dX10_comesTo_12 (by decide) rfl (by omega) (by omega) (fun h => absurd h (by omega)) (fun _ => ?_)
      refine ev_iload_n (np := 16) dX10_comesTo_15 rfl rfl ?_
      refine ev_istore_n (np := 17) dX10_comesTo_16 (by decide) rfl ?_
      refine ev_iconst (np := 18) dX10_comesTo_17 rfl ?_
      refine ev_istore (np := 20) dX10_comesTo_18 (by decide) rfl ?_
      refine ct_mid hC hb sl pf hl ?_ 16 0 N _ rfl hI
      intro N2 u2 v2 hI2
      refine ev_goto (np := 10) dX10_comesTo_72 (by decide) ?_
      refine ih (r + 1) (sct (tabOf C) r) N2 _ _ (by omega) hI2 (fun e2 => by rw [← e2]; exact sct_16 hT e2) (fun e2 => ?_) hl
      rw [show r = 16 by omega, sct_17 hT]
theorem sem_mcomes {M : Mem} {b : Nat} {C : Circ} (hC : WF C) (hb : b ≤ 1) {P : Mem → Prop} (sl : ∀ N, P N → RefS N b C) (pf : ∀ N N', P N → Fy (uM [6] []) N N' → P N') (hI : P M) : Sem SM miX10_comesTo [.inr (cX 0), .inl (b : Int)] M (fun v N => v = some (.inl (sct (tabOf C) 16 : Nat)) ∧ P N) := by
  refine Sem.of (by decide) SM_ok (Nat.le_of_ble_eq_true rfl) (ls0 := [some (.inr (cX 0)), some (.inl (b : Int)), none, none, none, none]) rfl ?_
  have h0 := fst_lt hC
  have hp : 0 < sct (tabOf C) 0 := Nat.two_pow_pos _
  refine ev_iconst (np := 1) dX10_comesTo_0 rfl ?_
  refine ev_aload_n (np := 2) dX10_comesTo_1 rfl rfl ?_
  refine ev_iload_n (np := 3) dX10_comesTo_2 rfl rfl ?_
  refine ev_Vi1 (np := 6) moX10_first sX10_comesTo_3 (sem_mfirst hC hb (sl M hI)) rfl rfl (Nat.le_of_ble_eq_true rfl) rfl ?_
  refine ev_ishl (np := 7) dX10_comesTo_6 (by omega) rfl ?_
  rw [Int.toNat_natCast, Int.one_mul]
  refine ev_istore_n (np := 8) dX10_comesTo_7 (by decide) rfl ?_
  refine ev_iconst (np := 9) dX10_comesTo_8 rfl ?_
  refine ev_istore_n (np := 10) dX10_comesTo_9 (by decide) rfl ?_
  exact ct_out hC hb sl pf 17 0 0 M none none rfl hI (fun e => by omega) (fun e => by omega) (by decide)
-- steady registers
theorem std_a : ∀ c, c < 16 → ∀ x, x < 16 → ∀ i, i < 4 → bt x i = 0 → 15 - (15 &&& (c ||| x % 2 ^ (i + 1))) = 15 - (15 &&& (c ||| x % 2 ^ i)) := by decide +kernel
theorem std_b : ∀ c, c < 16 → ∀ x, x < 16 → ∀ i, i < 4 → bt x i = 1 → (15 - (15 &&& (c ||| x % 2 ^ i))) - ((15 - (15 &&& (c ||| x % 2 ^ i))) &&& 2 ^ i) = 15 - (15 &&& (c ||| x % 2 ^ (i + 1))) := by decide +kernel
theorem xor_bit : ∀ a, a < 16 → ∀ c, c < 16 → ∀ i, i < 4 → (bt (a ^^^ c) i = 0 ↔ bt a i = bt c i) := by decide +kernel
theorem st4_bit : ∀ a, a < 2 → ∀ b, b < 2 → ∀ c, c < 2 → ∀ d, d < 2 → bt (a + 2 * b + 4 * c + 8 * d) 0 = a ∧ bt (a + 2 * b + 4 * c + 8 * d) 1 = b ∧ bt (a + 2 * b + 4 * c + 8 * d) 2 = c ∧ bt (a + 2 * b + 4 * c + 8 * d) 3 = d := by decide
theorem bt_st4 {f : Nat → Nat} (h : ∀ r, r < 4 → f r < 2) {i : Nat} (hi : i < 4) : bt (st4 f) i = f i := by
  obtain ⟨a, b, c, d⟩ := st4_bit _ (h 0 (by decide)) _ (h 1 (by decide)) _ (h 2 (by decide)) _ (h 3 (by decide))
  rcases (show i = 0 ∨ i = 1 ∨ i = 2 ∨ i = 3 by omega) with rfl | rfl | rfl | rfl
  · exact a
  · exact b
  · exact c
  · exact d
theorem std_in {b : Nat} {C : Circ} (hC : WF C) (hb : b ≤ 1) {N : Mem} (hS : RefS N b C) {X s c : Nat} (hX : X < 65536) (hs : s < 16) (hc : c < 16) {Q : Option Val → Mem → Prop}
    (K : ∀ u : Option Val, Ev SM miX10_steady 78 [some (.inr (cX 0)), some (.inl (b : Int)), some (.inl ((15 - (15 &&& (if bt X s = 1 then c ||| (s ^^^ fstS C) else c)) : Nat) : Int)), some (.inl (X : Int)), some (.inl (s : Int)), u] [] N Q) :
    ∀ (m i : Nat), i + m = 4 → (bt X s = 1 ∨ i = 0) → Ev SM miX10_steady 22 [some (.inr (cX 0)), some (.inl (b : Int)), some (.inl ((15 - (15 &&& (c ||| (s ^^^ fstS C) % 2 ^ i)) : Nat) : Int)), some (.inl (X : Int)), some (.inl (s : Int)), some (.inl (i : Int))] [] N Q := by
  have hbt := bt_lt X s
  have hf := fst_lt hC
  have hx : s ^^^ fstS C < 16 := Nat.xor_lt_two_pow (n := 4) hs hf
  intro m
  induction m with
  | zero =>
    intro i hi hcx
    refine ev_iload (np := 24) dX10_steady_22 rfl rfl ?_
    refine ev_iconst (np := 25) dX10_steady_24 rfl ?_
    refine ev_icmp_ge (tgt := 78) (np := 28) dX10_steady_25 (by decide) rfl (by omega) (by omega) (fun _ => ?_) (fun h => absurd (by omega) h)
    have := K (some (.inl (i : Int)))
    rw [if_pos (hcx.resolve_right (by omega))] at this
    rw [show i = 4 by omega] at this ⊢
    rw [show (s ^^^ fstS C) % 2 ^ 4 = s ^^^ fstS C from Nat.mod_eq_of_lt hx]
    exact this
  | succ m ih =>
    intro i hi hcx
    have i4 : i < 4 := by omega
    have cbi := (hC.2.2.1 i i4).2
    have ea := std_a c hc _ hx i i4
    have eb := std_b c hc _ hx i i4
    have ex := xor_bit s hs _ hf i i4
    have ef : bt (fstS C) i = cb C i := bt_st4 (fun r hr => (hC.2.2.1 r hr).2) i4
    have hl2 := bt_lt (s ^^^ fstS C) i
    have hbs := bt_lt s i
    refine ev_iload (np := 24) dX10_steady_22 rfl rfl ?_
    refine ev_iconst (np := 25) dX10_steady_24 rfl ?_
    refine ev_icmp_ge (tgt := 78) (np := 28) dX10_steady_25 (by decide) rfl (by omega) (by omega) (fun h => absurd h (by omega)) (fun _ => ?_)
    refine ev_iload_n (np := 29) dX10_steady_28 rfl rfl ?_
    refine ev_iload (np := 31) dX10_steady_29 rfl rfl ?_
    refine ev_ishr (np := 32) dX10_steady_31 (by omega) (by omega) rfl ?_
    refine ev_iconst (np := 33) dX10_steady_32 rfl ?_
    refine ev_iandm 1 (np := 34) dX10_steady_33 (by omega) rfl rfl ?_
    rw [shr1]
    refine ev_iconst (np := 35) dX10_steady_34 rfl ?_
    refine ev_icmp_ne (tgt := 78) (np := 38) dX10_steady_35 (by decide) rfl (by omega) (by omega) (fun h1 => ?_) (fun h1 => ?_)
    · have e : i = 0 := hcx.resolve_left (by omega)
      subst e
      have := K (some (.inl ((0 : Nat) : Int)))
      rw [if_neg (by omega)] at this
      rw [show (s ^^^ fstS C) % 2 ^ 0 = 0 from Nat.mod_one _, Nat.or_zero]
      exact this
    · refine ev_iload_n (np := 39) dX10_steady_38 rfl rfl ?_
      refine ev_iload (np := 41) dX10_steady_39 rfl rfl ?_
      refine ev_iload (np := 43) dX10_steady_41 rfl rfl ?_
      refine ev_ishr (np := 44) dX10_steady_43 (by omega) (by omega) rfl ?_
      refine ev_iconst (np := 45) dX10_steady_44 rfl ?_
      refine ev_iandm 1 (np := 46) dX10_steady_45 (by omega) rfl rfl ?_
      rw [shr1]
      refine ev_aload_n (np := 47) dX10_steady_46 rfl rfl ?_
      refine ev_iload_n (np := 48) dX10_steady_47 rfl rfl ?_
      refine ev_bipush (np := 50) dX10_steady_48 (by decide) rfl ?_
      refine ev_iload (np := 52) dX10_steady_50 rfl rfl ?_
      refine ev_iadd (np := 53) dX10_steady_52 rfl ?_
      refine ev_Vi2 (np := 56) moX10_of sX10_steady_53 (sem_of (b := (b : Int)) (i := 6 + (i : Int)) (by omega) (by omega)) rfl rfl (Nat.le_of_ble_eq_true rfl) rfl ?_
      rw [Int.toNat_natCast, show ((6 : Int) + (i : Int)).toNat = 6 + i by omega, show N (cX 1) (34 * b + (6 + i)) = (cb C i : Int) from (hS.2.2.1 i i4).2]
      refine ev_icmp_ne (tgt := 64) (np := 59) dX10_steady_56 (by decide) rfl (by omega) (by omega) (fun h2 => ?_) (fun h2 => ?_)
      · have hpi : 0 ≤ (1:Int)*((2^(i:Int).toNat:Nat):Int) ∧ (1:Int)*((2^(i:Int).toNat:Nat):Int) < 2147483648 := by
          rw [Int.one_mul, Int.toNat_natCast]
          have : 2 ^ i ≤ 2 ^ 3 := Nat.pow_le_pow_right (by decide) (by omega)
          exact ⟨Int.natCast_nonneg _, by omega⟩
        refine ev_iconst (np := 65) dX10_steady_64 rfl ?_
        refine ev_iload (np := 67) dX10_steady_65 rfl rfl ?_
        refine ev_ishl (np := 68) dX10_steady_67 (by omega) rfl ?_
        refine ev_iconst (np := 69) dX10_steady_68 rfl ?_
        refine ev_inot (np := 70) dX10_steady_69 rfl ?_
        refine ev_iandn (np := 71) dX10_steady_70 (by omega) hpi rfl ?_
        rw [Int.toNat_natCast i, Int.one_mul, Int.toNat_natCast, Int.toNat_natCast, eb (by omega)]
        refine ev_istore_n (np := 72) dX10_steady_71 (by decide) rfl ?_
        refine ev_iinc (np := 75) dX10_steady_72 rfl (by decide) rfl ?_
        refine ev_goto (np := 22) dX10_steady_75 (by decide) ?_
        exact ih (i + 1) (by omega) (Or.inl (by omega))
      · refine ev_bipush (np := 61) dX10_steady_59 (by decide) rfl ?_
        refine ev_goto (np := 70) dX10_steady_61 (by decide) ?_
        refine ev_iandm 4 (np := 71) dX10_steady_70 (by omega) rfl rfl ?_
        rw [show ((15 - (15 &&& (c ||| (s ^^^ fstS C) % 2 ^ i)) : Nat) : Int) % ((2 ^ 4 : Nat) : Int) = ((15 - (15 &&& (c ||| (s ^^^ fstS C) % 2 ^ (i + 1))) : Nat) : Int) by
          rw [ea (by omega), show ((2 ^ 4 : Nat) : Int) = 16 from rfl]; omega]
        refine ev_istore_n (np := 72) dX10_steady_71 (by decide) rfl ?_
        refine ev_iinc (np := 75) dX10_steady_72 rfl (by decide) rfl ?_
        refine ev_goto (np := 22) dX10_steady_75 (by decide) ?_
        exact ih (i + 1) (by omega) (Or.inl (by omega))
theorem std_out {b : Nat} {C : Circ} (hC : WF C) (hb : b ≤ 1) {σ : Sg} {N : Mem} (hI : InvM N σ) (hS : RefS N b C) {X : Nat} (hX : X < 65536) : ∀ (m s : Nat) (u : Option Val), s + m = 16 → Ev SM miX10_steady 12 [some (.inr (cX 0)), some (.inl (b : Int)), some (.inl ((15 - (15 &&& chg (tabOf C) X s) : Nat) : Int)), some (.inl (X : Int)), some (.inl (s : Int)), u] [] N (fun v N => v = some (.inl (15 - (15 &&& chg (tabOf C) X 16) : Nat)) ∧ InvM N σ) := by
  have hT := tabOf_wf hC
  intro m
  induction m with
  | zero =>
    intro s u hs
    refine ev_iload (np := 14) dX10_steady_12 rfl rfl ?_
    refine ev_bipush (np := 16) dX10_steady_14 (by decide) rfl ?_
    refine ev_icmp_ge (tgt := 84) (np := 19) dX10_steady_16 (by decide) rfl (by omega) (by omega) (fun _ => ?_) (fun h => absurd (by omega) h)
    refine ev_iload_n (np := 85) dX10_steady_84 rfl rfl ?_
    refine ev_iret dX10_steady_85 rfl ?_
    exact ⟨by rw [show s = 16 by omega], hI⟩
  | succ m ih =>
    intro s u hs
    have hl := chg_lt (X := X) hT s (by omega)
    refine ev_iload (np := 14) dX10_steady_12 rfl rfl ?_
    refine ev_bipush (np := 16) dX10_steady_14 (by decide) rfl ?_
    refine ev_icmp_ge (tgt := 84) (np := 19) dX10_steady_16 (by decide) rfl (by omega) (by omega) (fun h => absurd h (by omega)) (fun _ => ?_)
    refine ev_iconst (np := 20) dX10_steady_19 rfl ?_
    refine ev_istore (np := 22) dX10_steady_20 (by decide) rfl ?_
    have := std_in (Q := (fun v N => v = some (.inl (15 - (15 &&& chg (tabOf C) X 16) : Nat)) ∧ InvM N σ)) hC hb hS hX (show s < 16 by omega) hl ?_ 4 0 rfl (Or.inr rfl)
    · rw [show (s ^^^ fstS C) % 2 ^ 0 = 0 from Nat.mod_one _, Nat.or_zero] at this
      exact this
    · intro u2
      refine ev_iinc (np := 81) dX10_steady_78 rfl (by decide) rfl ?_
      refine ev_goto (np := 12) dX10_steady_81 (by decide) ?_
      exact ih (s + 1) _ (by omega)
theorem sem_msteady {M : Mem} {b : Nat} {C : Circ} (hC : WF C) (hb : b ≤ 1) {σ : Sg} (sl : ∀ N, InvM N σ → RefS N b C) (hI : InvM M σ) : Sem SM miX10_steady [.inr (cX 0), .inl (b : Int)] M (fun v N => v = some (.inl (15 - (15 &&& chg (tabOf C) (sct (tabOf C) 16) 16) : Nat)) ∧ InvM N σ) := by
  refine Sem.of (by decide) SM_ok (Nat.le_of_ble_eq_true rfl) (ls0 := [some (.inr (cX 0)), some (.inl (b : Int)), none, none, none, none]) rfl ?_
  refine ev_bipush (np := 2) dX10_steady_0 (by decide) rfl ?_
  refine ev_istore_n (np := 3) dX10_steady_2 (by decide) rfl ?_
  refine ev_aload_n (np := 4) dX10_steady_3 rfl rfl ?_
  refine ev_iload_n (np := 5) dX10_steady_4 rfl rfl ?_
  refine ev_V1 (np := 8) moX10_comesTo sX10_steady_5 (sem_mcomes (P := fun N => InvM N σ) hC hb sl (fun N N' h f => h.scr (f.le (by decide))) hI ) rfl rfl (Nat.le_of_ble_eq_true rfl) rfl (fun v N hq => ?_)
  obtain ⟨rfl, hI2⟩ := hq
  refine ev_istore_n (np := 9) dX10_steady_8 (by decide) rfl ?_
  refine ev_iconst (np := 10) dX10_steady_9 rfl ?_
  refine ev_istore (np := 12) dX10_steady_10 (by decide) rfl ?_
  have h := std_out hC hb hI2 (sl N hI2) (sct_lt (tabOf_wf hC) 16) 16 0 none rfl
  have e0 : chg (tabOf C) (sct (tabOf C) 16) 0 = 0 := rfl
  rw [e0] at h
  exact h
-- gates on which the output depends
theorem dep_high {C : Circ} : ∀ (d f : Nat), f < 2 ^ cn C → depS C (cn C + d) f = depS C (cn C) f
  | 0, _, _ => rfl
  | d + 1, f, hf => by
    show depS C (cn C + d) (if bt f (cn C + d) = 1 then _ else f) = _
    rw [if_neg (by rw [bt_high hf (by omega)]; decide)]
    exact dep_high d f hf
theorem bt_gw {n w j : Nat} (hj : j < n) : bt (gw n w) j = 1 ↔ bt (2 ^ w) (6 + j) = 1 := by
  rw [bt_p2]
  unfold gw
  split
  · next h => rw [bt_p2]; omega
  · next h => rw [bt_0]; omega
theorem mdep_loop {b : Nat} {C : Circ} (hC : WF C) (hb : b ≤ 1) {N : Mem} (hS : RefS N b C) : ∀ (g f X : Nat) (u : Option Val), g ≤ cn C → f < 2 ^ cn C → X < 65536 → (∀ j, j < cn C → (bt f j = 1 ↔ bt X (6 + j) = 1)) → Ev SM miX10_depends 18 [some (.inr (cX 0)), some (.inl (b : Int)), some (.inl (X : Int)), some (.inl ((g : Int) - 1)), u] [] N (Ri (depS C g f : Nat) N) := by
  have hn := hC.1
  have p28 : 2 ^ cn C ≤ 2 ^ 8 := Nat.pow_le_pow_right (by decide) hn
  intro g
  induction g with
  | zero =>
    intro f X u hg hf hX hr
    refine ev_iload_n (np := 19) dX10_depends_18 rfl rfl ?_
    refine ev_if_lt (tgt := 91) (np := 22) dX10_depends_19 (by decide) rfl (by omega) (fun _ => ?_) (fun h => absurd (by omega) h)
    refine ev_iload_n (np := 92) dX10_depends_91 rfl rfl ?_
    refine ev_bipush (np := 94) dX10_depends_92 (by decide) rfl ?_
    refine ev_ishr (np := 95) dX10_depends_94 (by omega) (by omega) rfl ?_
    refine ev_iconst (np := 96) dX10_depends_95 rfl ?_
    refine ev_aload_n (np := 97) dX10_depends_96 rfl rfl ?_
    refine ev_iload_n (np := 98) dX10_depends_97 rfl rfl ?_
    refine ev_iconst (np := 99) dX10_depends_98 rfl ?_
    refine ev_Vi2 (np := 102) moX10_of sX10_depends_99 (sem_of (b := (b : Int)) (i := 0) (by omega) (by omega)) rfl rfl (Nat.le_of_ble_eq_true rfl) rfl ?_
    rw [Int.toNat_natCast, show N (cX 1) (34 * b + (0 : Int).toNat) = (cn C : Int) from hS.1]
    refine ev_ishl (np := 103) dX10_depends_102 (by omega) rfl ?_
    refine ev_iconst (np := 104) dX10_depends_103 rfl ?_
    refine ev_isub (np := 105) dX10_depends_104 rfl ?_
    have hcm : (1:Int) * ((2 ^ (cn C : Int).toNat : Nat) : Int) - 1 = ((2 ^ cn C - 1 : Nat) : Int) := by rw [Int.toNat_natCast, Int.one_mul]; have := Nat.two_pow_pos (cn C); omega
    refine ev_iandm _ (np := 106) dX10_depends_105 (by omega) hcm rfl ?_
    refine ev_iret dX10_depends_106 rfl ?_
    refine ⟨?_, rfl⟩
    congr 2
    rw [show ((2 ^ (6 : Int).toNat : Nat) : Int) = ((64 : Nat) : Int) from rfl, ← Int.natCast_ediv, ← Int.natCast_emod]
    congr 1
    show X / 64 % 2 ^ cn C = f
    apply Nat.eq_of_testBit_eq
    intro i
    rw [Nat.testBit_mod_two_pow, show X / 64 = X / 2 ^ 6 from rfl, Nat.testBit_div_two_pow]
    by_cases hi : i < cn C
    · have := hr i hi
      rw [bt_tb, bt_tb] at this
      rw [Nat.add_comm 6 i] at this
      cases h1 : f.testBit i <;> cases h2 : X.testBit (i + 6) <;> simp_all
    · have hp : 2 ^ cn C ≤ 2 ^ i := Nat.pow_le_pow_right (by decide) (by omega)
      rw [Nat.testBit_lt_two_pow (x := f) (by omega)]
      simp [hi]
  | succ g ih =>
    intro f X u hg hf hX hr
    have hgn : g < cn C := by omega
    obtain ⟨k1, k2, k3⟩ := hC.2.2.2 g hgn
    have l2 := k2.lt (by omega)
    have l3 := k3.lt (by omega)
    obtain ⟨e1, e2, e3⟩ := hS.2.2.2 g hgn
    have hb1 := bt_lt X (6 + g)
    have g1 := gw_lt (n := cn C) (w := cf C g)
    have g2 := gw_lt (n := cn C) (w := cs C g)
    have o1 : f ||| gw (cn C) (cf C g) < 2 ^ cn C := Nat.or_lt_two_pow hf g1
    have o2 : (f ||| gw (cn C) (cf C g)) ||| gw (cn C) (cs C g) < 2 ^ cn C := Nat.or_lt_two_pow o1 g2
    have x1 : X ||| 2 ^ cf C g < 65536 := Nat.or_lt_two_pow (n := 16) hX (p2_lt l2)
    have x2 : (X ||| 2 ^ cf C g) ||| 2 ^ cs C g < 65536 := Nat.or_lt_two_pow (n := 16) x1 (p2_lt l3)
    have r1 : ∀ j, j < cn C → (bt (f ||| gw (cn C) (cf C g)) j = 1 ↔ bt (X ||| 2 ^ cf C g) (6 + j) = 1) := fun j hj => by rw [bt_or, bt_or, hr j hj, bt_gw hj]
    have r2 : ∀ j, j < cn C → (bt ((f ||| gw (cn C) (cf C g)) ||| gw (cn C) (cs C g)) j = 1 ↔ bt ((X ||| 2 ^ cf C g) ||| 2 ^ cs C g) (6 + j) = 1) := fun j hj => by rw [bt_or, bt_or (X ||| 2 ^ cf C g), r1 j hj, bt_gw hj]
    rw [show ((g + 1 : Nat) : Int) - 1 = (g : Int) by omega]
    refine ev_iload_n (np := 19) dX10_depends_18 rfl rfl ?_
    refine ev_if_lt (tgt := 91) (np := 22) dX10_depends_19 (by decide) rfl (by omega) (fun h => absurd h (by omega)) (fun _ => ?_)
    refine ev_bipush (np := 24) dX10_depends_22 (by decide) rfl ?_
    refine ev_iconst (np := 25) dX10_depends_24 rfl ?_
    refine ev_iload_n (np := 26) dX10_depends_25 rfl rfl ?_
    refine ev_imul (np := 27) dX10_depends_26 rfl ?_
    refine ev_iadd (np := 28) dX10_depends_27 rfl ?_
    refine ev_istore (np := 30) dX10_depends_28 (by decide) rfl ?_
    refine ev_iload_n (np := 31) dX10_depends_30 rfl rfl ?_
    refine ev_bipush (np := 33) dX10_depends_31 (by decide) rfl ?_
    refine ev_iload_n (np := 34) dX10_depends_33 rfl rfl ?_
    refine ev_iadd (np := 35) dX10_depends_34 rfl ?_
    refine ev_ishr (np := 36) dX10_depends_35 (by omega) (by omega) rfl ?_
    refine ev_iconst (np := 37) dX10_depends_36 rfl ?_
    refine ev_iandm 1 (np := 38) dX10_depends_37 (by omega) rfl rfl ?_
    rw [show ((6 : Int) + (g : Int)) = ((6 + g : Nat) : Int) by omega, shr1]
    refine ev_iconst (np := 39) dX10_depends_38 rfl ?_
    have hq := hr g hgn
    unfold depS
    refine ev_icmp_ne (tgt := 85) (np := 42) dX10_depends_39 (by decide) rfl (by omega) (by omega) (fun h1 => ?_) (fun h1 => ?_)
    · rw [if_neg (by omega)]
      refine ev_iinc (np := 88) dX10_depends_85 rfl (by decide) rfl ?_
      refine ev_goto (np := 18) dX10_depends_88 (by decide) ?_
      exact ih f X _ (by omega) hf hX hr
    · rw [if_pos (by omega)]
      refine ev_iload_n (np := 43) dX10_depends_42 rfl rfl ?_
      refine ev_iconst (np := 44) dX10_depends_43 rfl ?_
      refine ev_aload_n (np := 45) dX10_depends_44 rfl rfl ?_
      refine ev_iload_n (np := 46) dX10_depends_45 rfl rfl ?_
      refine ev_iload (np := 48) dX10_depends_46 rfl rfl ?_
      refine ev_iconst (np := 49) dX10_depends_48 rfl ?_
      refine ev_iadd (np := 50) dX10_depends_49 rfl ?_
      refine ev_Vi2 (np := 53) moX10_of sX10_depends_50 (sem_of (b := (b : Int)) (i := 10 + 3 * (g : Int) + 1) (by omega) (by omega)) rfl rfl (Nat.le_of_ble_eq_true rfl) rfl ?_
      rw [Int.toNat_natCast, show ((10 : Int) + 3 * (g : Int) + 1).toNat = 10 + 3 * g + 1 by omega, show N (cX 1) (34 * b + (10 + 3 * g + 1)) = (cf C g : Int) from e2]
      refine ev_ishl (np := 54) dX10_depends_53 (by omega) rfl ?_
      refine ev_ior (np := 55) dX10_depends_54 (by omega) (Int.mul_nonneg (by omega) (Int.natCast_nonneg _)) rfl ?_
      rw [Int.toNat_natCast (cf C g), Int.one_mul, Int.toNat_natCast, Int.toNat_natCast]
      refine ev_istore_n (np := 56) dX10_depends_55 (by decide) rfl ?_
      refine ev_iload_n (np := 57) dX10_depends_56 rfl rfl ?_
      refine ev_aload_n (np := 58) dX10_depends_57 rfl rfl ?_
      refine ev_iload_n (np := 59) dX10_depends_58 rfl rfl ?_
      refine ev_iload (np := 61) dX10_depends_59 rfl rfl ?_
      refine ev_Vi2 (np := 64) moX10_of sX10_depends_61 (sem_of (b := (b : Int)) (i := 10 + 3 * (g : Int)) (by omega) (by omega)) rfl rfl (Nat.le_of_ble_eq_true rfl) rfl ?_
      rw [Int.toNat_natCast, show ((10 : Int) + 3 * (g : Int)).toNat = 10 + 3 * g by omega, show N (cX 1) (34 * b + (10 + 3 * g)) = (ck C g : Int) from e1]
      refine ev_iconst (np := 65) dX10_depends_64 rfl ?_
      refine ev_icmp_ge (tgt := 82) (np := 68) dX10_depends_65 (by decide) rfl (by omega) (by omega) (fun h2 => ?_) (fun h2 => ?_)
      · rw [if_neg (by omega)]
        refine ev_iconst (np := 83) dX10_depends_82 rfl ?_
        refine ev_ior (np := 84) dX10_depends_83 (by omega) (by omega) rfl ?_
        rw [Int.toNat_natCast, show (0 : Int).toNat = 0 from rfl, Nat.or_zero]
        refine ev_istore_n (np := 85) dX10_depends_84 (by decide) rfl ?_
        refine ev_iinc (np := 88) dX10_depends_85 rfl (by decide) rfl ?_
        refine ev_goto (np := 18) dX10_depends_88 (by decide) ?_
        exact ih _ _ _ (by omega) o1 x1 r1
      · rw [if_pos (by omega)]
        refine ev_iconst (np := 69) dX10_depends_68 rfl ?_
        refine ev_aload_n (np := 70) dX10_depends_69 rfl rfl ?_
        refine ev_iload_n (np := 71) dX10_depends_70 rfl rfl ?_
        refine ev_iload (np := 73) dX10_depends_71 rfl rfl ?_
        refine ev_iconst (np := 74) dX10_depends_73 rfl ?_
        refine ev_iadd (np := 75) dX10_depends_74 rfl ?_
        refine ev_Vi2 (np := 78) moX10_of sX10_depends_75 (sem_of (b := (b : Int)) (i := 10 + 3 * (g : Int) + 2) (by omega) (by omega)) rfl rfl (Nat.le_of_ble_eq_true rfl) rfl ?_
        rw [Int.toNat_natCast, show ((10 : Int) + 3 * (g : Int) + 2).toNat = 10 + 3 * g + 2 by omega, show N (cX 1) (34 * b + (10 + 3 * g + 2)) = (cs C g : Int) from e3]
        refine ev_ishl (np := 79) dX10_depends_78 (by omega) rfl ?_
        refine ev_goto (np := 83) dX10_depends_79 (by decide) ?_
        refine ev_ior (np := 84) dX10_depends_83 (by omega) (Int.mul_nonneg (by omega) (Int.natCast_nonneg _)) rfl ?_
        rw [Int.toNat_natCast (cs C g), Int.one_mul, Int.toNat_natCast, Int.toNat_natCast]
        refine ev_istore_n (np := 85) dX10_depends_84 (by decide) rfl ?_
        refine ev_iinc (np := 88) dX10_depends_85 rfl (by decide) rfl ?_
        refine ev_goto (np := 18) dX10_depends_88 (by decide) ?_
        exact ih _ _ _ (by omega) o2 x2 r2
theorem sem_mdepends {M : Mem} {b : Nat} {C : Circ} (hC : WF C) (hb : b ≤ 1) (hS : RefS M b C) : Sem SM miX10_depends [.inr (cX 0), .inl (b : Int)] M (Ri (depS C 8 (gw (cn C) (co C)) : Nat) M) := by
  refine Sem.of (by decide) SM_ok (Nat.le_of_ble_eq_true rfl) (ls0 := [some (.inr (cX 0)), some (.inl (b : Int)), none, none, none]) rfl ?_
  have hn := hC.1
  have ho := hC.2.1
  refine ev_iconst (np := 1) dX10_depends_0 rfl ?_
  refine ev_aload_n (np := 2) dX10_depends_1 rfl rfl ?_
  refine ev_iload_n (np := 3) dX10_depends_2 rfl rfl ?_
  refine ev_iconst (np := 4) dX10_depends_3 rfl ?_
  refine ev_Vi2 (np := 7) moX10_of sX10_depends_4 (sem_of (b := (b : Int)) (i := 1) (by omega) (by omega)) rfl rfl (Nat.le_of_ble_eq_true rfl) rfl ?_
  rw [Int.toNat_natCast, show M (cX 1) (34 * b + (1 : Int).toNat) = (co C : Int) from hS.2.1]
  refine ev_ishl (np := 8) dX10_depends_7 (by omega) rfl ?_
  refine ev_istore_n (np := 9) dX10_depends_8 (by decide) rfl ?_
  refine ev_aload_n (np := 10) dX10_depends_9 rfl rfl ?_
  refine ev_iload_n (np := 11) dX10_depends_10 rfl rfl ?_
  refine ev_iconst (np := 12) dX10_depends_11 rfl ?_
  refine ev_Vi2 (np := 15) moX10_of sX10_depends_12 (sem_of (b := (b : Int)) (i := 0) (by omega) (by omega)) rfl rfl (Nat.le_of_ble_eq_true rfl) rfl ?_
  rw [Int.toNat_natCast, Int.toNat_natCast, show M (cX 1) (34 * b + (0 : Int).toNat) = (cn C : Int) from hS.1, Int.one_mul]
  refine ev_iconst (np := 16) dX10_depends_15 rfl ?_
  refine ev_isub (np := 17) dX10_depends_16 rfl ?_
  refine ev_istore_n (np := 18) dX10_depends_17 (by decide) rfl ?_
  have e := dep_high (C := C) (8 - cn C) (gw (cn C) (co C)) gw_lt
  rw [show cn C + (8 - cn C) = 8 by omega] at e
  rw [e]
  exact mdep_loop hC hb hS (cn C) _ _ none (Nat.le_refl _) gw_lt (p2_lt ho) (fun j hj => bt_gw hj)
