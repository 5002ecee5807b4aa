def AlkT (M : Mem) (T : Tab) : Prop := ∃ u, UT M u ∧ ∀ s o, s < 16 → o < 16 → (bt (u s) o = 1 ↔ eqb T 16 s o = false)
def Fixd (T : Tab) (s : Nat) (u : Nat → Nat) : Prop := ∀ a o, a < s → o < 16 → (bt (u a) o = 1 ↔ unl T u a o)
theorem find_in {M : Mem} {t : Fin 3} {T : Tab} (hT : TWF T) (h : TabT M t T) {r : Nat} {Q : Option Val → Mem → Prop} {rr : Option Val}
    (K : ∀ (N : Mem) (u : Nat → Nat) (τ : Int) (v w : Option Val), (τ = 0 ∨ τ = 1) → UT N u → Fx (uX 21 22) M N → Rnd T r 16 u → (τ = 0 → Fixd T 16 u) → Ev ST miX0_findUnlike 83 [some (.inr (cX 19)), some (.inr (cT t 0)), some (.inl τ), rr, v, w] [] N Q) :
    ∀ (m s : Nat) (N : Mem) (u : Nat → Nat) (τ : Int) (w : Option Val), s + m = 16 → (τ = 0 ∨ τ = 1) → UT N u → Fx (uX 21 22) M N → Rnd T r s u → (τ = 0 → Fixd T s u) → Ev ST miX0_findUnlike 26 [some (.inr (cX 19)), some (.inr (cT t 0)), some (.inl τ), rr, some (.inl (s : Int)), w] [] N Q := by
  intro m
  induction m with
  | zero =>
    intro s N u τ w hs ht hu hf hr hfx
    refine ev_iload (np := 28) dX0_findUnlike_26 rfl rfl ?_
    refine ev_bipush (np := 30) dX0_findUnlike_28 (by decide) rfl ?_
    refine ev_icmp_ge (tgt := 83) (np := 33) dX0_findUnlike_30 (by decide) rfl (by omega) (by omega) (fun _ => ?_) (fun h => absurd (by omega) h)
    rw [show s = 16 by omega] at *
    exact K N u τ _ _ ht hu hf hr hfx
  | succ m ih =>
    intro s N u τ w hs ht hu hf hr hfx
    have hs16 : s < 16 := by omega
    have hN : TabT N t T := hf.tab (fun o => rfl) h
    obtain ⟨u1, u2⟩ := hu s hs16
    refine ev_iload (np := 28) dX0_findUnlike_26 rfl rfl ?_
    refine ev_bipush (np := 30) dX0_findUnlike_28 (by decide) rfl ?_
    refine ev_icmp_ge (tgt := 83) (np := 33) dX0_findUnlike_30 (by decide) rfl (by omega) (by omega) (fun h => absurd h (by omega)) (fun _ => ?_)
    refine ev_aload_n (np := 34) dX0_findUnlike_33 rfl rfl ?_
    refine ev_iload (np := 36) dX0_findUnlike_34 rfl rfl ?_
    refine ev_aload_n (np := 37) dX0_findUnlike_36 rfl rfl ?_
    refine ev_V2 (np := 40) moX0_unlikeTo sX0_findUnlike_37 (sem_unlikeTo hT hN hu hs16 ) rfl rfl (Nat.le_of_ble_eq_true rfl) rfl (fun v N2 hq => ?_)
    obtain ⟨rfl, X, rfl, hX, hX2⟩ := hq
    have up := hr.up hT hs16 hX2
    have uu := hu.upd (s := s) hX
    have rest : ∀ τ' : Int, (τ' = 0 ∨ τ' = 1) → (τ' = 0 → τ = 0 ∧ X = u s) → Ev ST miX0_findUnlike 65 [some (.inr (cX 19)), some (.inr (cT t 0)), some (.inl τ), rr, some (.inl (s : Int)), some (.inl (X : Int))] [.inl τ'] N2 Q := by
      intro τ' h1 h2
      refine ev_istore_n (np := 66) dX0_findUnlike_65 (by decide) rfl ?_
      refine ev_aload_n (np := 67) dX0_findUnlike_66 rfl rfl ?_
      refine ev_getR (np := 70) sX0_findUnlike_67 rfl rfl rfl ?_
      refine ev_iload (np := 72) dX0_findUnlike_70 rfl rfl ?_
      refine ev_iload (np := 74) dX0_findUnlike_72 rfl rfl ?_
      refine ev_Vv2 (np := 77) moX6_set sX0_findUnlike_74 (sem_set rowU N2 (by omega)) rfl rfl (Nat.le_of_ble_eq_true rfl) rfl ?_
      rw [Int.toNat_natCast]
      refine ev_iinc (np := 80) dX0_findUnlike_77 rfl (by decide) rfl ?_
      refine ev_goto (np := 26) dX0_findUnlike_80 (by decide) ?_
      refine ih (s + 1) _ _ τ' _ (by omega) h1 uu (hf.tr (Fx.upd (by simp [uX]))) up (fun h0 => ?_)
      obtain ⟨a, b⟩ := h2 h0
      have e : (fun a => if a = s then X else u a) = u := by
        funext a
        by_cases g : a = s
        · rw [if_pos g, g, b]
        · rw [if_neg g]
      rw [e]
      intro a' o ha ho
      by_cases g : a' = s
      · rw [g, ← b]; exact hX2 o ho
      · exact hfx a a' o (by omega) ho
    refine ev_istore (np := 42) dX0_findUnlike_40 (by decide) rfl ?_
    refine ev_iload_n (np := 43) dX0_findUnlike_42 rfl rfl ?_
    refine ev_if_ne (tgt := 60) (np := 46) dX0_findUnlike_43 (by decide) rfl (by omega) (fun h1 => ?_) (fun h1 => ?_)
    · refine ev_iconst (np := 61) dX0_findUnlike_60 rfl ?_
      refine ev_goto (np := 65) dX0_findUnlike_61 (by decide) ?_
      exact rest 1 (Or.inr rfl) (fun h => absurd h (by decide))
    · refine ev_iload (np := 48) dX0_findUnlike_46 rfl rfl ?_
      refine ev_aload_n (np := 49) dX0_findUnlike_48 rfl rfl ?_
      refine ev_getR (np := 52) sX0_findUnlike_49 rfl rfl rfl ?_
      refine ev_iload (np := 54) dX0_findUnlike_52 rfl rfl ?_
      refine ev_Vi1 (np := 57) moX6_get sX0_findUnlike_54 (sem_get rowU N2 (by omega)) rfl rfl (Nat.le_of_ble_eq_true rfl) rfl ?_
      rw [Int.toNat_natCast, u1]
      refine ev_icmp_eq (tgt := 64) (np := 60) dX0_findUnlike_57 (by decide) rfl (by omega) (by omega) (fun h2 => ?_) (fun h2 => ?_)
      · refine ev_iconst (np := 65) dX0_findUnlike_64 rfl ?_
        exact rest 0 (Or.inl rfl) (fun _ => ⟨by omega, by omega⟩)
      · refine ev_iconst (np := 61) dX0_findUnlike_60 rfl ?_
        refine ev_goto (np := 65) dX0_findUnlike_61 (by decide) ?_
        exact rest 1 (Or.inr rfl) (fun h => absurd h (by decide))
theorem find_out {M : Mem} {t : Fin 3} {T : Tab} (hT : TWF T) (h : TabT M t T) : ∀ (m r : Nat) (N : Mem) (u : Nat → Nat) (τ : Int) (v w : Option Val), r + m = 16 → (τ = 0 ∨ τ = 1) → UT N u → Fx (uX 21 22) M N → Rnd T r 0 u → (τ = 0 → Fixd T 16 u) → Ev ST miX0_findUnlike 11 [some (.inr (cX 19)), some (.inr (cT t 0)), some (.inl τ), some (.inl (r : Int)), v, w] [] N (fun v N => v = none ∧ AlkT N T ∧ Fx (uX 21 22) M N) := by
  have fx : ∀ u : Nat → Nat, uSnd T u → Fixd T 16 u → ∀ s o, s < 16 → o < 16 → (bt (u s) o = 1 ↔ eqb T 16 s o = false) := by
    intro u h1 h2 s o hs ho
    refine ⟨h1 s o hs ho, fun e => Classical.byContradiction (fun g => ?_)⟩
    have := unl_fix hT (fun a o ha ho => h2 a o ha ho) 16 s o hs ho g
    rw [e] at this
    cases this
  intro m
  induction m with
  | zero =>
    intro r N u τ v w hr ht hu hf hR hfx
    refine ev_iload_n (np := 12) dX0_findUnlike_11 rfl rfl ?_
    refine ev_bipush (np := 14) dX0_findUnlike_12 (by decide) rfl ?_
    refine ev_icmp_ge (tgt := 89) (np := 17) dX0_findUnlike_14 (by decide) rfl (by omega) (by omega) (fun _ => ?_) (fun h => absurd (by omega) h)
    refine ev_vret dX0_findUnlike_89 rfl ?_
    refine ⟨rfl, ⟨u, hu, fun s o hs ho => ⟨hR.1 s o hs ho, fun e => ?_⟩⟩, hf⟩
    exact hR.2.1 s hs o ho (by rw [show r = 16 by omega]; exact e)
  | succ m ih =>
    intro r N u τ v w hr ht hu hf hR hfx
    refine ev_iload_n (np := 12) dX0_findUnlike_11 rfl rfl ?_
    refine ev_bipush (np := 14) dX0_findUnlike_12 (by decide) rfl ?_
    refine ev_icmp_ge (tgt := 89) (np := 17) dX0_findUnlike_14 (by decide) rfl (by omega) (by omega) (fun h => absurd h (by omega)) (fun _ => ?_)
    refine ev_iload_n (np := 18) dX0_findUnlike_17 rfl rfl ?_
    refine ev_if_eq (tgt := 89) (np := 21) dX0_findUnlike_18 (by decide) rfl (by omega) (fun h1 => ?_) (fun h1 => ?_)
    · refine ev_vret dX0_findUnlike_89 rfl ?_
      exact ⟨rfl, ⟨u, hu, fx u hR.1 (hfx h1)⟩, hf⟩
    · refine ev_iconst (np := 22) dX0_findUnlike_21 rfl ?_
      refine ev_istore_n (np := 23) dX0_findUnlike_22 (by decide) rfl ?_
      refine ev_iconst (np := 24) dX0_findUnlike_23 rfl ?_
      refine ev_istore (np := 26) dX0_findUnlike_24 (by decide) rfl ?_
      refine find_in hT h (r := r) ?_ 16 0 N u 0 _ rfl (Or.inl rfl) hu hf hR (fun _ a o ha => absurd ha (Nat.not_lt_zero a))
      intro N2 u2 τ2 v2 w2 ht2 hu2 hf2 hR2 hfx2
      refine ev_iinc (np := 86) dX0_findUnlike_83 rfl (by decide) rfl ?_
      refine ev_goto (np := 11) dX0_findUnlike_86 (by decide) ?_
      exact ih (r + 1) N2 u2 τ2 _ _ (by omega) ht2 hu2 hf2 ⟨hR2.1, fun a ha => hR2.2.2 a ha, fun a ha => absurd ha (Nat.not_lt_zero a)⟩ hfx2
theorem sem_findUnlike {M : Mem} {t : Fin 3} {T : Tab} (hT : TWF T) (h : TabT M t T) : Sem ST miX0_findUnlike [.inr (cX 19), .inr (cT t 0)] M (fun v N => v = none ∧ AlkT N T ∧ Fx (uX 21 22) M N) := by
  refine Sem.of (by decide) ST_ok (Nat.le_of_ble_eq_true rfl) (ls0 := [some (.inr (cX 19)), some (.inr (cT t 0)), none, none, none, none]) rfl ?_
  refine ev_aload_n (np := 1) dX0_findUnlike_0 rfl rfl ?_
  refine ev_getR (np := 4) sX0_findUnlike_1 rfl rfl rfl ?_
  refine ev_Vv0 (np := 7) moX6_clear sX0_findUnlike_4 (sem_clear rowU M) rfl rfl (Nat.le_of_ble_eq_true rfl) rfl ?_
  refine ev_iconst (np := 8) dX0_findUnlike_7 rfl ?_
  refine ev_istore_n (np := 9) dX0_findUnlike_8 (by decide) rfl ?_
  refine ev_iconst (np := 10) dX0_findUnlike_9 rfl ?_
  refine ev_istore_n (np := 11) dX0_findUnlike_10 (by decide) rfl ?_
  refine find_out hT h 16 0 _ (fun _ => 0) 1 _ _ rfl (Or.inr rfl) (fun s hs => ⟨?_, (by decide : (0 : Nat) < 65536)⟩) (fun c hc => ?_) ⟨fun s o _ _ e => ?_, fun a _ o _ e => ?_, fun a ha => absurd ha (Nat.not_lt_zero a)⟩ (fun e => absurd e (by decide))
  · unfold fillM; rw [if_pos ⟨rfl, by omega, by omega⟩]; rfl
  · funext j
    unfold fillM
    rw [if_neg]
    rintro ⟨e, -⟩
    rw [e] at hc
    simp [uX] at hc
  · rw [bt_0] at e; cases e
  · exact absurd e (by simp [eqb])
theorem cnt_lt (p : Nat → Bool) {n : Nat} (h : n ≤ 16) : cnt p n < 17 := by have := cnt_le p n; omega
theorem add_or {x y : Nat} (hx : x < 65536) (hy : y < 65536) (h : x &&& y = 0) : x + y = x ||| y := by
  have h1 := BitVec.add_eq_or_of_and_eq_zero (BitVec.ofNat 17 x) (BitVec.ofNat 17 y) (by
    apply BitVec.eq_of_toNat_eq
    rw [BitVec.toNat_and, BitVec.toNat_ofNat, BitVec.toNat_ofNat, Nat.mod_eq_of_lt (by omega), Nat.mod_eq_of_lt (by omega), h]
    rfl)
  have h2 := congrArg BitVec.toNat h1
  have h3 : x ||| y < 2 ^ 16 := Nat.or_lt_two_pow hx hy
  rw [BitVec.toNat_add, BitVec.toNat_or, BitVec.toNat_ofNat, BitVec.toNat_ofNat, Nat.mod_eq_of_lt (a := x) (by omega), Nat.mod_eq_of_lt (a := y) (by omega), Nat.mod_eq_of_lt (by omega)] at h2
  exact h2
theorem sub_and {X U : Nat} (hX : X < 65536) : X - (X &&& U) = X ^^^ (X &&& U) := by
  have hle : X &&& U ≤ X := Nat.and_le_left
  have h1 : X = (X ^^^ (X &&& U)) + (X &&& U) := by
    rw [add_or (Nat.xor_lt_two_pow (n := 16) hX (by omega)) (by omega)]
    · apply Nat.eq_of_testBit_eq
      intro i
      simp only [Nat.testBit_or, Nat.testBit_and, Nat.testBit_xor]
      cases X.testBit i <;> cases U.testBit i <;> rfl
    · apply Nat.eq_of_testBit_eq
      intro i
      simp only [Nat.testBit_and, Nat.testBit_xor, Nat.zero_testBit]
      cases X.testBit i <;> cases U.testBit i <;> rfl
  omega
/-- x & ~u & (2^s - 1) = 0: no lesser state of x is outside u -/
theorem lesser_iff {X U s : Nat} (hX : X < 65536) : (X - (X &&& U)) % 2 ^ s = 0 ↔ ∀ o, o < s → bt X o = 1 → bt U o = 1 := by
  have e := sub_and (U := U) hX
  rw [e]
  constructor
  · intro h o ho hx
    have := congrArg (fun n => n.testBit o) h
    simp only [Nat.testBit_mod_two_pow, Nat.zero_testBit, Nat.testBit_xor, Nat.testBit_and, ho, decide_true, Bool.true_and] at this
    rw [bt_tb] at hx ⊢
    cases hX : X.testBit o <;> cases hU : U.testBit o <;> simp_all
  · intro h
    apply Nat.eq_of_testBit_eq
    intro i
    simp only [Nat.testBit_mod_two_pow, Nat.zero_testBit, Nat.testBit_xor, Nat.testBit_and]
    by_cases hi : i < s
    · have := h i hi
      rw [bt_tb, bt_tb] at this
      cases hX : X.testBit i <;> cases hU : U.testBit i <;> simp_all
    · simp [hi]
theorem cls_loop {N : Mem} {T : Tab} (hA : AlkT N T) {X : Nat} (hX : X < 65536) : ∀ (m s : Nat) (w : Option Val), s + m = 16 → Ev ST miX0_classesAmong 4 [some (.inr (cX 19)), some (.inl (X : Int)), some (.inl ((cnt (clsP T X) s : Nat) : Int)), some (.inl (s : Int)), w] [] N (Ri (clsS T X : Nat) N) := by
  intro m
  induction m with
  | zero =>
    intro s w hs
    have := cnt_lt (clsP T X) (n := s) (by omega)
    refine ev_iload_n (np := 5) dX0_classesAmong_4 rfl rfl ?_
    refine ev_bipush (np := 7) dX0_classesAmong_5 (by decide) rfl ?_
    refine ev_icmp_ge (tgt := 53) (np := 10) dX0_classesAmong_7 (by decide) rfl (by omega) (by omega) (fun _ => ?_) (fun h => absurd (by omega) h)
    refine ev_iload_n (np := 54) dX0_classesAmong_53 rfl rfl ?_
    refine ev_iret dX0_classesAmong_54 rfl ?_
    exact ⟨by rw [show s = 16 by omega]; rfl, rfl⟩
  | succ m ih =>
    intro s w hs
    have hc := cnt_lt (clsP T X) (n := s) (by omega)
    obtain ⟨u, hu, hA2⟩ := id hA
    have hs16 : s < 16 := by omega
    obtain ⟨u1, u2⟩ := hu s hs16
    have hb := bt_lt X s
    have hle : X - (X &&& u s) ≤ X := Nat.sub_le _ _
    have nx : ∀ (w : Option Val) (c : Nat), c = (if clsP T X s = true then 1 else 0) → Ev ST miX0_classesAmong 47 [some (.inr (cX 19)), some (.inl (X : Int)), some (.inl ((cnt (clsP T X) s + c : Nat) : Int)), some (.inl (s : Int)), w] [] N (Ri (clsS T X : Nat) N) := by
      intro w c hc2
      refine ev_iinc (np := 50) dX0_classesAmong_47 rfl (by decide) rfl ?_
      refine ev_goto (np := 4) dX0_classesAmong_50 (by decide) ?_
      have := ih (s + 1) w (by omega)
      rw [show cnt (clsP T X) (s + 1) = cnt (clsP T X) s + c by rw [hc2]; rfl] at this
      exact this
    refine ev_iload_n (np := 5) dX0_classesAmong_4 rfl rfl ?_
    refine ev_bipush (np := 7) dX0_classesAmong_5 (by decide) rfl ?_
    refine ev_icmp_ge (tgt := 53) (np := 10) dX0_classesAmong_7 (by decide) rfl (by omega) (by omega) (fun h => absurd h (by omega)) (fun _ => ?_)
    refine ev_iload_n (np := 11) dX0_classesAmong_10 rfl rfl ?_
    refine ev_aload_n (np := 12) dX0_classesAmong_11 rfl rfl ?_
    refine ev_getR (np := 15) sX0_classesAmong_12 rfl rfl rfl ?_
    refine ev_iload_n (np := 16) dX0_classesAmong_15 rfl rfl ?_
    refine ev_Vi1 (np := 19) moX6_get sX0_classesAmong_16 (sem_get rowU N (by omega)) rfl rfl (Nat.le_of_ble_eq_true rfl) rfl ?_
    rw [Int.toNat_natCast, u1]
    refine ev_iconst (np := 20) dX0_classesAmong_19 rfl ?_
    refine ev_inot (np := 21) dX0_classesAmong_20 rfl ?_
    refine ev_iandn (np := 22) dX0_classesAmong_21 (by omega) (by omega) rfl ?_
    rw [Int.toNat_natCast, Int.toNat_natCast]
    refine ev_iconst (np := 23) dX0_classesAmong_22 rfl ?_
    refine ev_iload_n (np := 24) dX0_classesAmong_23 rfl rfl ?_
    refine ev_ishl (np := 25) dX0_classesAmong_24 (by omega) rfl ?_
    refine ev_iconst (np := 26) dX0_classesAmong_25 rfl ?_
    refine ev_isub (np := 27) dX0_classesAmong_26 rfl ?_
    refine ev_iandm s (np := 28) dX0_classesAmong_27 (by omega) (by rw [Int.toNat_natCast, Int.one_mul]; have := Nat.two_pow_pos s; omega) rfl ?_
    refine ev_istore (np := 30) dX0_classesAmong_28 (by decide) rfl ?_
    refine ev_iload_n (np := 31) dX0_classesAmong_30 rfl rfl ?_
    refine ev_iload_n (np := 32) dX0_classesAmong_31 rfl rfl ?_
    refine ev_Ni2 (np := 35) moX9_bitOf sX0_classesAmong_32 (sem_bit N (b := X) (p := s) (by omega) (by omega)) (Nat.le_of_ble_eq_true rfl) rfl ?_
    have key : (((X - (X &&& u s) : Nat) : Int) % ((2 ^ s : Nat) : Int) = 0) ↔ ∀ o, o < s → bt X o = 1 → eqb T 16 s o = false := by
      rw [← Int.natCast_emod]
      have h1 := lesser_iff (U := u s) (s := s) hX
      constructor
      · intro h o ho hx
        exact (hA2 s o hs16 (by omega)).mp (h1.mp (by omega) o ho hx)
      · intro h
        have := h1.mpr (fun o ho hx => (hA2 s o hs16 (by omega)).mpr (h o ho hx))
        omega
    have hm : 0 ≤ ((X - (X &&& u s) : Nat) : Int) % ((2 ^ s : Nat) : Int) ∧ ((X - (X &&& u s) : Nat) : Int) % ((2 ^ s : Nat) : Int) < 65536 := by
      rw [← Int.natCast_emod]
      have := Nat.mod_le (X - (X &&& u s)) (2 ^ s)
      omega
    generalize ((X - (X &&& u s) : Nat) : Int) % ((2 ^ s : Nat) : Int) = lm at key hm ⊢
    refine ev_iconst (np := 36) dX0_classesAmong_35 rfl ?_
    refine ev_icmp_ne (tgt := 47) (np := 39) dX0_classesAmong_36 (by decide) rfl (by omega) (by omega) (fun h1 => ?_) (fun h1 => ?_)
    · refine nx _ 0 ?_
      rw [if_neg]
      intro g
      exact h1 (by have := (clsP_iff.mp g).1; omega)
    · refine ev_iload (np := 41) dX0_classesAmong_39 rfl rfl ?_
      refine ev_if_ne (tgt := 47) (np := 44) dX0_classesAmong_41 (by decide) rfl (by omega) (fun h2 => ?_) (fun h2 => ?_)
      · refine nx _ 0 ?_
        rw [if_neg]
        intro g
        exact h2 (key.mpr (clsP_iff.mp g).2)
      · refine ev_iinc (np := 47) dX0_classesAmong_44 rfl (by decide) rfl ?_
        refine nx _ 1 ?_
        rw [if_pos (clsP_iff.mpr ⟨by omega, key.mp h2⟩)]
theorem sem_classesAmong {N : Mem} {T : Tab} (hA : AlkT N T) {X : Nat} (hX : X < 65536) : Sem ST miX0_classesAmong [.inr (cX 19), .inl (X : Int)] N (Ri (clsS T X : Nat) N) := by
  refine Sem.of (by decide) ST_ok (Nat.le_of_ble_eq_true rfl) (ls0 := [some (.inr (cX 19)), some (.inl (X : Int)), none, none, none]) rfl ?_
  refine ev_iconst (np := 1) dX0_classesAmong_0 rfl ?_
  refine ev_istore_n (np := 2) dX0_classesAmong_1 (by decide) rfl ?_
  refine ev_iconst (np := 3) dX0_classesAmong_2 rfl ?_
  refine ev_istore_n (np := 4) dX0_classesAmong_3 (by decide) rfl ?_
  exact cls_loop hA hX 16 0 none rfl
