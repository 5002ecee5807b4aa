/-! ALIKE STATES, in the class -/
def UT (M : Mem) (u : Nat → Nat) : Prop := ∀ s, s < 16 → M (cX 21) s = (u s : Int) ∧ u s < 65536
theorem rowU : IsRow (cX 20) (cX 21) 16 := ⟨rfl, rfl, by decide⟩
def ldP (T : Tab) (u : Nat → Nat) (s o i : Nat) : Prop := bt (u (T.1 s i)) (T.1 o i) = 1
theorem lead_loop {M : Mem} {t : Fin 3} {T : Tab} (hT : TWF T) (h : TabT M t T) {u : Nat → Nat} (hu : UT M u) {s o : Nat} (hs : s < 16) (ho : o < 16) : ∀ (m i : Nat) (v w : Option Val), i + m = 4 → (∀ j, j < i → ¬ ldP T u s o j) → Ev ST miX0_leadToUnlike 6 [some (.inr (cX 19)), some (.inl (s : Int)), some (.inl (o : Int)), some (.inr (cT t 0)), some (.inl 0), some (.inl (i : Int)), v, w] [] M (fun v N => N = M ∧ ((v = some (.inl 1) ∧ ∃ i, i < 4 ∧ ldP T u s o i) ∨ (v = some (.inl 0) ∧ ¬ ∃ i, i < 4 ∧ ldP T u s o i))) := by
  intro m
  induction m with
  | zero =>
    intro i v w hi hn
    refine ev_iload (np := 8) dX0_leadToUnlike_6 rfl rfl ?_
    refine ev_iconst (np := 9) dX0_leadToUnlike_8 rfl ?_
    refine ev_icmp_ge (tgt := 66) (np := 12) dX0_leadToUnlike_9 (by decide) rfl (by omega) (by omega) (fun _ => ?_) (fun h => absurd (by omega) h)
    refine ev_iload (np := 68) dX0_leadToUnlike_66 rfl rfl ?_
    refine ev_zret dX0_leadToUnlike_68 rfl (by first | exact Or.inl rfl | exact Or.inr rfl | omega) ?_
    exact ⟨rfl, Or.inr ⟨rfl, fun ⟨j, h1, h2⟩ => hn j (by omega) h2⟩⟩
  | succ m ih =>
    intro i v w hi hn
    have x1 := hT.1 s i
    have x2 := hT.1 o i
    obtain ⟨u1, u2⟩ := hu (T.1 s i) x1
    have hb := bt_lt (u (T.1 s i)) (T.1 o i)
    refine ev_iload (np := 8) dX0_leadToUnlike_6 rfl rfl ?_
    refine ev_iconst (np := 9) dX0_leadToUnlike_8 rfl ?_
    refine ev_icmp_ge (tgt := 66) (np := 12) dX0_leadToUnlike_9 (by decide) rfl (by omega) (by omega) (fun h => absurd h (by omega)) (fun _ => ?_)
    refine ev_iload (np := 14) dX0_leadToUnlike_12 rfl rfl ?_
    refine ev_if_ne (tgt := 66) (np := 17) dX0_leadToUnlike_14 (by decide) rfl (by omega) (fun h => absurd (by omega) h) (fun _ => ?_)
    refine ev_aload_n (np := 18) dX0_leadToUnlike_17 rfl rfl ?_
    refine ev_iload_n (np := 19) dX0_leadToUnlike_18 rfl rfl ?_
    refine ev_iload (np := 21) dX0_leadToUnlike_19 rfl rfl ?_
    refine ev_Vi2 (np := 24) moX7_stateBehind sX0_leadToUnlike_21 (sem_tBehind h hs (i := i) (by omega)) rfl rfl (Nat.le_of_ble_eq_true rfl) rfl ?_
    refine ev_istore (np := 26) dX0_leadToUnlike_24 (by decide) rfl ?_
    refine ev_aload_n (np := 27) dX0_leadToUnlike_26 rfl rfl ?_
    refine ev_iload_n (np := 28) dX0_leadToUnlike_27 rfl rfl ?_
    refine ev_iload (np := 30) dX0_leadToUnlike_28 rfl rfl ?_
    refine ev_Vi2 (np := 33) moX7_stateBehind sX0_leadToUnlike_30 (sem_tBehind h ho (i := i) (by omega)) rfl rfl (Nat.le_of_ble_eq_true rfl) rfl ?_
    refine ev_istore (np := 35) dX0_leadToUnlike_33 (by decide) rfl ?_
    refine ev_aload_n (np := 36) dX0_leadToUnlike_35 rfl rfl ?_
    refine ev_getR (np := 39) sX0_leadToUnlike_36 rfl rfl rfl ?_
    refine ev_iload (np := 41) dX0_leadToUnlike_39 rfl rfl ?_
    refine ev_Vi1 (np := 44) moX6_get sX0_leadToUnlike_41 (sem_get rowU M (by omega)) rfl rfl (Nat.le_of_ble_eq_true rfl) rfl ?_
    rw [Int.toNat_natCast, u1]
    refine ev_iload (np := 46) dX0_leadToUnlike_44 rfl rfl ?_
    refine ev_Ni2 (np := 49) moX9_bitOf sX0_leadToUnlike_46 (sem_bit M (b := u (T.1 s i)) (p := T.1 o i) (by omega) (by omega)) (Nat.le_of_ble_eq_true rfl) rfl ?_
    refine ev_iconst (np := 50) dX0_leadToUnlike_49 rfl ?_
    refine ev_icmp_ne (tgt := 57) (np := 53) dX0_leadToUnlike_50 (by decide) rfl (by omega) (by omega) (fun hq => ?_) (fun hq => ?_)
    · refine ev_iconst (np := 58) dX0_leadToUnlike_57 rfl ?_
      refine ev_istore (np := 60) dX0_leadToUnlike_58 (by decide) rfl ?_
      refine ev_iinc (np := 63) dX0_leadToUnlike_60 rfl (by decide) rfl ?_
      refine ev_goto (np := 6) dX0_leadToUnlike_63 (by decide) ?_
      exact ih (i + 1) _ _ (by omega) (fun j hj hp => by
        by_cases e : j = i
        · subst e
          exact hq (by unfold ldP at hp; omega)
        · exact hn j (by omega) hp)
    · refine ev_iconst (np := 54) dX0_leadToUnlike_53 rfl ?_
      refine ev_goto (np := 58) dX0_leadToUnlike_54 (by decide) ?_
      refine ev_istore (np := 60) dX0_leadToUnlike_58 (by decide) rfl ?_
      refine ev_iinc (np := 63) dX0_leadToUnlike_60 rfl (by decide) rfl ?_
      refine ev_goto (np := 6) dX0_leadToUnlike_63 (by decide) ?_
      refine ev_iload (np := 8) dX0_leadToUnlike_6 rfl rfl ?_
      refine ev_iconst (np := 9) dX0_leadToUnlike_8 rfl ?_
      by_cases e : i + 1 = 4
      · refine ev_icmp_ge (tgt := 66) (np := 12) dX0_leadToUnlike_9 (by decide) rfl (by omega) (by omega) (fun _ => ?_) (fun h => absurd (by omega) h)
        refine ev_iload (np := 68) dX0_leadToUnlike_66 rfl rfl ?_
        refine ev_zret dX0_leadToUnlike_68 rfl (by first | exact Or.inl rfl | exact Or.inr rfl | omega) ?_
        exact ⟨rfl, Or.inl ⟨rfl, i, by omega, by unfold ldP; omega⟩⟩
      · refine ev_icmp_ge (tgt := 66) (np := 12) dX0_leadToUnlike_9 (by decide) rfl (by omega) (by omega) (fun h => absurd h (by omega)) (fun _ => ?_)
        refine ev_iload (np := 14) dX0_leadToUnlike_12 rfl rfl ?_
        refine ev_if_ne (tgt := 66) (np := 17) dX0_leadToUnlike_14 (by decide) rfl (by omega) (fun _ => ?_) (fun h => absurd h (by omega))
        refine ev_iload (np := 68) dX0_leadToUnlike_66 rfl rfl ?_
        refine ev_zret dX0_leadToUnlike_68 rfl (by first | exact Or.inl rfl | exact Or.inr rfl | omega) ?_
        exact ⟨rfl, Or.inl ⟨rfl, i, by omega, by unfold ldP; omega⟩⟩
theorem sem_lead {M : Mem} {t : Fin 3} {T : Tab} (hT : TWF T) (h : TabT M t T) {u : Nat → Nat} (hu : UT M u) {s o : Nat} (hs : s < 16) (ho : o < 16) : Sem ST miX0_leadToUnlike [.inr (cX 19), .inl (s : Int), .inl (o : Int), .inr (cT t 0)] M (fun v N => N = M ∧ ((v = some (.inl 1) ∧ ∃ i, i < 4 ∧ ldP T u s o i) ∨ (v = some (.inl 0) ∧ ¬ ∃ i, i < 4 ∧ ldP T u s o i))) := by
  refine Sem.of (by decide) ST_ok (Nat.le_of_ble_eq_true rfl) (ls0 := [some (.inr (cX 19)), some (.inl (s : Int)), some (.inl (o : Int)), some (.inr (cT t 0)), none, none, none, none]) rfl ?_
  refine ev_iconst (np := 1) dX0_leadToUnlike_0 rfl ?_
  refine ev_istore (np := 3) dX0_leadToUnlike_1 (by decide) rfl ?_
  refine ev_iconst (np := 4) dX0_leadToUnlike_3 rfl ?_
  refine ev_istore (np := 6) dX0_leadToUnlike_4 (by decide) rfl ?_
  exact lead_loop hT h hu hs ho 4 0 none none rfl (fun j hj => absurd hj (Nat.not_lt_zero j))
theorem bt_or (a b p : Nat) : bt (a ||| b) p = 1 ↔ bt a p = 1 ∨ bt b p = 1 := by
  rw [bt_tb, bt_tb, bt_tb, Nat.testBit_or]
  cases a.testBit p <;> cases b.testBit p <;> simp
theorem bt_p2 (a p : Nat) : bt (2 ^ a) p = 1 ↔ a = p := by
  rw [bt_tb, Nat.testBit_two_pow]
  by_cases h : a = p <;> simp [h]
theorem bt_0 (p : Nat) : bt 0 p = 0 := by simp [bt]
theorem unl_loop {M : Mem} {t : Fin 3} {T : Tab} (hT : TWF T) (h : TabT M t T) {u : Nat → Nat} (hu : UT M u) {s : Nat} (hs : s < 16) : ∀ (m o X : Nat), o + m = 16 → X < 65536 → (∀ p, p < 16 → (bt X p = 1 ↔ (p < o ∧ unl T u s p))) → Ev ST miX0_unlikeTo 5 [some (.inr (cX 19)), some (.inl (s : Int)), some (.inr (cT t 0)), some (.inl (X : Int)), some (.inl (o : Int))] [] M (fun v N => N = M ∧ ∃ X : Nat, v = some (.inl (X : Int)) ∧ X < 65536 ∧ ∀ p, p < 16 → (bt X p = 1 ↔ unl T u s p)) := by
  intro m
  induction m with
  | zero =>
    intro o X h1 h2 h3
    refine ev_iload (np := 7) dX0_unlikeTo_5 rfl rfl ?_
    refine ev_bipush (np := 9) dX0_unlikeTo_7 (by decide) rfl ?_
    refine ev_icmp_ge (tgt := 50) (np := 12) dX0_unlikeTo_9 (by decide) rfl (by omega) (by omega) (fun _ => ?_) (fun h => absurd (by omega) h)
    refine ev_iload_n (np := 51) dX0_unlikeTo_50 rfl rfl ?_
    refine ev_iret dX0_unlikeTo_51 rfl ?_
    exact ⟨rfl, X, rfl, h2, fun p hp => (h3 p hp).trans ⟨fun a => a.2, fun a => ⟨by omega, a⟩⟩⟩
  | succ m ih =>
    intro o X h1 h2 h3
    have ho : o < 16 := by omega
    have y1 := hT.2.1 s
    have y2 := hT.2.1 o
    have yes : unl T u s o → Ev ST miX0_unlikeTo 37 [some (.inr (cX 19)), some (.inl (s : Int)), some (.inr (cT t 0)), some (.inl (X : Int)), some (.inl (o : Int))] [] M (fun v N => N = M ∧ ∃ X : Nat, v = some (.inl (X : Int)) ∧ X < 65536 ∧ ∀ p, p < 16 → (bt X p = 1 ↔ unl T u s p)) := by
      intro hq
      refine ev_iload_n (np := 38) dX0_unlikeTo_37 rfl rfl ?_
      refine ev_iconst (np := 39) dX0_unlikeTo_38 rfl ?_
      refine ev_iload (np := 41) dX0_unlikeTo_39 rfl rfl ?_
      refine ev_ishl (np := 42) dX0_unlikeTo_41 (by omega) rfl ?_
      refine ev_ior (np := 43) dX0_unlikeTo_42 (by omega) (Int.mul_nonneg (by omega) (Int.natCast_nonneg _)) rfl ?_
      rw [Int.toNat_natCast o, Int.one_mul, Int.toNat_natCast, Int.toNat_natCast]
      refine ev_istore_n (np := 44) dX0_unlikeTo_43 (by decide) rfl ?_
      refine ev_iinc (np := 47) dX0_unlikeTo_44 rfl (by decide) rfl ?_
      refine ev_goto (np := 5) dX0_unlikeTo_47 (by decide) ?_
      refine ih (o + 1) _ (by omega) (Nat.or_lt_two_pow (n := 16) h2 (p2_lt ho)) (fun p hp => ?_)
      rw [bt_or, bt_p2, h3 p hp]
      constructor
      · rintro (⟨a, b⟩ | a)
        · exact ⟨by omega, b⟩
        · subst a; exact ⟨by omega, hq⟩
      · rintro ⟨a, b⟩
        by_cases e : p = o
        · exact Or.inr e.symm
        · exact Or.inl ⟨by omega, b⟩
    have no : ¬ unl T u s o → Ev ST miX0_unlikeTo 44 [some (.inr (cX 19)), some (.inl (s : Int)), some (.inr (cT t 0)), some (.inl (X : Int)), some (.inl (o : Int))] [] M (fun v N => N = M ∧ ∃ X : Nat, v = some (.inl (X : Int)) ∧ X < 65536 ∧ ∀ p, p < 16 → (bt X p = 1 ↔ unl T u s p)) := by
      intro hq
      refine ev_iinc (np := 47) dX0_unlikeTo_44 rfl (by decide) rfl ?_
      refine ev_goto (np := 5) dX0_unlikeTo_47 (by decide) ?_
      refine ih (o + 1) X (by omega) h2 (fun p hp => ?_)
      rw [h3 p hp]
      constructor
      · rintro ⟨a, b⟩
        exact ⟨by omega, b⟩
      · rintro ⟨a, b⟩
        by_cases e : p = o
        · subst e; exact absurd b hq
        · exact ⟨by omega, b⟩
    refine ev_iload (np := 7) dX0_unlikeTo_5 rfl rfl ?_
    refine ev_bipush (np := 9) dX0_unlikeTo_7 (by decide) rfl ?_
    refine ev_icmp_ge (tgt := 50) (np := 12) dX0_unlikeTo_9 (by decide) rfl (by omega) (by omega) (fun h => absurd h (by omega)) (fun _ => ?_)
    refine ev_aload_n (np := 13) dX0_unlikeTo_12 rfl rfl ?_
    refine ev_iload_n (np := 14) dX0_unlikeTo_13 rfl rfl ?_
    refine ev_Vi1 (np := 17) moX7_outputSet sX0_unlikeTo_14 (sem_tOut h hs) rfl rfl (Nat.le_of_ble_eq_true rfl) rfl ?_
    refine ev_aload_n (np := 18) dX0_unlikeTo_17 rfl rfl ?_
    refine ev_iload (np := 20) dX0_unlikeTo_18 rfl rfl ?_
    refine ev_Vi1 (np := 23) moX7_outputSet sX0_unlikeTo_20 (sem_tOut h ho) rfl rfl (Nat.le_of_ble_eq_true rfl) rfl ?_
    refine ev_icmp_ne (tgt := 37) (np := 26) dX0_unlikeTo_23 (by decide) rfl (by omega) (by omega) (fun hd => ?_) (fun hd => ?_)
    · exact yes (Or.inl (by omega))
    · refine ev_aload_n (np := 27) dX0_unlikeTo_26 rfl rfl ?_
      refine ev_iload_n (np := 28) dX0_unlikeTo_27 rfl rfl ?_
      refine ev_iload (np := 30) dX0_unlikeTo_28 rfl rfl ?_
      refine ev_aload_n (np := 31) dX0_unlikeTo_30 rfl rfl ?_
      refine ev_V3 (np := 34) moX0_leadToUnlike sX0_unlikeTo_31 (sem_lead hT h hu hs ho ) rfl rfl (Nat.le_of_ble_eq_true rfl) rfl (fun v N hq => ?_)
      obtain ⟨rfl, ⟨rfl, h4⟩ | ⟨rfl, h4⟩⟩ := hq
      · refine ev_if_eq (tgt := 44) (np := 37) dX0_unlikeTo_34 (by decide) rfl (by omega) (fun h => absurd h (by omega)) (fun _ => ?_)
        exact yes (Or.inr h4)
      · refine ev_if_eq (tgt := 44) (np := 37) dX0_unlikeTo_34 (by decide) rfl (by omega) (fun _ => ?_) (fun h => absurd (by omega) h)
        exact no (fun g => g.elim (fun a => a (by omega)) h4)
theorem sem_unlikeTo {M : Mem} {t : Fin 3} {T : Tab} (hT : TWF T) (h : TabT M t T) {u : Nat → Nat} (hu : UT M u) {s : Nat} (hs : s < 16) : Sem ST miX0_unlikeTo [.inr (cX 19), .inl (s : Int), .inr (cT t 0)] M (fun v N => N = M ∧ ∃ X : Nat, v = some (.inl (X : Int)) ∧ X < 65536 ∧ ∀ p, p < 16 → (bt X p = 1 ↔ unl T u s p)) := by
  refine Sem.of (by decide) ST_ok (Nat.le_of_ble_eq_true rfl) (ls0 := [some (.inr (cX 19)), some (.inl (s : Int)), some (.inr (cT t 0)), none, none]) rfl ?_
  refine ev_iconst (np := 1) dX0_unlikeTo_0 rfl ?_
  refine ev_istore_n (np := 2) dX0_unlikeTo_1 (by decide) rfl ?_
  refine ev_iconst (np := 3) dX0_unlikeTo_2 rfl ?_
  refine ev_istore (np := 5) dX0_unlikeTo_3 (by decide) rfl ?_
  exact unl_loop hT h hu hs 16 0 0 rfl (by decide) (fun p hp => by rw [bt_0]; exact ⟨fun a => by omega, fun a => absurd a.1 (Nat.not_lt_zero p)⟩)
/-- a round: the states below s are through, r rounds stand -/
def Rnd (T : Tab) (r s : Nat) (u : Nat → Nat) : Prop := uSnd T u ∧ (∀ a, a < 16 → uLow T r u a) ∧ ∀ a, a < s → uLow T (r + 1) u a
theorem Rnd.up {T : Tab} (hT : TWF T) {r s : Nat} {u : Nat → Nat} (h : Rnd T r s u) (hs : s < 16) {X : Nat} (hX : ∀ p, p < 16 → (bt X p = 1 ↔ unl T u s p)) : Rnd T r (s + 1) (fun a => if a = s then X else u a) := by
  obtain ⟨h1, h2, h3⟩ := h
  have low : uLow T (r + 1) (fun a => if a = s then X else u a) s := fun o ho e => by
    show bt (if s = s then X else u s) o = 1
    rw [if_pos rfl, hX o ho]
    exact unl_low hT h2 e
  refine ⟨fun a o ha ho e => ?_, fun a ha => ?_, fun a ha => ?_⟩
  · by_cases g : a = s
    · subst g
      simp only [if_true] at e
      exact unl_snd hT h1 ha ho ((hX o ho).mp e)
    · simp only [g, if_false] at e
      exact h1 a o ha ho e
  · by_cases g : a = s
    · subst g
      intro o ho e
      refine low o ho ?_
      cases k : eqb T (r + 1) a o with
      | false => rfl
      | true => rw [eqb_anti T r a o k] at e; cases e
    · intro o ho e
      show bt (if a = s then X else u a) o = 1
      rw [if_neg g]
      exact h2 a ha o ho e
  · by_cases g : a = s
    · subst g; exact low
    · intro o ho e
      show bt (if a = s then X else u a) o = 1
      rw [if_neg g]
      exact h3 a (by omega) o ho e
theorem UT.upd {M : Mem} {u : Nat → Nat} (h : UT M u) {s X : Nat} (hX : X < 65536) : UT (updM M (cX 21) s (X : Int)) (fun a => if a = s then X else u a) := by
  intro a ha
  by_cases e : a = s
  · subst e
    simp [updM, hX]
  · simp only [updM, e, and_false, if_false]
    exact h a ha
