/-! STATES THAT ARE ALIKE: by rows of fewer than r inputs -/
def eqb (T : Tab) : Nat → Nat → Nat → Bool
  | 0, _, _ => true
  | r + 1, s, o => T.2.1 s == T.2.1 o && (eqb T r (T.1 s 0) (T.1 o 0) && (eqb T r (T.1 s 1) (T.1 o 1) && (eqb T r (T.1 s 2) (T.1 o 2) && eqb T r (T.1 s 3) (T.1 o 3))))
theorem eqb_s (T : Tab) (r s o : Nat) : eqb T (r + 1) s o = true ↔ T.2.1 s = T.2.1 o ∧ ∀ i, i < 4 → eqb T r (T.1 s i) (T.1 o i) = true := by
  simp only [eqb, Bool.and_eq_true, beq_iff_eq]
  constructor
  · rintro ⟨h, a, b, c, d⟩
    refine ⟨h, fun i hi => ?_⟩
    rcases (show i = 0 ∨ i = 1 ∨ i = 2 ∨ i = 3 by omega) with rfl | rfl | rfl | rfl
    · exact a
    · exact b
    · exact c
    · exact d
  · rintro ⟨h, k⟩
    exact ⟨h, k 0 (by decide), k 1 (by decide), k 2 (by decide), k 3 (by decide)⟩
theorem eqb_refl (T : Tab) : ∀ r s, eqb T r s s = true
  | 0, _ => rfl
  | r + 1, s => (eqb_s T r s s).mpr ⟨rfl, fun i _ => eqb_refl T r _⟩
theorem eqb_symm (T : Tab) : ∀ r s o, eqb T r s o = true → eqb T r o s = true
  | 0, _, _, _ => rfl
  | r + 1, s, o, h => by
    obtain ⟨a, b⟩ := (eqb_s T r s o).mp h
    exact (eqb_s T r o s).mpr ⟨a.symm, fun i hi => eqb_symm T r _ _ (b i hi)⟩
theorem eqb_trans (T : Tab) : ∀ r s o q, eqb T r s o = true → eqb T r o q = true → eqb T r s q = true
  | 0, _, _, _, _, _ => rfl
  | r + 1, s, o, q, h, g => by
    obtain ⟨a, b⟩ := (eqb_s T r s o).mp h
    obtain ⟨c, d⟩ := (eqb_s T r o q).mp g
    exact (eqb_s T r s q).mpr ⟨a.trans c, fun i hi => eqb_trans T r _ _ _ (b i hi) (d i hi)⟩
theorem eqb_anti (T : Tab) : ∀ r s o, eqb T (r + 1) s o = true → eqb T r s o = true
  | 0, _, _, _ => rfl
  | r + 1, s, o, h => by
    obtain ⟨a, b⟩ := (eqb_s T (r + 1) s o).mp h
    exact (eqb_s T r s o).mpr ⟨a, fun i hi => eqb_anti T r _ _ (b i hi)⟩
theorem eqb_le (T : Tab) {r q : Nat} (h : r ≤ q) {s o : Nat} (e : eqb T q s o = true) : eqb T r s o = true := by
  induction h with
  | refl => exact e
  | step _ ih => exact ih (eqb_anti T _ s o e)
/-- the least states of their classes -/
def lst (T : Tab) (r s : Nat) : Bool := (List.range s).all (fun o => !eqb T r o s)
theorem lst_iff {T : Tab} {r s : Nat} : lst T r s = true ↔ ∀ o, o < s → eqb T r o s = false := by
  simp [lst, List.all_eq_true]
theorem lst_up {T : Tab} {r s : Nat} (h : lst T r s = true) : lst T (r + 1) s = true := by
  rw [lst_iff] at h ⊢
  intro o ho
  cases e : eqb T (r + 1) o s with
  | false => rfl
  | true => exact absurd (h o ho) (by rw [eqb_anti T r o s e]; decide)
def cnt (p : Nat → Bool) : Nat → Nat
  | 0 => 0
  | n + 1 => cnt p n + (if p n = true then 1 else 0)
theorem cnt_le (p : Nat → Bool) : ∀ n, cnt p n ≤ n
  | 0 => Nat.le_refl 0
  | n + 1 => by have := cnt_le p n; unfold cnt; split <;> omega
theorem cnt_mono {p q : Nat → Bool} (h : ∀ s, p s = true → q s = true) : ∀ n, cnt p n ≤ cnt q n
  | 0 => Nat.le_refl 0
  | n + 1 => by
    have := cnt_mono h n
    unfold cnt
    by_cases e : p n = true
    · rw [if_pos e, if_pos (h n e)]; omega
    · rw [if_neg e]; split <;> omega
theorem cnt_eq {p q : Nat → Bool} (h : ∀ s, p s = true → q s = true) : ∀ n, cnt p n = cnt q n → ∀ s, s < n → p s = q s
  | 0, _, s, hs => absurd hs (Nat.not_lt_zero s)
  | n + 1, e, s, hs => by
    have m := cnt_mono h n
    unfold cnt at e
    by_cases e1 : p n = true
    · rw [if_pos e1, if_pos (h n e1)] at e
      rcases Nat.lt_or_ge s n with h1 | h1
      · exact cnt_eq h n (by omega) s h1
      · rw [show s = n by omega, e1, h n e1]
    · rw [if_neg e1] at e
      by_cases e2 : q n = true
      · rw [if_pos e2] at e; omega
      · rw [if_neg e2] at e
        rcases Nat.lt_or_ge s n with h1 | h1
        · exact cnt_eq h n (by omega) s h1
        · rw [show s = n by omega]
          cases hp : p n <;> cases hq : q n <;> simp_all
theorem ex_least {P : Nat → Prop} : ∀ n, P n → ∃ m, m ≤ n ∧ P m ∧ ∀ o, o < m → ¬ P o := by
  intro n
  induction n using Nat.strongRecOn with
  | ind n ih =>
    intro hn
    by_cases h : ∃ o, o < n ∧ P o
    · obtain ⟨o, h1, h2⟩ := h
      obtain ⟨m, a, b, c⟩ := ih o h1 h2
      exact ⟨m, by omega, b, c⟩
    · exact ⟨n, Nat.le_refl n, hn, fun o ho hp => h ⟨o, ho, hp⟩⟩
/-- where the least ones are the same, so are the classes -/
theorem eqb_stop {T : Tab} {r : Nat} (h : ∀ s, s < 16 → lst T r s = lst T (r + 1) s) {s o : Nat} (hs : s < 16) (ho : o < 16) (e : eqb T r s o = true) : eqb T (r + 1) s o = true := by
  obtain ⟨a, a1, a2, a3⟩ := ex_least (P := fun m => eqb T (r + 1) m s = true) s (eqb_refl T _ s)
  obtain ⟨b, b1, b2, b3⟩ := ex_least (P := fun m => eqb T (r + 1) m o = true) o (eqb_refl T _ o)
  have la : lst T (r + 1) a = true := lst_iff.mpr (fun q hq => by
    cases g : eqb T (r + 1) q a with
    | false => rfl
    | true => exact absurd (eqb_trans T _ _ _ _ g a2) (a3 q hq))
  have lb : lst T (r + 1) b = true := lst_iff.mpr (fun q hq => by
    cases g : eqb T (r + 1) q b with
    | false => rfl
    | true => exact absurd (eqb_trans T _ _ _ _ g b2) (b3 q hq))
  rw [← h a (by omega), lst_iff] at la
  rw [← h b (by omega), lst_iff] at lb
  have eab : eqb T r a b = true := eqb_trans T r _ _ _ (eqb_anti T r a s a2) (eqb_trans T r _ _ _ e (eqb_symm T r _ _ (eqb_anti T r b o b2)))
  have hab : a = b := by
    rcases Nat.lt_trichotomy a b with g | g | g
    · rw [lb a g] at eab; cases eab
    · exact g
    · have := la b g; rw [eqb_symm T r _ _ eab] at this; cases this
  subst hab
  exact eqb_trans T _ _ _ _ (eqb_symm T _ _ _ a2) b2
theorem eqb_stay {T : Tab} (hT : TWF T) {r : Nat} (h : ∀ s o, s < 16 → o < 16 → eqb T r s o = true → eqb T (r + 1) s o = true) : ∀ (q : Nat) (s o : Nat), s < 16 → o < 16 → eqb T r s o = true → eqb T (r + q) s o = true
  | 0, _, _, _, _, e => e
  | q + 1, s, o, hs, ho, e => by
    obtain ⟨a, b⟩ := (eqb_s T r s o).mp (h s o hs ho e)
    exact (eqb_s T (r + q) s o).mpr ⟨a, fun i hi => eqb_stay hT h q _ _ (hT.1 s i) (hT.1 o i) (b i hi)⟩
theorem cnt_grow {T : Tab} : ∀ r, (∀ q, q < r → ∃ s, s < 16 ∧ lst T q s ≠ lst T (q + 1) s) → r + 1 ≤ cnt (lst T r) 16
  | 0, _ => by
    have h0 : lst T 0 0 = true := rfl
    have : ∀ n, 1 ≤ cnt (lst T 0) (n + 1) := by
      intro n
      induction n with
      | zero => simp [cnt, h0]
      | succ n ih => unfold cnt; omega
    exact this 15
  | r + 1, h => by
    have ih := cnt_grow r (fun q hq => h q (by omega))
    have m := cnt_mono (fun s => lst_up (T := T) (r := r) (s := s)) 16
    rcases Nat.lt_or_ge (cnt (lst T r) 16) (cnt (lst T (r + 1)) 16) with g | g
    · omega
    · obtain ⟨s, hs, hne⟩ := h r (by omega)
      exact absurd (cnt_eq (fun s => lst_up (T := T) (r := r) (s := s)) 16 (by omega) s hs) hne
/-- rows of 16 inputs tell all that can be told -/
theorem eqb_16 {T : Tab} (hT : TWF T) {s o : Nat} (hs : s < 16) (ho : o < 16) (e : eqb T 16 s o = true) (q : Nat) : eqb T q s o = true := by
  have hex : ∃ r, r < 16 ∧ ∀ s, s < 16 → lst T r s = lst T (r + 1) s := by
    apply Classical.byContradiction
    intro hn
    have h2 : ∀ q, q < 16 → ∃ s, s < 16 ∧ lst T q s ≠ lst T (q + 1) s := by
      intro q hq
      apply Classical.byContradiction
      intro h3
      exact hn ⟨q, hq, fun s hs => Classical.byContradiction (fun h4 => h3 ⟨s, hs, h4⟩)⟩
    have := cnt_grow 16 h2
    have := cnt_le (lst T 16) 16
    omega
  obtain ⟨r, hr, h⟩ := hex
  have st := eqb_stay hT (r := r) (fun s o hs ho e => eqb_stop h hs ho e)
  have er := eqb_le T (show r ≤ 16 by omega) e
  rcases Nat.lt_or_ge q r with g | g
  · exact eqb_le T (Nat.le_of_lt g) er
  · have := st (q - r) s o hs ho er
    rwa [show r + (q - r) = q by omega] at this
theorem eqb_step {T : Tab} (hT : TWF T) {s o : Nat} (hs : s < 16) (ho : o < 16) : eqb T 16 s o = true ↔ T.2.1 s = T.2.1 o ∧ ∀ i, i < 4 → eqb T 16 (T.1 s i) (T.1 o i) = true := by
  constructor
  · intro h
    exact (eqb_s T 16 s o).mp (eqb_16 hT hs ho h 17)
  · intro h
    exact eqb_anti T 16 s o ((eqb_s T 16 s o).mpr h)
/-- unlike by a relation u: different outputs, or unlike states behind -/
def unl (T : Tab) (u : Nat → Nat) (s o : Nat) : Prop := T.2.1 s ≠ T.2.1 o ∨ ∃ i, i < 4 ∧ bt (u (T.1 s i)) (T.1 o i) = 1
/-- u tells no alike states apart; u tells apart what rows of fewer than r inputs do -/
def uSnd (T : Tab) (u : Nat → Nat) : Prop := ∀ s o, s < 16 → o < 16 → bt (u s) o = 1 → eqb T 16 s o = false
def uLow (T : Tab) (r : Nat) (u : Nat → Nat) (s : Nat) : Prop := ∀ o, o < 16 → eqb T r s o = false → bt (u s) o = 1
theorem unl_snd {T : Tab} (hT : TWF T) {u : Nat → Nat} (h : uSnd T u) {s o : Nat} (hs : s < 16) (ho : o < 16) (hu : unl T u s o) : eqb T 16 s o = false := by
  cases e : eqb T 16 s o with
  | false => rfl
  | true =>
    obtain ⟨a, b⟩ := (eqb_step hT hs ho).mp e
    rcases hu with g | ⟨i, hi, g⟩
    · exact absurd a g
    · have := h _ _ (hT.1 s i) (hT.1 o i) g
      rw [b i hi] at this
      cases this
theorem unl_low {T : Tab} (hT : TWF T) {r : Nat} {u : Nat → Nat} (h : ∀ s, s < 16 → uLow T r u s) {s o : Nat} (e : eqb T (r + 1) s o = false) : unl T u s o := by
  apply Classical.byContradiction
  intro hn
  have : eqb T (r + 1) s o = true := by
    refine (eqb_s T r s o).mpr ⟨Classical.byContradiction (fun g => hn (Or.inl g)), fun i hi => ?_⟩
    cases g : eqb T r (T.1 s i) (T.1 o i) with
    | true => rfl
    | false => exact absurd (Or.inr ⟨i, hi, h _ (hT.1 s i) _ (hT.1 o i) g⟩) hn
  rw [e] at this
  cases this
/-- a relation that a round leaves as it is tells all apart -/
theorem unl_fix {T : Tab} (hT : TWF T) {u : Nat → Nat} (h : ∀ s o, s < 16 → o < 16 → (bt (u s) o = 1 ↔ unl T u s o)) : ∀ (r s o : Nat), s < 16 → o < 16 → bt (u s) o ≠ 1 → eqb T r s o = true
  | 0, _, _, _, _, _ => rfl
  | r + 1, s, o, hs, ho, g => by
    have hn : ¬ unl T u s o := fun k => g ((h s o hs ho).mpr k)
    refine (eqb_s T r s o).mpr ⟨Classical.byContradiction (fun k => hn (Or.inl k)), fun i hi => ?_⟩
    exact unl_fix hT h r _ _ (hT.1 s i) (hT.1 o i) (fun k => hn (Or.inr ⟨i, hi, k⟩))
/-- classes among the states of a set below s: those with no lesser one alike -/
def clsP (T : Tab) (X s : Nat) : Bool := bt X s == 1 && (List.range s).all (fun o => !(bt X o == 1 && eqb T 16 s o))
theorem clsP_iff {T : Tab} {X s : Nat} : clsP T X s = true ↔ bt X s = 1 ∧ ∀ o, o < s → bt X o = 1 → eqb T 16 s o = false := by
  simp only [clsP, Bool.and_eq_true, beq_iff_eq, List.all_eq_true, List.mem_range, Bool.not_eq_true', Bool.and_eq_false_imp]
def clsS (T : Tab) (X : Nat) : Nat := cnt (clsP T X) 16
