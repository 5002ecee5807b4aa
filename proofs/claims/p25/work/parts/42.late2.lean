theorem forget_loop {M : Mem} {b : Nat} {s : Lst} (hb : b ≤ 4) (hI : LI b s) : ∀ (m j : Nat) (N : Mem), j + m = ln s → N (cX 14) 2 = (ln s : Int) → (∀ j, j < ln s → N (cX 18) j = (lq s j : Int)) → (∀ c, c < 8192 → N (cX 16) c = 0 ∨ ∃ a, j ≤ a ∧ a < ln s ∧ lq s a = c) → Fx (uX 14 19) M N → Ev ST miX3_forgetAll 2 [some (.inr (cX 14)), some (.inl (j : Int))] [] N (fun v N => v = none ∧ LZ N ∧ Fx (uX 14 19) M N) := by
  have hle := hI.le
  have hp := pow4 hb
  intro m
  induction m with
  | zero =>
    intro j N hj h1 h2 h3 hf
    refine ev_iload_n (np := 3) dX3_forgetAll_2 rfl rfl ?_
    refine ev_aload_n (np := 4) dX3_forgetAll_3 rfl rfl ?_
    refine ev_getI (np := 7) sX3_forgetAll_4 rfl rfl rfl ?_
    rw [h1]
    refine ev_icmp_ge (tgt := 39) (np := 10) dX3_forgetAll_7 (by decide) rfl (by omega) (by omega) (fun _ => ?_) (fun h => absurd (by omega) h)
    refine ev_vret dX3_forgetAll_39 rfl ?_
    refine ⟨rfl, fun c hc => ?_, hf⟩
    rcases h3 c hc with e | ⟨a, a1, a2, a3⟩
    · exact e
    · omega
  | succ m ih =>
    intro j N hj h1 h2 h3 hf
    have hq := hI.2.1 j (by omega)
    refine ev_iload_n (np := 3) dX3_forgetAll_2 rfl rfl ?_
    refine ev_aload_n (np := 4) dX3_forgetAll_3 rfl rfl ?_
    refine ev_getI (np := 7) sX3_forgetAll_4 rfl rfl rfl ?_
    rw [h1]
    refine ev_icmp_ge (tgt := 39) (np := 10) dX3_forgetAll_7 (by decide) rfl (by omega) (by omega) (fun h => absurd h (by omega)) (fun _ => ?_)
    refine ev_iload_n (np := 11) dX3_forgetAll_10 rfl rfl ?_
    refine ev_sipush (np := 14) dX3_forgetAll_11 (by decide) rfl ?_
    refine ev_icmp_ge (tgt := 39) (np := 17) dX3_forgetAll_14 (by decide) rfl (by omega) (by omega) (fun h => absurd h (by omega)) (fun _ => ?_)
    refine ev_aload_n (np := 18) dX3_forgetAll_17 rfl rfl ?_
    refine ev_getR (np := 21) sX3_forgetAll_18 rfl rfl rfl ?_
    refine ev_aload_n (np := 22) dX3_forgetAll_21 rfl rfl ?_
    refine ev_getR (np := 25) sX3_forgetAll_22 rfl rfl rfl ?_
    refine ev_iload_n (np := 26) dX3_forgetAll_25 rfl rfl ?_
    refine ev_Vi1 (np := 29) moX6_get sX3_forgetAll_26 (sem_get rw17 N (by omega)) rfl rfl (Nat.le_of_ble_eq_true rfl) rfl ?_
    rw [Int.toNat_natCast, h2 j (by omega)]
    refine ev_iconst (np := 30) dX3_forgetAll_29 rfl ?_
    refine ev_Vv2 (np := 33) moX6_set sX3_forgetAll_30 (sem_set rw15 N (by omega)) rfl rfl (Nat.le_of_ble_eq_true rfl) rfl ?_
    rw [Int.toNat_natCast]
    refine ev_iinc (np := 36) dX3_forgetAll_33 rfl (by decide) rfl ?_
    refine ev_goto (np := 2) dX3_forgetAll_36 (by decide) ?_
    refine ih (j + 1) _ (by omega) (by rw [← h1]; simp [updM]) (fun a ha => by rw [← h2 a ha]; simp [updM]) (fun c hc => ?_) (hf.tr (Fx.upd rfl))
    by_cases e : c = lq s j
    · exact Or.inl (by rw [e, updM_same])
    · rcases h3 c hc with g | ⟨a, a1, a2, a3⟩
      · exact Or.inl (by rw [← g]; simp [updM, e])
      · refine Or.inr ⟨a, ?_, a2, a3⟩
        rcases Nat.lt_or_ge j a with g | g
        · exact g
        · exact absurd (by rw [← a3, show a = j by omega]) e
theorem sem_forget {M : Mem} {b : Nat} {s : Lst} (hb : b ≤ 4) (hI : LI b s) (h : LwT M s) : Sem ST miX3_forgetAll [.inr (cX 14)] M (fun v N => v = none ∧ LZ N ∧ Fx (uX 14 19) M N) := by
  refine Sem.of (by decide) ST_ok (Nat.le_of_ble_eq_true rfl) (ls0 := [some (.inr (cX 14)), none]) rfl ?_
  refine ev_iconst (np := 1) dX3_forgetAll_0 rfl ?_
  refine ev_istore_n (np := 2) dX3_forgetAll_1 (by decide) rfl ?_
  refine forget_loop hb hI (ln s) 0 M (by omega) h.1 h.2.2 (fun c hc => ?_) Fx.rf
  have := h.2.1 c hc
  by_cases e : lmet s c = true
  · obtain ⟨j, a1, a2⟩ := hI.2.2 c e
    exact Or.inr ⟨j, Nat.zero_le _, a1, a2⟩
  · rw [if_neg e] at this
    exact Or.inl this
def lateP (M : Mem) (r : Bool) : Option Val → Mem → Prop := fun v N => v = some (.inl (if r = true then 1 else 0)) ∧ LZ N ∧ Fx (uX 14 19) M N
theorem late_end {M N : Mem} {b : Nat} {s : Lst} (hb : b ≤ 4) (hI : LI b s) (h : LwT N s) (hf : Fx (uX 14 19) M N) {r : Bool} {x1 x2 x3 x4 x5 : Option Val} : Ev ST miX3_isLateBy 92 [some (.inr (cX 14)), x1, x2, x3, some (.inl (if r = true then 1 else 0)), x4, x5] [] N (lateP M r) := by
  refine ev_aload_n (np := 93) dX3_isLateBy_92 rfl rfl ?_
  refine ev_V0 (np := 96) moX3_forgetAll sX3_isLateBy_93 (sem_forget hb hI h ) rfl rfl (Nat.le_of_ble_eq_true rfl) rfl (fun v N2 hq => ?_)
  obtain ⟨rfl, q1, q2⟩ := hq
  refine ev_iload (np := 98) dX3_isLateBy_96 rfl rfl ?_
  refine ev_zret dX3_isLateBy_98 rfl ?_ ⟨rfl, q1, hf.tr q2⟩
  cases r
  · exact Or.inl rfl
  · exact Or.inr rfl
theorem late_in {M : Mem} {t0 t1 : Fin 3} {T0 T1 : Tab} (h0 : TWF T0) (h1 : TWF T1) (g0 : TabT M t0 T0) (g1 : TabT M t1 T1) {b : Nat} (hb : b ≤ 4) {s : Lst} (hI : LI b s) {k : Nat} (hk : k < ln s) {Q : Option Val → Mem → Prop}
    (K1 : ∀ (s' : Lst) (N : Mem) (u : Option Val), lIn b T0 T1 k 4 s = some s' → LwT N s' → Fx (uX 14 19) M N → Ev ST miX3_isLateBy 86 [some (.inr (cX 14)), some (.inl (b : Int)), some (.inr (cT t0 0)), some (.inr (cT t1 0)), some (.inl 1), some (.inl (k : Int)), u] [] N Q)
    (K0 : ∀ (s' : Lst) (N : Mem) (u : Option Val), lIn b T0 T1 k 4 s = none → LI b s' → LwT N s' → Fx (uX 14 19) M N → Ev ST miX3_isLateBy 86 [some (.inr (cX 14)), some (.inl (b : Int)), some (.inr (cT t0 0)), some (.inr (cT t1 0)), some (.inl 0), some (.inl (k : Int)), u] [] N Q) :
    ∀ (m i : Nat) (s' : Lst) (N : Mem), i + m = 4 → lIn b T0 T1 k i s = some s' → LwT N s' → Fx (uX 14 19) M N → Ev ST miX3_isLateBy 49 [some (.inr (cX 14)), some (.inl (b : Int)), some (.inr (cT t0 0)), some (.inr (cT t1 0)), some (.inl 1), some (.inl (k : Int)), some (.inl (i : Int))] [] N Q := by
  have stay : ∀ q i, lIn b T0 T1 k i s = none → lIn b T0 T1 k (i + q) s = none := by
    intro q
    induction q with
    | zero => intro i h; exact h
    | succ q ih =>
      intro i h
      rw [show i + (q + 1) = (i + q) + 1 by omega]
      unfold lIn
      rw [ih i h]
  intro m
  induction m with
  | zero =>
    intro i s' N hi e hp hf
    refine ev_iload (np := 51) dX3_isLateBy_49 rfl rfl ?_
    refine ev_iconst (np := 52) dX3_isLateBy_51 rfl ?_
    refine ev_icmp_ge (tgt := 86) (np := 55) dX3_isLateBy_52 (by decide) rfl (by omega) (by omega) (fun _ => ?_) (fun h => absurd (by omega) h)
    rw [show i = 4 by omega] at *
    exact K1 s' N _ e hp hf
  | succ m ih =>
    intro i s' N hi e hp hf
    obtain ⟨a1, a2, a3⟩ := LI.inn hb h0 h1 hI hk i s' e
    have hle := a1.le
    have hk2 : k < ln s' := by omega
    obtain ⟨c1, c2⟩ := a1.2.1 k hk2
    refine ev_iload (np := 51) dX3_isLateBy_49 rfl rfl ?_
    refine ev_iconst (np := 52) dX3_isLateBy_51 rfl ?_
    refine ev_icmp_ge (tgt := 86) (np := 55) dX3_isLateBy_52 (by decide) rfl (by omega) (by omega) (fun h => absurd h (by omega)) (fun _ => ?_)
    refine ev_iload (np := 57) dX3_isLateBy_55 rfl rfl ?_
    refine ev_if_eq (tgt := 86) (np := 60) dX3_isLateBy_57 (by decide) rfl (by omega) (fun h => absurd h (by omega)) (fun _ => ?_)
    refine ev_aload_n (np := 61) dX3_isLateBy_60 rfl rfl ?_
    refine ev_aload_n (np := 62) dX3_isLateBy_61 rfl rfl ?_
    refine ev_getR (np := 65) sX3_isLateBy_62 rfl rfl rfl ?_
    refine ev_iload (np := 67) dX3_isLateBy_65 rfl rfl ?_
    refine ev_Vi1 (np := 70) moX6_get sX3_isLateBy_67 (sem_get rw17 N (by omega)) rfl rfl (Nat.le_of_ble_eq_true rfl) rfl ?_
    rw [Int.toNat_natCast, hp.2.2 k hk2]
    refine ev_iload (np := 72) dX3_isLateBy_70 rfl rfl ?_
    refine ev_iload_n (np := 73) dX3_isLateBy_72 rfl rfl ?_
    refine ev_aload_n (np := 74) dX3_isLateBy_73 rfl rfl ?_
    refine ev_aload_n (np := 75) dX3_isLateBy_74 rfl rfl ?_
    refine ev_V5 (np := 78) moX3_step sX3_isLateBy_75 (sem_lstep h0 h1 (hf.tab (fun o => rfl) g0) (hf.tab (fun o => rfl) g1) hb a1 hp c1 c2 (i := i) (by omega) ) rfl rfl (Nat.le_of_ble_eq_true rfl) rfl (fun v N2 hq => ?_)
    obtain ⟨q1, q2⟩ := hq
    have e1 : ∀ x, lnx b T0 T1 (lq s' k) i = x → lIn b T0 T1 k (i + 1) s = x.map (lMeet s') := by
      intro x hx
      cases x <;> simp [lIn, e, hx]
    cases hx : lnx b T0 T1 (lq s' k) i with
    | none =>
      rw [hx] at q2
      have e1 := e1 _ hx
      obtain ⟨rfl, q3⟩ := q2
      have en : lIn b T0 T1 k 4 s = none := by
        have := stay (4 - (i + 1)) (i + 1) e1
        rwa [show i + 1 + (4 - (i + 1)) = 4 by omega] at this
      refine ev_istore (np := 80) dX3_isLateBy_78 (by decide) rfl ?_
      refine ev_iinc (np := 83) dX3_isLateBy_80 rfl (by decide) rfl ?_
      refine ev_goto (np := 49) dX3_isLateBy_83 (by decide) ?_
      refine ev_iload (np := 51) dX3_isLateBy_49 rfl rfl ?_
      refine ev_iconst (np := 52) dX3_isLateBy_51 rfl ?_
      by_cases hi4 : i + 1 = 4
      · refine ev_icmp_ge (tgt := 86) (np := 55) dX3_isLateBy_52 (by decide) rfl (by omega) (by omega) (fun _ => ?_) (fun h => absurd (by omega) h)
        exact K0 s' N2 _ en a1 q3 (hf.tr q1)
      · refine ev_icmp_ge (tgt := 86) (np := 55) dX3_isLateBy_52 (by decide) rfl (by omega) (by omega) (fun h => absurd h (by omega)) (fun _ => ?_)
        refine ev_iload (np := 57) dX3_isLateBy_55 rfl rfl ?_
        refine ev_if_eq (tgt := 86) (np := 60) dX3_isLateBy_57 (by decide) rfl (by omega) (fun _ => ?_) (fun h => absurd (by omega) h)
        exact K0 s' N2 _ en a1 q3 (hf.tr q1)
    | some c =>
      rw [hx] at q2
      have e1 := e1 _ hx
      obtain ⟨rfl, q3⟩ := q2
      refine ev_istore (np := 80) dX3_isLateBy_78 (by decide) rfl ?_
      refine ev_iinc (np := 83) dX3_isLateBy_80 rfl (by decide) rfl ?_
      refine ev_goto (np := 49) dX3_isLateBy_83 (by decide) ?_
      exact ih (i + 1) _ N2 (by omega) e1 q3 (hf.tr q1)
theorem late_out {M : Mem} {t0 t1 : Fin 3} {T0 T1 : Tab} (h0 : TWF T0) (h1 : TWF T1) (g0 : TabT M t0 T0) (g1 : TabT M t1 T1) {b : Nat} (hb : b ≤ 4) : ∀ (f k : Nat) (s : Lst) (N : Mem) (u : Option Val), LI b s → k + f = 8193 → LwT N s → Fx (uX 14 19) M N → Ev ST miX3_isLateBy 24 [some (.inr (cX 14)), some (.inl (b : Int)), some (.inr (cT t0 0)), some (.inr (cT t1 0)), some (.inl 1), some (.inl (k : Int)), u] [] N (lateP M (lOut b T0 T1 f k s)) := by
  intro f
  induction f with
  | zero =>
    intro k s N u hI hk hp hf
    have hle := hI.le
    refine ev_iload (np := 26) dX3_isLateBy_24 rfl rfl ?_
    refine ev_aload_n (np := 27) dX3_isLateBy_26 rfl rfl ?_
    refine ev_getI (np := 30) sX3_isLateBy_27 rfl rfl rfl ?_
    rw [hp.1]
    refine ev_icmp_ge (tgt := 92) (np := 33) dX3_isLateBy_30 (by decide) rfl (by omega) (by omega) (fun _ => ?_) (fun h => absurd (by omega) h)
    exact late_end (r := true) hb hI hp hf
  | succ f ih =>
    intro k s N u hI hk hp hf
    have hle := hI.le
    refine ev_iload (np := 26) dX3_isLateBy_24 rfl rfl ?_
    refine ev_aload_n (np := 27) dX3_isLateBy_26 rfl rfl ?_
    refine ev_getI (np := 30) sX3_isLateBy_27 rfl rfl rfl ?_
    rw [hp.1]
    by_cases hkn : k < ln s
    · refine ev_icmp_ge (tgt := 92) (np := 33) dX3_isLateBy_30 (by decide) rfl (by omega) (by omega) (fun h => absurd h (by omega)) (fun _ => ?_)
      refine ev_iload (np := 35) dX3_isLateBy_33 rfl rfl ?_
      refine ev_sipush (np := 38) dX3_isLateBy_35 (by decide) rfl ?_
      refine ev_icmp_ge (tgt := 92) (np := 41) dX3_isLateBy_38 (by decide) rfl (by omega) (by omega) (fun h => absurd h (by omega)) (fun _ => ?_)
      refine ev_iload (np := 43) dX3_isLateBy_41 rfl rfl ?_
      refine ev_if_eq (tgt := 92) (np := 46) dX3_isLateBy_43 (by decide) rfl (by omega) (fun h => absurd h (by omega)) (fun _ => ?_)
      refine ev_iconst (np := 47) dX3_isLateBy_46 rfl ?_
      refine ev_istore (np := 49) dX3_isLateBy_47 (by decide) rfl ?_
      refine late_in h0 h1 g0 g1 hb hI hkn ?_ ?_ 4 0 s N rfl rfl hp hf
      · intro s' N2 u2 e hp2 hf2
        have hI2 := (LI.inn hb h0 h1 hI hkn 4 s' e).1
        have hle2 := hI2.le
        have hg := (LI.inn hb h0 h1 hI hkn 4 s' e).2.1
        unfold lOut
        rw [if_pos hkn, e]
        refine ev_iinc (np := 89) dX3_isLateBy_86 rfl (by decide) rfl ?_
        refine ev_goto (np := 24) dX3_isLateBy_89 (by decide) ?_
        exact ih (k + 1) s' N2 _ hI2 (by omega) hp2 hf2
      · intro s' N2 u2 e hI2 hp2 hf2
        have hle2 := hI2.le
        unfold lOut
        rw [if_pos hkn, e]
        refine ev_iinc (np := 89) dX3_isLateBy_86 rfl (by decide) rfl ?_
        refine ev_goto (np := 24) dX3_isLateBy_89 (by decide) ?_
        refine ev_iload (np := 26) dX3_isLateBy_24 rfl rfl ?_
        refine ev_aload_n (np := 27) dX3_isLateBy_26 rfl rfl ?_
        refine ev_getI (np := 30) sX3_isLateBy_27 rfl rfl rfl ?_
        rw [hp2.1]
        refine ev_icmp_ge (tgt := 92) (np := 33) dX3_isLateBy_30 (by decide) rfl (by omega) (by omega) (fun h3 => ?_) (fun h3 => ?_)
        · exact late_end (r := false) hb hI2 hp2 hf2
        · refine ev_iload (np := 35) dX3_isLateBy_33 rfl rfl ?_
          refine ev_sipush (np := 38) dX3_isLateBy_35 (by decide) rfl ?_
          refine ev_icmp_ge (tgt := 92) (np := 41) dX3_isLateBy_38 (by decide) rfl (by omega) (by omega) (fun h4 => ?_) (fun h4 => ?_)
          · exact late_end (r := false) hb hI2 hp2 hf2
          · refine ev_iload (np := 43) dX3_isLateBy_41 rfl rfl ?_
            refine ev_if_eq (tgt := 92) (np := 46) dX3_isLateBy_43 (by decide) rfl (by omega) (fun _ => ?_) (fun h => absurd (by omega) h)
            exact late_end (r := false) hb hI2 hp2 hf2
    · refine ev_icmp_ge (tgt := 92) (np := 33) dX3_isLateBy_30 (by decide) rfl (by omega) (by omega) (fun _ => ?_) (fun h => absurd (by omega) h)
      unfold lOut
      rw [if_neg hkn]
      exact late_end (r := true) hb hI hp hf
theorem sem_isLateBy {M : Mem} {t0 t1 : Fin 3} {T0 T1 : Tab} (h0 : TWF T0) (h1 : TWF T1) (g0 : TabT M t0 T0) (g1 : TabT M t1 T1) {b : Nat} (hb : b ≤ 4) (hz : LZ M) : Sem ST miX3_isLateBy [.inr (cX 14), .inl (b : Int), .inr (cT t0 0), .inr (cT t1 0)] M (lateP M (isLateB b T0 T1)) := by
  refine Sem.of (by decide) ST_ok (Nat.le_of_ble_eq_true rfl) (ls0 := [some (.inr (cX 14)), some (.inl (b : Int)), some (.inr (cT t0 0)), some (.inr (cT t1 0)), none, none, none]) rfl ?_
  have hp := Nat.two_pow_pos b
  have f1 : Fx (uX 14 19) M (updM M (cX 14) 2 0) := Fx.upd rfl
  have p0 : LwT (updM M (cX 14) 2 0) l0 := ⟨by rw [updM_same]; rfl, fun c hc => by rw [show updM M (cX 14) 2 0 (cX 16) c = M (cX 16) c by simp [updM], hz c hc]; rfl, fun j hj => absurd hj (Nat.not_lt_zero j)⟩
  have i0 : LI b l0 := ⟨cnt_none 8192, fun j hj => absurd hj (Nat.not_lt_zero j), fun c hc => by cases hc⟩
  refine ev_aload_n (np := 1) dX3_isLateBy_0 rfl rfl ?_
  refine ev_iconst (np := 2) dX3_isLateBy_1 rfl ?_
  refine ev_put (np := 5) sX3_isLateBy_2 rfl rfl rfl ?_
  refine ev_aload_n (np := 6) dX3_isLateBy_5 rfl rfl ?_
  refine ev_iconst (np := 7) dX3_isLateBy_6 rfl ?_
  refine ev_aload_n (np := 8) dX3_isLateBy_7 rfl rfl ?_
  refine ev_Vi0 (np := 11) moX7_firstState sX3_isLateBy_8 (sem_tFirst (f1.tab (fun o => rfl) g0)) rfl rfl (Nat.le_of_ble_eq_true rfl) rfl ?_
  refine ev_aload_n (np := 12) dX3_isLateBy_11 rfl rfl ?_
  refine ev_Vi0 (np := 15) moX7_firstState sX3_isLateBy_12 (sem_tFirst (f1.tab (fun o => rfl) g1)) rfl rfl (Nat.le_of_ble_eq_true rfl) rfl ?_
  refine ev_V3 (np := 18) moX3_meet sX3_isLateBy_15 (sem_lmeet hb i0 p0 (w := 1) (by omega) h0.2.2 h1.2.2 ) rfl rfl (Nat.le_of_ble_eq_true rfl) rfl (fun v N2 hq => ?_)
  obtain ⟨rfl, q1, q2⟩ := hq
  refine ev_iconst (np := 19) dX3_isLateBy_18 rfl ?_
  refine ev_istore (np := 21) dX3_isLateBy_19 (by decide) rfl ?_
  refine ev_iconst (np := 22) dX3_isLateBy_21 rfl ?_
  refine ev_istore (np := 24) dX3_isLateBy_22 (by decide) rfl ?_
  exact late_out h0 h1 g0 g1 hb 8193 0 _ N2 none (LI.init hb h0 h1) rfl q1 (f1.tr q2)
