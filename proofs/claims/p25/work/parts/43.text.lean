theorem QcS.imp {S : Sy} {ad : Cc → Nat} {D : va_G} {ty : Bool → ClassId} {sz : Nat} {Q Q' : Option Val → Mem → Prop} (hq : ∀ v N, Q v N → Q' v N) {a : Array Value} {s : State} {o : Outcome} {t : State} (h : QcS S ad D ty sz Q a s o t) : QcS S ad D ty sz Q' a s o t := by
  obtain ⟨⟨v, N, b1, b2, b3⟩, b4⟩ := h
  exact ⟨⟨v, N, b1, hq v N b2, b3⟩, b4⟩
theorem Ev.imp {S : Sy} {q : MI} {pc : Nat} {ls : List (Option Val)} {st : List Val} {M : Mem} {Q Q' : Option Val → Mem → Prop} (h : Ev S q pc ls st M Q) (hq : ∀ v N, Q v N → Q' v N) : Ev S q pc ls st M Q' := by
  intro p l e s m args below meth c ad D ty H locs lsA hc hP hD hS hL T hT X
  obtain ⟨t, a, o, b1, b2, b3, b4⟩ := h p l e s m args below meth c ad D ty H locs lsA hc hP hD hS hL T hT X
  exact ⟨t, a, o, b1, b2, b3.imp hq, b4⟩
/-! THE TEXT -/
abbrev Txt : Type := Nat × (Nat → Nat)
def chr (x : Txt) (p : Nat) : Nat := if p < x.1 then x.2 p else 0
def XW (x : Txt) : Prop := x.1 ≤ 80 ∧ ∀ j, j < x.1 → 32 ≤ x.2 j ∧ x.2 j ≤ 126
def TxT (M : Mem) (x : Txt) : Prop := M (cX 25) 1 = (x.1 : Int) ∧ ∀ j, j < x.1 → M (cX 27) j = (x.2 j : Int)
theorem chr_lt {x : Txt} (h : XW x) (p : Nat) : chr x p < 127 := by
  unfold chr
  split
  · next g => have := h.2 p g; omega
  · omega
theorem Fx.txt {U : Cc → Bool} {M N : Mem} (h : Fx U M N) (h1 : U (cX 25) = false) (h2 : U (cX 27) = false) {x : Txt} (hx : TxT M x) : TxT N x := ⟨by rw [h _ h1]; exact hx.1, fun j hj => by rw [h _ h2]; exact hx.2 j hj⟩
theorem rw26 : IsRow (cX 26) (cX 27) 80 := ⟨rfl, rfl, by decide⟩
theorem sem_xlen {M : Mem} {x : Txt} (h : TxT M x) : Sem ST miX8_length [.inr (cX 25)] M (Ri (x.1 : Nat) M) := by
  refine Sem.of (by decide) ST_ok (Nat.le_of_ble_eq_true rfl) (ls0 := [some (.inr (cX 25))]) rfl ?_
  refine ev_aload_n (np := 1) dX8_length_0 rfl rfl ?_
  refine ev_getI (np := 4) sX8_length_1 rfl rfl rfl ?_
  rw [h.1]
  refine ev_iret dX8_length_4 rfl ?_
  exact ⟨rfl, rfl⟩
/-! THE HISTORY -/
abbrev Hst : Type := Nat × (Nat → Circ × Circ)
def hpush (h : Hst) (q : Circ × Circ) : Hst := if 4 ≤ h.1 then (4, fun e => if e = 3 then q else h.2 (e + 1)) else (h.1 + 1, fup h.2 h.1 q)
def HW (h : Hst) : Prop := h.1 ≤ 4 ∧ ∀ e, e < h.1 → WF (h.2 e).1 ∧ WF (h.2 e).2
theorem hpush_w {h : Hst} (hw : HW h) {q : Circ × Circ} (h1 : WF q.1) (h2 : WF q.2) : HW (hpush h q) := by
  unfold hpush
  split
  · refine ⟨Nat.le_refl 4, fun e he => ?_⟩
    show WF (if e = 3 then q else h.2 (e + 1)).1 ∧ WF (if e = 3 then q else h.2 (e + 1)).2
    by_cases g : e = 3
    · rw [if_pos g]; exact ⟨h1, h2⟩
    · rw [if_neg g]
      have he : e < 4 := he
      exact hw.2 (e + 1) (by omega)
  · refine ⟨by show h.1 + 1 ≤ 4; omega, fun e he => ?_⟩
    have he : e < h.1 + 1 := he
    show WF (fup h.2 h.1 q e).1 ∧ WF (fup h.2 h.1 q e).2
    by_cases g : e = h.1
    · rw [g, fup_s]; exact ⟨h1, h2⟩
    · rw [fup_n _ _ g]; exact hw.2 e (by omega)
def HistF (f : Nat → Int) (h : Hst) : Prop := ∀ e, e < h.1 → CircS (fun i => f (28 * e + i)) (h.2 e).1 ∧ CircS (fun i => f (28 * e + 14 + i)) (h.2 e).2
def HistT (M : Mem) (h : Hst) : Prop := M (cX 22) 1 = (h.1 : Int) ∧ HistF (M (cX 24)) h
theorem Fx.hist {U : Cc → Bool} {M N : Mem} (h : Fx U M N) (h1 : U (cX 22) = false) (h2 : U (cX 24) = false) {x : Hst} (hx : HistT M x) : HistT N x := ⟨by rw [h _ h1]; exact hx.1, by rw [h _ h2]; exact hx.2⟩
theorem rw23 : IsRow (cX 23) (cX 24) 112 := ⟨rfl, rfl, by decide⟩
theorem sem_hsize {M : Mem} {h : Hst} (hh : HistT M h) : Sem ST miX2_size [.inr (cX 22)] M (Ri (h.1 : Nat) M) := by
  refine Sem.of (by decide) ST_ok (Nat.le_of_ble_eq_true rfl) (ls0 := [some (.inr (cX 22))]) rfl ?_
  refine ev_aload_n (np := 1) dX2_size_0 rfl rfl ?_
  refine ev_getI (np := 4) sX2_size_1 rfl rfl rfl ?_
  rw [hh.1]
  refine ev_iret dX2_size_4 rfl ?_
  exact ⟨rfl, rfl⟩
theorem drop_loop {M : Mem} (hn : M (cX 22) 1 = 4) : ∀ (m j : Nat) (N : Mem), j + m = 84 → (∀ c, N (cX 24) c = if c < j then M (cX 24) (c + 28) else M (cX 24) c) → N (cX 22) 1 = 4 → Fx (uX 22 25) M N → Ev ST miX2_dropOldest 2 [some (.inr (cX 22)), some (.inl (j : Int))] [] N (fun v N => v = none ∧ (∀ c, c < 84 → N (cX 24) c = M (cX 24) (c + 28)) ∧ N (cX 22) 1 = 3 ∧ Fx (uX 22 25) M N) := by
  intro m
  induction m with
  | zero =>
    intro j N hj h1 h2 hf
    refine ev_iload_n (np := 3) dX2_dropOldest_2 rfl rfl ?_
    refine ev_bipush (np := 5) dX2_dropOldest_3 (by decide) rfl ?_
    refine ev_icmp_ge (tgt := 33) (np := 8) dX2_dropOldest_5 (by decide) rfl (by omega) (by omega) (fun _ => ?_) (fun h => absurd (by omega) h)
    refine ev_aload_n (np := 34) dX2_dropOldest_33 rfl rfl ?_
    refine ev_dup (np := 35) dX2_dropOldest_34 rfl ?_
    refine ev_getI (np := 38) sX2_dropOldest_35 rfl rfl rfl ?_
    rw [h2]
    refine ev_iconst (np := 39) dX2_dropOldest_38 rfl ?_
    refine ev_isub (np := 40) dX2_dropOldest_39 rfl ?_
    refine ev_put (np := 43) sX2_dropOldest_40 rfl rfl rfl ?_
    refine ev_vret dX2_dropOldest_43 rfl ?_
    exact ⟨rfl, fun c hc => by rw [show updM N (cX 22) 1 (4 - 1) (cX 24) c = N (cX 24) c by simp [updM], h1, if_pos (by omega)], updM_same _ _ _ _, hf.tr (Fx.upd rfl)⟩
  | succ m ih =>
    intro j N hj h1 h2 hf
    refine ev_iload_n (np := 3) dX2_dropOldest_2 rfl rfl ?_
    refine ev_bipush (np := 5) dX2_dropOldest_3 (by decide) rfl ?_
    refine ev_icmp_ge (tgt := 33) (np := 8) dX2_dropOldest_5 (by decide) rfl (by omega) (by omega) (fun h => absurd h (by omega)) (fun _ => ?_)
    refine ev_aload_n (np := 9) dX2_dropOldest_8 rfl rfl ?_
    refine ev_getR (np := 12) sX2_dropOldest_9 rfl rfl rfl ?_
    refine ev_iload_n (np := 13) dX2_dropOldest_12 rfl rfl ?_
    refine ev_aload_n (np := 14) dX2_dropOldest_13 rfl rfl ?_
    refine ev_getR (np := 17) sX2_dropOldest_14 rfl rfl rfl ?_
    refine ev_iload_n (np := 18) dX2_dropOldest_17 rfl rfl ?_
    refine ev_bipush (np := 20) dX2_dropOldest_18 (by decide) rfl ?_
    refine ev_iadd (np := 21) dX2_dropOldest_20 rfl ?_
    refine ev_Vi1 (np := 24) moX6_get sX2_dropOldest_21 (sem_get rw23 N (by omega)) rfl rfl (Nat.le_of_ble_eq_true rfl) rfl ?_
    rw [show ((j : Int) + 28).toNat = j + 28 by omega, h1 (j + 28), if_neg (by omega)]
    refine ev_Vv2 (np := 27) moX6_set sX2_dropOldest_24 (sem_set rw23 N (by omega)) rfl rfl (Nat.le_of_ble_eq_true rfl) rfl ?_
    rw [Int.toNat_natCast]
    refine ev_iinc (np := 30) dX2_dropOldest_27 rfl (by decide) rfl ?_
    refine ev_goto (np := 2) dX2_dropOldest_30 (by decide) ?_
    refine ih (j + 1) _ (by omega) (fun c => ?_) (by rw [← h2]; simp [updM]) (hf.tr (Fx.upd rfl))
    by_cases e : c = j
    · rw [e, updM_same, if_pos (by omega)]
    · rw [show updM N (cX 24) j (M (cX 24) (j + 28)) (cX 24) c = N (cX 24) c by simp [updM, e], h1]
      by_cases g : c < j
      · rw [if_pos g, if_pos (by omega)]
      · rw [if_neg g, if_neg (by omega)]
theorem sem_dropOldest {M : Mem} (hn : M (cX 22) 1 = 4) : Sem ST miX2_dropOldest [.inr (cX 22)] M (fun v N => v = none ∧ (∀ c, c < 84 → N (cX 24) c = M (cX 24) (c + 28)) ∧ N (cX 22) 1 = 3 ∧ Fx (uX 22 25) M N) := by
  refine Sem.of (by decide) ST_ok (Nat.le_of_ble_eq_true rfl) (ls0 := [some (.inr (cX 22)), none]) rfl ?_
  refine ev_iconst (np := 1) dX2_dropOldest_0 rfl ?_
  refine ev_istore_n (np := 2) dX2_dropOldest_1 (by decide) rfl ?_
  exact drop_loop hn 84 0 M rfl (fun c => by rw [if_neg (by omega)]) hn Fx.rf
theorem keep_loop {M : Mem} {n : Nat} (hn : n < 4) : ∀ (m j : Nat) (N : Mem), j + m = 14 → N (cX 22) 1 = (n : Int) → (∀ c, c < 28 * n → N (cX 24) c = M (cX 24) c) → (∀ i, i < j → N (cX 24) (28 * n + i) = scell M 0 i ∧ N (cX 24) (28 * n + 14 + i) = scell M 1 i) → Fx (uX 22 25) M N → Ev ST miX2_keep 23 [some (.inr (cX 22)), some (.inr (cC 0 0)), some (.inr (cC 1 0)), some (.inl ((28 * n : Nat) : Int)), some (.inl (j : Int))] [] N (fun v N => v = none ∧ N (cX 22) 1 = ((n + 1 : Nat) : Int) ∧ (∀ c, c < 28 * n → N (cX 24) c = M (cX 24) c) ∧ (∀ i, i < 14 → N (cX 24) (28 * n + i) = scell M 0 i ∧ N (cX 24) (28 * n + 14 + i) = scell M 1 i) ∧ Fx (uX 22 25) M N) := by
  intro m
  induction m with
  | zero =>
    intro j N hj h1 h2 h3 hf
    refine ev_iload (np := 25) dX2_keep_23 rfl rfl ?_
    refine ev_bipush (np := 27) dX2_keep_25 (by decide) rfl ?_
    refine ev_icmp_ge (tgt := 73) (np := 30) dX2_keep_27 (by decide) rfl (by omega) (by omega) (fun _ => ?_) (fun h => absurd (by omega) h)
    refine ev_aload_n (np := 74) dX2_keep_73 rfl rfl ?_
    refine ev_dup (np := 75) dX2_keep_74 rfl ?_
    refine ev_getI (np := 78) sX2_keep_75 rfl rfl rfl ?_
    rw [h1]
    refine ev_iconst (np := 79) dX2_keep_78 rfl ?_
    refine ev_iadd (np := 80) dX2_keep_79 rfl ?_
    refine ev_put (np := 83) sX2_keep_80 rfl rfl rfl ?_
    refine ev_vret dX2_keep_83 rfl ?_
    have e : ∀ c, updM N (cX 22) 1 ((n : Int) + 1) (cX 24) c = N (cX 24) c := fun c => by simp [updM]
    exact ⟨rfl, updM_same _ _ _ _, fun c hc => by rw [e]; exact h2 c hc, fun i hi => by rw [e, e]; exact h3 i (by omega), hf.tr (Fx.upd rfl)⟩
  | succ m ih =>
    intro j N hj h1 h2 h3 hf
    have s0 : scell N 0 = scell M 0 := hf.sc (fun o => rfl)
    have s1 : scell N 1 = scell M 1 := hf.sc (fun o => rfl)
    refine ev_iload (np := 25) dX2_keep_23 rfl rfl ?_
    refine ev_bipush (np := 27) dX2_keep_25 (by decide) rfl ?_
    refine ev_icmp_ge (tgt := 73) (np := 30) dX2_keep_27 (by decide) rfl (by omega) (by omega) (fun h => absurd h (by omega)) (fun _ => ?_)
    refine ev_aload_n (np := 31) dX2_keep_30 rfl rfl ?_
    refine ev_getR (np := 34) sX2_keep_31 rfl rfl rfl ?_
    refine ev_iload_n (np := 35) dX2_keep_34 rfl rfl ?_
    refine ev_iload (np := 37) dX2_keep_35 rfl rfl ?_
    refine ev_iadd (np := 38) dX2_keep_37 rfl ?_
    refine ev_aload_n (np := 39) dX2_keep_38 rfl rfl ?_
    refine ev_iload (np := 41) dX2_keep_39 rfl rfl ?_
    refine ev_Vi1 (np := 44) moX1_savedCell sX2_keep_41 (sem_savedCell N 0 (i := j) (by omega)) rfl rfl (Nat.le_of_ble_eq_true rfl) rfl ?_
    refine ev_Vv2 (np := 47) moX6_set sX2_keep_44 (sem_set rw23 N (by omega)) rfl rfl (Nat.le_of_ble_eq_true rfl) rfl ?_
    rw [show (((28 * n : Nat) : Int) + (j : Int)).toNat = 28 * n + j by omega]
    generalize hN1 : updM N (cX 24) (28 * n + j) (scell N 0 j) = N1
    have f1 : Fx (uX 22 25) M N1 := by rw [← hN1]; exact hf.tr (Fx.upd rfl)
    refine ev_aload_n (np := 48) dX2_keep_47 rfl rfl ?_
    refine ev_getR (np := 51) sX2_keep_48 rfl rfl rfl ?_
    refine ev_iload_n (np := 52) dX2_keep_51 rfl rfl ?_
    refine ev_bipush (np := 54) dX2_keep_52 (by decide) rfl ?_
    refine ev_iadd (np := 55) dX2_keep_54 rfl ?_
    refine ev_iload (np := 57) dX2_keep_55 rfl rfl ?_
    refine ev_iadd (np := 58) dX2_keep_57 rfl ?_
    refine ev_aload_n (np := 59) dX2_keep_58 rfl rfl ?_
    refine ev_iload (np := 61) dX2_keep_59 rfl rfl ?_
    refine ev_Vi1 (np := 64) moX1_savedCell sX2_keep_61 (sem_savedCell N1 1 (i := j) (by omega)) rfl rfl (Nat.le_of_ble_eq_true rfl) rfl ?_
    refine ev_Vv2 (np := 67) moX6_set sX2_keep_64 (sem_set rw23 N1 (by omega)) rfl rfl (Nat.le_of_ble_eq_true rfl) rfl ?_
    rw [show (((28 * n : Nat) : Int) + 14 + (j : Int)).toNat = 28 * n + 14 + j by omega]
    refine ev_iinc (np := 70) dX2_keep_67 rfl (by decide) rfl ?_
    refine ev_goto (np := 23) dX2_keep_70 (by decide) ?_
    have s1' : scell N1 1 = scell M 1 := f1.sc (fun o => rfl)
    rw [s1', ← hN1, s0]
    refine ih (j + 1) _ (by omega) (by rw [← h1]; simp [updM]) (fun c hc => ?_) (fun i hi => ?_) ((hf.tr (Fx.upd rfl)).tr (Fx.upd rfl))
    · rw [← h2 c hc]
      simp [updM, show c ≠ 28 * n + 14 + j by omega, show c ≠ 28 * n + j by omega]
    · by_cases e : i = j
      · subst e
        constructor
        · simp [updM]
        · simp [updM]
      · obtain ⟨a, b⟩ := h3 i (by omega)
        constructor
        · rw [← a]; simp [updM, e, show 28 * n + i ≠ 28 * n + 14 + j by omega]
        · rw [← b]; simp [updM, e, show 28 * n + 14 + i ≠ 28 * n + j by omega]
theorem sem_keep {M : Mem} {h : Hst} {Z O : Circ} (hw : HW h) (hZ : WF Z) (hO : WF O) (hh : HistT M h) (cz : CircT M 0 Z) (c1 : CircT M 1 O) : Sem ST miX2_keep [.inr (cX 22), .inr (cC 0 0), .inr (cC 1 0)] M (fun v N => v = none ∧ HistT N (hpush h (Z, O)) ∧ Fx (uX 22 25) M N) := by
  refine Sem.of (by decide) ST_ok (Nat.le_of_ble_eq_true rfl) (ls0 := [some (.inr (cX 22)), some (.inr (cC 0 0)), some (.inr (cC 1 0)), none, none]) rfl ?_
  have h4 := hw.1
  have fin : ∀ (n : Nat) (N N2 : Mem) (h' : Hst), n < 4 → h'.1 = n → HistF (N (cX 24)) h' → HW h' → (N2 (cX 22) 1 = ((n + 1 : Nat) : Int) ∧ (∀ c, c < 28 * n → N2 (cX 24) c = N (cX 24) c) ∧ (∀ i, i < 14 → N2 (cX 24) (28 * n + i) = scell N 0 i ∧ N2 (cX 24) (28 * n + 14 + i) = scell N 1 i)) → CircT N 0 Z → CircT N 1 O → HistT N2 (n + 1, fup h'.2 n (Z, O)) := by
    intro n N N2 h' hn e hF hW ⟨a1, a2, a3⟩ z1 o1
    refine ⟨a1, fun q hq => ?_⟩
    have hq2 : q < n + 1 := hq
    show CircS _ (fup h'.2 n (Z, O) q).1 ∧ CircS _ (fup h'.2 n (Z, O) q).2
    by_cases g : q = n
    · rw [g, fup_s]
      exact ⟨CircS.of hZ z1 (fun i hi => (a3 i hi).1), CircS.of hO o1 (fun i hi => (a3 i hi).2)⟩
    · rw [fup_n _ _ g]
      obtain ⟨b1, b2⟩ := hF q (by omega)
      obtain ⟨w1, w2⟩ := hW.2 q (by omega)
      exact ⟨CircS.of w1 b1 (fun i hi => a2 _ (by omega)), CircS.of w2 b2 (fun i hi => a2 _ (by omega))⟩
  refine ev_aload_n (np := 1) dX2_keep_0 rfl rfl ?_
  refine ev_getI (np := 4) sX2_keep_1 rfl rfl rfl ?_
  rw [hh.1]
  refine ev_iconst (np := 5) dX2_keep_4 rfl ?_
  refine ev_icmp_lt (tgt := 12) (np := 8) dX2_keep_5 (by decide) rfl (by omega) (by omega) (fun hq => ?_) (fun hq => ?_)
  · refine ev_aload_n (np := 13) dX2_keep_12 rfl rfl ?_
    refine ev_getI (np := 16) sX2_keep_13 rfl rfl rfl ?_
    rw [hh.1]
    refine ev_bipush (np := 18) dX2_keep_16 (by decide) rfl ?_
    refine ev_imul (np := 19) dX2_keep_18 rfl ?_
    refine ev_istore_n (np := 20) dX2_keep_19 (by decide) rfl ?_
    refine ev_iconst (np := 21) dX2_keep_20 rfl ?_
    refine ev_istore (np := 23) dX2_keep_21 (by decide) rfl ?_
    rw [show (h.1 : Int) * 28 = ((28 * h.1 : Nat) : Int) by omega]
    intro p l e s m args below meth c ad D ty H locs lsA
    refine Ev.imp (keep_loop (M := M) (n := h.1) (by omega) 14 0 M rfl hh.1 (fun _ _ => rfl) (fun i hi => absurd hi (Nat.not_lt_zero i)) Fx.rf) ?_ p l e s m args below meth c ad D ty H locs lsA
    rintro v N ⟨rfl, a1, a2, a3, a4⟩
    rw [hpush, if_neg (by omega)]
    exact ⟨rfl, fin h.1 M N h (by omega) rfl hh.2 hw ⟨a1, a2, a3⟩ cz c1, a4⟩
  · have h4' : h.1 = 4 := by omega
    refine ev_aload_n (np := 9) dX2_keep_8 rfl rfl ?_
    refine ev_V0 (np := 12) moX2_dropOldest sX2_keep_9 (sem_dropOldest (M := M) (by rw [hh.1, h4']; rfl) ) rfl rfl (Nat.le_of_ble_eq_true rfl) rfl (fun v N hq => ?_)
    obtain ⟨rfl, d1, d2, d3⟩ := hq
    refine ev_aload_n (np := 13) dX2_keep_12 rfl rfl ?_
    refine ev_getI (np := 16) sX2_keep_13 rfl rfl rfl ?_
    rw [d2]
    refine ev_bipush (np := 18) dX2_keep_16 (by decide) rfl ?_
    refine ev_imul (np := 19) dX2_keep_18 rfl ?_
    refine ev_istore_n (np := 20) dX2_keep_19 (by decide) rfl ?_
    refine ev_iconst (np := 21) dX2_keep_20 rfl ?_
    refine ev_istore (np := 23) dX2_keep_21 (by decide) rfl ?_
    rw [show (3 : Int) * 28 = ((28 * 3 : Nat) : Int) from rfl]
    intro p l e s m args below meth c ad D ty H locs lsA
    refine Ev.imp (keep_loop (M := N) (n := 3) (by omega) 14 0 N rfl d2 (fun _ _ => rfl) (fun i hi => absurd hi (Nat.not_lt_zero i)) Fx.rf) ?_ p l e s m args below meth c ad D ty H locs lsA
    rintro v N2 ⟨rfl, a1, a2, a3, a4⟩
    rw [hpush, if_pos (by omega)]
    have hF : HistF (N (cX 24)) (3, fun e => h.2 (e + 1)) := by
      intro q hq
      have hq : q < 3 := hq
      obtain ⟨b1, b2⟩ := hh.2 (q + 1) (by omega)
      obtain ⟨w1, w2⟩ := hw.2 (q + 1) (by omega)
      exact ⟨CircS.of w1 b1 (fun i hi => by show N (cX 24) (28 * q + i) = M (cX 24) (28 * (q + 1) + i); rw [d1 _ (by omega)]; congr 1; omega), CircS.of w2 b2 (fun i hi => by show N (cX 24) (28 * q + 14 + i) = M (cX 24) (28 * (q + 1) + 14 + i); rw [d1 _ (by omega)]; congr 1; omega)⟩
    have hW : HW (3, fun e => h.2 (e + 1)) := ⟨(by decide : (3 : Nat) ≤ 4), fun q hq => hw.2 (q + 1) (by have hq : q < 3 := hq; omega)⟩
    have := fin 3 N N2 (3, fun e => h.2 (e + 1)) (by decide) rfl hF hW ⟨a1, a2, a3⟩ (d3.circ (fun o => rfl) cz) (d3.circ (fun o => rfl) c1)
    exact ⟨rfl, this, d3.tr a4⟩
theorem give_loop {M : Mem} {n : Nat} (hn : n < 4) : ∀ (m j : Nat) (N : Mem), j + m = 14 → N (cX 24) = M (cX 24) → (∀ i, i < j → scell N 0 i = M (cX 24) (28 * n + i) ∧ scell N 1 i = M (cX 24) (28 * n + 14 + i)) → Fx (fun c => uC 0 c || uC 1 c) M N → Ev ST miX2_giveBack 29 [some (.inr (cX 22)), some (.inr (cC 0 0)), some (.inr (cC 1 0)), some (.inl ((28 * n : Nat) : Int)), some (.inl (j : Int))] [] N (fun v N => v = none ∧ (∀ i, i < 14 → scell N 0 i = M (cX 24) (28 * n + i) ∧ scell N 1 i = M (cX 24) (28 * n + 14 + i)) ∧ Fx (fun c => uC 0 c || uC 1 c) M N) := by
  intro m
  induction m with
  | zero =>
    intro j N hj h1 h2 hf
    refine ev_iload (np := 31) dX2_giveBack_29 rfl rfl ?_
    refine ev_bipush (np := 33) dX2_giveBack_31 (by decide) rfl ?_
    refine ev_icmp_ge (tgt := 79) (np := 36) dX2_giveBack_33 (by decide) rfl (by omega) (by omega) (fun _ => ?_) (fun h => absurd (by omega) h)
    refine ev_vret dX2_giveBack_79 rfl ?_
    exact ⟨rfl, fun i hi => h2 i (by omega), hf⟩
  | succ m ih =>
    intro j N hj h1 h2 hf
    refine ev_iload (np := 31) dX2_giveBack_29 rfl rfl ?_
    refine ev_bipush (np := 33) dX2_giveBack_31 (by decide) rfl ?_
    refine ev_icmp_ge (tgt := 79) (np := 36) dX2_giveBack_33 (by decide) rfl (by omega) (by omega) (fun h => absurd h (by omega)) (fun _ => ?_)
    refine ev_aload_n (np := 37) dX2_giveBack_36 rfl rfl ?_
    refine ev_iload (np := 39) dX2_giveBack_37 rfl rfl ?_
    refine ev_aload_n (np := 40) dX2_giveBack_39 rfl rfl ?_
    refine ev_getR (np := 43) sX2_giveBack_40 rfl rfl rfl ?_
    refine ev_iload_n (np := 44) dX2_giveBack_43 rfl rfl ?_
    refine ev_iload (np := 46) dX2_giveBack_44 rfl rfl ?_
    refine ev_iadd (np := 47) dX2_giveBack_46 rfl ?_
    refine ev_Vi1 (np := 50) moX6_get sX2_giveBack_47 (sem_get rw23 N (by omega)) rfl rfl (Nat.le_of_ble_eq_true rfl) rfl ?_
    rw [show (((28 * n : Nat) : Int) + (j : Int)).toNat = 28 * n + j by omega, h1]
    refine ev_Vv2 (np := 53) moX1_setSavedCell sX2_giveBack_50 (sem_setSavedCell N 0 (i := j) (by omega) _) rfl rfl (Nat.le_of_ble_eq_true rfl) rfl ?_
    generalize hN1 : setS N 0 j (M (cX 24) (28 * n + j)) = N1
    have f0 : Fr 0 N N1 := by rw [← hN1]; exact setS_fr _ _ _ _
    have f1 : Fx (fun c => uC 0 c || uC 1 c) M N1 := hf.tr (f0.fx.mono (fun c hc => by simp [hc]))
    refine ev_aload_n (np := 54) dX2_giveBack_53 rfl rfl ?_
    refine ev_iload (np := 56) dX2_giveBack_54 rfl rfl ?_
    refine ev_aload_n (np := 57) dX2_giveBack_56 rfl rfl ?_
    refine ev_getR (np := 60) sX2_giveBack_57 rfl rfl rfl ?_
    refine ev_iload_n (np := 61) dX2_giveBack_60 rfl rfl ?_
    refine ev_bipush (np := 63) dX2_giveBack_61 (by decide) rfl ?_
    refine ev_iadd (np := 64) dX2_giveBack_63 rfl ?_
    refine ev_iload (np := 66) dX2_giveBack_64 rfl rfl ?_
    refine ev_iadd (np := 67) dX2_giveBack_66 rfl ?_
    refine ev_Vi1 (np := 70) moX6_get sX2_giveBack_67 (sem_get rw23 N1 (by omega)) rfl rfl (Nat.le_of_ble_eq_true rfl) rfl ?_
    rw [show (((28 * n : Nat) : Int) + 14 + (j : Int)).toNat = 28 * n + 14 + j by omega, f0 _ (fun o e => by cases e), h1]
    refine ev_Vv2 (np := 73) moX1_setSavedCell sX2_giveBack_70 (sem_setSavedCell N1 1 (i := j) (by omega) _) rfl rfl (Nat.le_of_ble_eq_true rfl) rfl ?_
    refine ev_iinc (np := 76) dX2_giveBack_73 rfl (by decide) rfl ?_
    refine ev_goto (np := 29) dX2_giveBack_76 (by decide) ?_
    have f2 := setS_fr N1 1 j (M (cX 24) (28 * n + 14 + j))
    refine ih (j + 1) _ (by omega) ?_ (fun i hi => ?_) (f1.tr (f2.fx.mono (fun c hc => by simp [hc])))
    · rw [f2 _ (fun o e => by cases e), f0 _ (fun o e => by cases e), h1]
    · rw [f2.sc (by decide), setS_sc, ← hN1, setS_sc, (setS_fr N 0 j _).sc (by decide)]
      by_cases e : i = j
      · subst e; simp
      · rw [if_neg e, if_neg e]; exact h2 i (by omega)
theorem sem_giveBack {M : Mem} {h : Hst} (hw : HW h) (hh : HistT M h) (hp : 0 < h.1) : Sem ST miX2_giveBack [.inr (cX 22), .inr (cC 0 0), .inr (cC 1 0)] M (fun v N => v = none ∧ HistT N (h.1 - 1, h.2) ∧ CircT N 0 (h.2 (h.1 - 1)).1 ∧ CircT N 1 (h.2 (h.1 - 1)).2 ∧ Fx (fun c => (uC 0 c || uC 1 c) || uX 22 25 c) M N) := by
  refine Sem.of (by decide) ST_ok (Nat.le_of_ble_eq_true rfl) (ls0 := [some (.inr (cX 22)), some (.inr (cC 0 0)), some (.inr (cC 1 0)), none, none]) rfl ?_
  have h4 := hw.1
  refine ev_aload_n (np := 1) dX2_giveBack_0 rfl rfl ?_
  refine ev_getI (np := 4) sX2_giveBack_1 rfl rfl rfl ?_
  rw [hh.1]
  refine ev_if_ne (tgt := 8) (np := 7) dX2_giveBack_4 (by decide) rfl (by omega) (fun _ => ?_) (fun h => absurd h (by omega))
  refine ev_aload_n (np := 9) dX2_giveBack_8 rfl rfl ?_
  refine ev_dup (np := 10) dX2_giveBack_9 rfl ?_
  refine ev_getI (np := 13) sX2_giveBack_10 rfl rfl rfl ?_
  rw [hh.1]
  refine ev_iconst (np := 14) dX2_giveBack_13 rfl ?_
  refine ev_isub (np := 15) dX2_giveBack_14 rfl ?_
  refine ev_put (np := 18) sX2_giveBack_15 rfl rfl rfl ?_
  refine ev_aload_n (np := 19) dX2_giveBack_18 rfl rfl ?_
  refine ev_getI (np := 22) sX2_giveBack_19 rfl rfl rfl ?_
  rw [updM_same]
  refine ev_bipush (np := 24) dX2_giveBack_22 (by decide) rfl ?_
  refine ev_imul (np := 25) dX2_giveBack_24 rfl ?_
  refine ev_istore_n (np := 26) dX2_giveBack_25 (by decide) rfl ?_
  refine ev_iconst (np := 27) dX2_giveBack_26 rfl ?_
  refine ev_istore (np := 29) dX2_giveBack_27 (by decide) rfl ?_
  generalize hN : updM M (cX 22) 1 ((h.1 : Int) - 1) = N
  have f1 : Fx (uX 22 25) M N := by rw [← hN]; exact Fx.upd rfl
  have e24 : N (cX 24) = M (cX 24) := by rw [← hN]; funext c; simp [updM]
  rw [show ((h.1 : Int) - 1) * 28 = ((28 * (h.1 - 1) : Nat) : Int) by omega]
  intro p l e s m args below meth c ad D ty H locs lsA
  refine Ev.imp (give_loop (M := N) (n := h.1 - 1) (by omega) 14 0 N rfl rfl (fun i hi => absurd hi (Nat.not_lt_zero i)) Fx.rf) ?_ p l e s m args below meth c ad D ty H locs lsA
  rintro v N2 ⟨rfl, a1, a2⟩
  obtain ⟨b1, b2⟩ := hh.2 (h.1 - 1) (by omega)
  obtain ⟨w1, w2⟩ := hw.2 (h.1 - 1) (by omega)
  rw [e24] at a1
  refine ⟨rfl, ⟨?_, ?_⟩, CircS.of w1 b1 (fun i hi => (a1 i hi).1), CircS.of w2 b2 (fun i hi => (a1 i hi).2), (f1.mono (fun c hc => by simp [hc])).tr (a2.mono (fun c hc => by simp at hc; rcases hc with g | g <;> simp [g]))⟩
  · rw [a2 _ rfl, ← hN, updM_same]
    show (h.1 : Int) - 1 = ((h.1 - 1 : Nat) : Int)
    omega
  · rw [a2 _ rfl, e24]
    exact fun q hq => hh.2 q (by have hq : q < h.1 - 1 := hq; omega)
