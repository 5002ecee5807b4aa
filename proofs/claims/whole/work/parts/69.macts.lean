/-! WHAT CHANGES THE CIRCUITS, in the reference -/
theorem keeps_loop {M : Mem} : ∀ (m j : Nat) (N : Mem), j + m = 68 → Fy (uM [3] []) M N → (∀ q, q < j → N (cX 3) q = M (cX 1) q) → Ev SM miX10_keeps 2 [some (.inr (cX 0)), some (.inl (j : Int))] [] N (fun v N => v = none ∧ Fy (uM [3] []) M N ∧ ∀ q, q < 68 → N (cX 3) q = M (cX 1) q) := by
  intro m
  induction m with
  | zero =>
    intro j N hj hf h
    refine ev_iload_n (np := 3) dX10_keeps_2 rfl rfl ?_
    refine ev_bipush (np := 5) dX10_keeps_3 (by decide) rfl ?_
    refine ev_icmp_ge (tgt := 26) (np := 8) dX10_keeps_5 (by decide) rfl (by omega) (by omega) (fun _ => ?_) (fun h => absurd (by omega) h)
    refine ev_vret dX10_keeps_26 rfl ?_
    exact ⟨rfl, hf, fun q hq => h q (by omega)⟩
  | succ m ih =>
    intro j N hj hf h
    refine ev_iload_n (np := 3) dX10_keeps_2 rfl rfl ?_
    refine ev_bipush (np := 5) dX10_keeps_3 (by decide) rfl ?_
    refine ev_icmp_ge (tgt := 26) (np := 8) dX10_keeps_5 (by decide) rfl (by omega) (by omega) (fun h => absurd h (by omega)) (fun _ => ?_)
    refine ev_aload_n (np := 9) dX10_keeps_8 rfl rfl ?_
    refine ev_getR (np := 12) sX10_keeps_9 rfl rfl rfl ?_
    refine ev_iload_n (np := 13) dX10_keeps_12 rfl rfl ?_
    refine ev_aload_n (np := 14) dX10_keeps_13 rfl rfl ?_
    refine ev_getR (np := 17) sX10_keeps_14 rfl rfl rfl ?_
    refine ev_iload_n (np := 18) dX10_keeps_17 rfl rfl ?_
    refine ev_iaload (np := 19) dX10_keeps_18 rfl (by omega) (by omega) rfl ?_
    rw [Int.toNat_natCast, hf.arr (n := 1) (by decide)]
    refine ev_iastore (np := 20) dX10_keeps_19 rfl (by omega) (by omega) rfl ?_
    rw [Int.toNat_natCast]
    refine ev_iinc (np := 23) dX10_keeps_20 rfl (by decide) rfl ?_
    refine ev_goto (np := 2) dX10_keeps_23 (by decide) ?_
    refine ih (j + 1) _ (by omega) (hf.tr (Fy.upd rfl)) (fun q hq => ?_)
    by_cases e : q = j
    · rw [e, updM_same]
    · rw [← h q (by omega)]; simp [updM, e]
theorem sem_keeps (M : Mem) : Sem SM miX10_keeps [.inr (cX 0)] M (fun v N => v = none ∧ Fy (uM [3] []) M N ∧ ∀ q, q < 68 → N (cX 3) q = M (cX 1) q) := by
  refine Sem.of (by decide) SM_ok (Nat.le_of_ble_eq_true rfl) (ls0 := [some (.inr (cX 0)), none]) rfl ?_
  refine ev_iconst (np := 1) dX10_keeps_0 rfl ?_
  refine ev_istore_n (np := 2) dX10_keeps_1 (by decide) rfl ?_
  exact keeps_loop 68 0 M rfl Fy.rf (fun q hq => absurd hq (Nat.not_lt_zero q))
theorem act_push {M : Mem} {v : Int} (hv : 0 ≤ v ∧ v < 2147483648) {n : Nat} (hn : n < 4) {g : Nat → Circ × Circ} (hg : ∀ e, e < n → WF (g e).1 ∧ WF (g e).2) (hh : HistM M (n, g)) {Z O : Circ} (hZ : WF Z) (hO : WF O) (b0 : RefC (fun i => M (cX 3) i) Z) (b1 : RefC (fun i => M (cX 3) (34 + i)) O) : ∀ (m j : Nat) (N : Mem), j + m = 68 → Fy (uM [2] [3]) M N → N (cX 0) 3 = (n : Int) → (∀ c, c < 68 * n → N (cX 2) c = M (cX 2) c) → (∀ q, q < j → N (cX 2) (68 * n + q) = M (cX 3) q) → Ev SM miX10_acted 56 [some (.inr (cX 0)), some (.inl v), some (.inl (j : Int))] [] N (fun u N => u = some (.inl v) ∧ HistM N (n + 1, fup g n (Z, O)) ∧ Fy (uM [2] [3]) M N) := by
  intro m
  induction m with
  | zero =>
    intro j N hj hf h0 h1 h2
    refine ev_iload_n (np := 57) dX10_acted_56 rfl rfl ?_
    refine ev_bipush (np := 59) dX10_acted_57 (by decide) rfl ?_
    refine ev_icmp_ge (tgt := 88) (np := 62) dX10_acted_59 (by decide) rfl (by omega) (by omega) (fun _ => ?_) (fun h => absurd (by omega) h)
    refine ev_aload_n (np := 89) dX10_acted_88 rfl rfl ?_
    refine ev_dup (np := 90) dX10_acted_89 rfl ?_
    refine ev_getI (np := 93) sX10_acted_90 rfl rfl rfl ?_
    rw [h0]
    refine ev_iconst (np := 94) dX10_acted_93 rfl ?_
    refine ev_iadd (np := 95) dX10_acted_94 rfl ?_
    refine ev_put (np := 98) sX10_acted_95 rfl rfl rfl ?_
    refine ev_iload_n (np := 99) dX10_acted_98 rfl rfl ?_
    refine ev_iret dX10_acted_99 rfl ?_
    have e2 : updM N (cX 0) 3 ((n : Int) + 1) (cX 2) = N (cX 2) := by funext c; simp [updM]
    refine ⟨rfl, ⟨updM_same _ _ _ _, fun e he => ?_⟩, hf.tr (Fy.upd rfl)⟩
    have he : e < n + 1 := he
    rw [e2]
    show RefC _ (fup g n (Z, O) e).1 ∧ RefC _ (fup g n (Z, O) e).2
    by_cases c : e = n
    · subst c
      rw [fup_s]
      refine ⟨RefC.of hZ b0 (fun i hi => h2 i (by omega)), RefC.of hO b1 (fun i hi => ?_)⟩
      have := h2 (34 + i) (by omega)
      rw [← Nat.add_assoc] at this
      exact this
    · rw [fup_n _ _ c]
      obtain ⟨a1, a2⟩ := hh.2 e (by show e < n; omega)
      obtain ⟨w1, w2⟩ := hg e (by omega)
      exact ⟨RefC.of w1 a1 (fun i hi => h1 _ (by omega)), RefC.of w2 a2 (fun i hi => h1 _ (by omega))⟩
  | succ m ih =>
    intro j N hj hf h0 h1 h2
    have e3 : ∀ q, N (cX 3) q = M (cX 3) q := fun q => by rw [hf.arr (n := 3) (by decide)]
    refine ev_iload_n (np := 57) dX10_acted_56 rfl rfl ?_
    refine ev_bipush (np := 59) dX10_acted_57 (by decide) rfl ?_
    refine ev_icmp_ge (tgt := 88) (np := 62) dX10_acted_59 (by decide) rfl (by omega) (by omega) (fun h => absurd h (by omega)) (fun _ => ?_)
    refine ev_aload_n (np := 63) dX10_acted_62 rfl rfl ?_
    refine ev_getR (np := 66) sX10_acted_63 rfl rfl rfl ?_
    refine ev_bipush (np := 68) dX10_acted_66 (by decide) rfl ?_
    refine ev_aload_n (np := 69) dX10_acted_68 rfl rfl ?_
    refine ev_getI (np := 72) sX10_acted_69 rfl rfl rfl ?_
    rw [h0]
    refine ev_imul (np := 73) dX10_acted_72 rfl ?_
    refine ev_iload_n (np := 74) dX10_acted_73 rfl rfl ?_
    refine ev_iadd (np := 75) dX10_acted_74 rfl ?_
    refine ev_aload_n (np := 76) dX10_acted_75 rfl rfl ?_
    refine ev_getR (np := 79) sX10_acted_76 rfl rfl rfl ?_
    refine ev_iload_n (np := 80) dX10_acted_79 rfl rfl ?_
    refine ev_iaload (np := 81) dX10_acted_80 rfl (by omega) (by omega) rfl ?_
    rw [Int.toNat_natCast]
    refine ev_iastore (np := 82) dX10_acted_81 rfl (by omega) (by omega) rfl ?_
    rw [show ((68 : Int) * (n : Int) + (j : Int)).toNat = 68 * n + j by omega]
    refine ev_iinc (np := 85) dX10_acted_82 rfl (by decide) rfl ?_
    refine ev_goto (np := 56) dX10_acted_85 (by decide) ?_
    refine ih (j + 1) _ (by omega) (hf.tr (Fy.upd rfl)) (by rw [updM_f (b := 2) rfl]; exact h0) (fun c hc => ?_) (fun q hq => ?_)
    · rw [← h1 c hc]
      have : ¬ c = 68 * n + j := by omega
      simp [updM, this]
    · by_cases e : q = j
      · rw [e, updM_same, e3]
      · rw [← h2 q (by omega)]
        simp [updM, e]
theorem act_shift {M : Mem} {v : Int} {Q : Option Val → Mem → Prop} (h4 : M (cX 0) 3 = 4)
    (K : ∀ (N : Mem) (u : Option Val), Fy (uM [2] [3]) M N → N (cX 0) 3 = 3 → (∀ c, c < 204 → N (cX 2) c = M (cX 2) (c + 68)) → Ev SM miX10_acted 54 [some (.inr (cX 0)), some (.inl v), u] [] N Q) :
    ∀ (m j : Nat) (N : Mem), j + m = 204 → Fy (uM [2] []) M N → (∀ c, N (cX 2) c = if c < j then M (cX 2) (c + 68) else M (cX 2) c) → Ev SM miX10_acted 16 [some (.inr (cX 0)), some (.inl v), some (.inl (j : Int))] [] N Q := by
  intro m
  induction m with
  | zero =>
    intro j N hj hf h
    have h0 : N (cX 0) 3 = 4 := by rw [hf.fld (j := 3) (by decide)]; exact h4
    refine ev_iload_n (np := 17) dX10_acted_16 rfl rfl ?_
    refine ev_sipush (np := 20) dX10_acted_17 (by decide) rfl ?_
    refine ev_icmp_ge (tgt := 44) (np := 23) dX10_acted_20 (by decide) rfl (by omega) (by omega) (fun _ => ?_) (fun h => absurd (by omega) h)
    refine ev_aload_n (np := 45) dX10_acted_44 rfl rfl ?_
    refine ev_dup (np := 46) dX10_acted_45 rfl ?_
    refine ev_getI (np := 49) sX10_acted_46 rfl rfl rfl ?_
    rw [h0]
    refine ev_iconst (np := 50) dX10_acted_49 rfl ?_
    refine ev_isub (np := 51) dX10_acted_50 rfl ?_
    refine ev_put (np := 54) sX10_acted_51 rfl rfl rfl ?_
    refine K _ _ ((hf.le (by decide)).tr (Fy.upd rfl)) (updM_same _ _ _ _) (fun c hc => ?_)
    rw [show updM N (cX 0) 3 (4 - 1) (cX 2) c = N (cX 2) c by simp [updM], h c, if_pos (by omega)]
  | succ m ih =>
    intro j N hj hf h
    refine ev_iload_n (np := 17) dX10_acted_16 rfl rfl ?_
    refine ev_sipush (np := 20) dX10_acted_17 (by decide) rfl ?_
    refine ev_icmp_ge (tgt := 44) (np := 23) dX10_acted_20 (by decide) rfl (by omega) (by omega) (fun h => absurd h (by omega)) (fun _ => ?_)
    refine ev_aload_n (np := 24) dX10_acted_23 rfl rfl ?_
    refine ev_getR (np := 27) sX10_acted_24 rfl rfl rfl ?_
    refine ev_iload_n (np := 28) dX10_acted_27 rfl rfl ?_
    refine ev_aload_n (np := 29) dX10_acted_28 rfl rfl ?_
    refine ev_getR (np := 32) sX10_acted_29 rfl rfl rfl ?_
    refine ev_iload_n (np := 33) dX10_acted_32 rfl rfl ?_
    refine ev_bipush (np := 35) dX10_acted_33 (by decide) rfl ?_
    refine ev_iadd (np := 36) dX10_acted_35 rfl ?_
    refine ev_iaload (np := 37) dX10_acted_36 rfl (by omega) (by omega) rfl ?_
    rw [show ((j : Int) + 68).toNat = j + 68 by omega, h (j + 68), if_neg (by omega)]
    refine ev_iastore (np := 38) dX10_acted_37 rfl (by omega) (by omega) rfl ?_
    rw [Int.toNat_natCast]
    refine ev_iinc (np := 41) dX10_acted_38 rfl (by decide) rfl ?_
    refine ev_goto (np := 16) dX10_acted_41 (by decide) ?_
    refine ih (j + 1) _ (by omega) (hf.tr (Fy.upd rfl)) (fun c => ?_)
    by_cases e : c = j
    · rw [e, updM_same, if_pos (by omega)]
    · rw [show updM N (cX 2) j (M (cX 2) (j + 68)) (cX 2) c = N (cX 2) c by simp [updM, e], h c]
      by_cases g : c < j
      · rw [if_pos g, if_pos (by omega)]
      · rw [if_neg g, if_neg (by omega)]
theorem sem_macted {M : Mem} {v : Int} (hv : 0 ≤ v ∧ v < 2147483648) {h : Hst} (hw : HW h) (hh : HistM M h) {Z O : Circ} (hZ : WF Z) (hO : WF O) (b0 : RefC (fun i => M (cX 3) i) Z) (b1 : RefC (fun i => M (cX 3) (34 + i)) O) : Sem SM miX10_acted [.inr (cX 0), .inl v] M (fun u N => u = some (.inl v) ∧ HistM N (hpush h (Z, O)) ∧ Fy (uM [2] [3]) M N) := by
  refine Sem.of (by decide) SM_ok (Nat.le_of_ble_eq_true rfl) (ls0 := [some (.inr (cX 0)), some (.inl v), none]) rfl ?_
  obtain ⟨w1, w2⟩ := hw
  have h3 := hh.1
  refine ev_iload_n (np := 1) dX10_acted_0 rfl rfl ?_
  refine ev_ldc (np := 3) sX10_acted_1 rfl ?_
  refine ev_icmp_le (tgt := 98) (np := 6) dX10_acted_3 (by decide) rfl (by omega) (by omega) (fun h => absurd h (by omega)) (fun _ => ?_)
  refine ev_aload_n (np := 7) dX10_acted_6 rfl rfl ?_
  refine ev_getI (np := 10) sX10_acted_7 rfl rfl rfl ?_
  refine ev_iconst (np := 11) dX10_acted_10 rfl ?_
  rw [h3]
  by_cases g : h.1 = 4
  · refine ev_icmp_ne (tgt := 54) (np := 14) dX10_acted_11 (by decide) rfl (by omega) (by omega) (fun h => absurd (by omega) h) (fun _ => ?_)
    refine ev_iconst (np := 15) dX10_acted_14 rfl ?_
    refine ev_istore_n (np := 16) dX10_acted_15 (by decide) rfl ?_
    refine act_shift (by rw [h3, g]; rfl) ?_ 204 0 M rfl Fy.rf (fun c => by rw [if_neg (by omega)])
    intro N u hf hn hs
    have e3 : ∀ q, N (cX 3) q = M (cX 3) q := fun q => by rw [hf.arr (n := 3) (by decide)]
    refine ev_iconst (np := 55) dX10_acted_54 rfl ?_
    refine ev_istore_n (np := 56) dX10_acted_55 (by decide) rfl ?_
    have hN : HistM N (3, fun e => h.2 (e + 1)) := ⟨hn, fun e he => by
      have he : e < 3 := he
      obtain ⟨a1, a2⟩ := hh.2 (e + 1) (by omega)
      obtain ⟨x1, x2⟩ := w2 (e + 1) (by omega)
      refine ⟨RefC.of x1 a1 (fun i hi => ?_), RefC.of x2 a2 (fun i hi => ?_)⟩
      · show N (cX 2) (68 * e + i) = M (cX 2) (68 * (e + 1) + i)
        rw [hs _ (by omega)]
        congr 1
        omega
      · show N (cX 2) (68 * e + 34 + i) = M (cX 2) (68 * (e + 1) + 34 + i)
        rw [hs _ (by omega)]
        congr 1
        omega⟩
    have K := act_push hv (show 3 < 4 by decide) (fun e he => w2 (e + 1) (by omega)) hN hZ hO (by simpa only [e3] using b0) (by simpa only [e3] using b1) 68 0 N rfl Fy.rf hn (fun c hc => rfl) (fun q hq => absurd hq (Nat.not_lt_zero q))
    refine Ev.imp K ?_
    rintro u N' ⟨h1, h2, h4⟩
    refine ⟨h1, ?_, hf.tr h4⟩
    unfold hpush
    rw [if_pos (by omega)]
    exact h2
  · refine ev_icmp_ne (tgt := 54) (np := 14) dX10_acted_11 (by decide) rfl (by omega) (by omega) (fun _ => ?_) (fun h => absurd h (by omega))
    refine ev_iconst (np := 55) dX10_acted_54 rfl ?_
    refine ev_istore_n (np := 56) dX10_acted_55 (by decide) rfl ?_
    have K := act_push hv (show h.1 < 4 by omega) w2 (g := h.2) hh hZ hO b0 b1 68 0 M rfl Fy.rf h3 (fun c hc => rfl) (fun q hq => absurd hq (Nat.not_lt_zero q))
    refine Ev.imp K ?_
    rintro u N' ⟨h1, h2, h4⟩
    refine ⟨h1, ?_, h4⟩
    unfold hpush
    rw [if_neg (by omega)]
    exact h2
/-- a call's end: the row of one circuit is new, the state ahead is kept -/
theorem sem_mact {M N2 : Mem} {σ : Sg} (hW : SgW σ) (h : InvM M σ) {c : Int} {b : Nat} (hc : c = (b : Int)) (hb : b ≤ 1) {C' : Circ} (f : Fy (uM [1, 3] []) M N2) (o : ∀ j, (j < 34 * b ∨ 34 * b + 34 ≤ j) → N2 (cX 1) j = M (cX 1) j) (r : RefS N2 b C') (bg : ∀ q, q < 68 → N2 (cX 3) q = M (cX 1) q) {v : Int} (hv : 0 ≤ v ∧ v < 2147483648) : Sem SM miX10_acted [.inr (cX 0), .inl v] N2 (fun u N => u = some (.inl v) ∧ InvM N (put c C' (rec1 σ))) := by
  obtain ⟨a1, a2, a3, a4⟩ := h
  have hh : HistM N2 σ.2.2.1 := by
    unfold HistM
    rw [f.fld (j := 3) (by decide), f.arr (n := 2) (by decide)]
    exact a3
  have hx : TxM N2 σ.2.2.2 := by
    unfold TxM
    rw [f.fld (j := 5) (by decide), f.arr (n := 4) (by decide)]
    exact a4
  have K := sem_macted hv hW.2.2.1 hh hW.1 hW.2.1 (RefC.of hW.1 a1 (fun i hi => by show N2 (cX 3) i = M (cX 1) (34 * 0 + i); rw [Nat.mul_zero, Nat.zero_add]; exact bg i (by omega))) (RefC.of hW.2.1 a2 (fun i hi => bg (34 + i) (by omega)))
  refine Sem.imp K ?_
  rintro u N ⟨h1, h2, h3⟩
  refine ⟨h1, ?_⟩
  have hx2 : TxM N σ.2.2.2 := by
    unfold TxM
    rw [h3.fld (j := 5) (by decide), h3.arr (n := 4) (by decide)]
    exact hx
  have e1 := h3.arr (n := 1) (by decide)
  rcases (show b = 0 ∨ b = 1 by omega) with rfl | rfl
  · have e : put c C' (rec1 σ) = (C', σ.2.1, hpush σ.2.2.1 (σ.1, σ.2.1), σ.2.2.2) := by unfold put; rw [if_pos (by omega)]; rfl
    rw [e]
    exact ⟨r.eq e1, RefS.eq (RefC.of hW.2.1 a2 (fun i hi => o _ (by omega))) e1, h2, hx2⟩
  · have e : put c C' (rec1 σ) = (σ.1, C', hpush σ.2.2.1 (σ.1, σ.2.1), σ.2.2.2) := by unfold put; rw [if_neg (by omega)]; rfl
    rw [e]
    exact ⟨RefS.eq (RefC.of hW.1 a1 (fun i hi => o _ (by omega))) e1, r.eq e1, h2, hx2⟩
theorem RefC.setG {f f' : Nat → Int} {C : Circ} (hC : WF C) (h : RefC f C) {g k a b : Nat} (hg : g ≤ cn C) (hg8 : g < 8) (e0 : f' 0 = (cn (setG C g (k, a, b)) : Int)) (ek : f' (10 + 3 * g) = (k : Int)) (ea : f' (10 + 3 * g + 1) = (a : Int)) (eb : f' (10 + 3 * g + 2) = (b : Int)) (e : ∀ i, i ≠ 0 → i ≠ 10 + 3 * g → i ≠ 10 + 3 * g + 1 → i ≠ 10 + 3 * g + 2 → f' i = f i) : RefC f' (setG C g (k, a, b)) := by
  have hn := hC.1
  refine ⟨e0, by rw [e 1 (by omega) (by omega) (by omega) (by omega)]; exact h.2.1, fun r hr => ⟨by rw [e _ (by omega) (by omega) (by omega) (by omega)]; exact (h.2.2.1 r hr).1, by rw [e _ (by omega) (by omega) (by omega) (by omega)]; exact (h.2.2.1 r hr).2⟩, fun j hj => ?_⟩
  have hj : j < (if g = cn C then cn C + 1 else cn C) := hj
  by_cases c : j = g
  · subst c
    refine ⟨?_, ?_, ?_⟩
    · rw [ek]; show (k : Int) = (((if j = j then ((k, a, b) : Nat × Nat × Nat) else C.2.2.2.2 j).1 : Nat) : Int); rw [if_pos rfl]
    · rw [ea]; show (a : Int) = (((if j = j then ((k, a, b) : Nat × Nat × Nat) else C.2.2.2.2 j).2.1 : Nat) : Int); rw [if_pos rfl]
    · rw [eb]; show (b : Int) = (((if j = j then ((k, a, b) : Nat × Nat × Nat) else C.2.2.2.2 j).2.2 : Nat) : Int); rw [if_pos rfl]
  · obtain ⟨a1, a2, a3⟩ := h.2.2.2 j (by split at hj <;> omega)
    refine ⟨?_, ?_, ?_⟩
    · rw [e _ (by omega) (by omega) (by omega) (by omega), a1]; show _ = (((if j = g then _ else C.2.2.2.2 j).1 : Nat) : Int); rw [if_neg c]
    · rw [e _ (by omega) (by omega) (by omega) (by omega), a2]; show _ = (((if j = g then _ else C.2.2.2.2 j).2.1 : Nat) : Int); rw [if_neg c]
    · rw [e _ (by omega) (by omega) (by omega) (by omega), a3]; show _ = (((if j = g then _ else C.2.2.2.2 j).2.2 : Nat) : Int); rw [if_neg c]
theorem sem_mgate {M : Mem} {σ : Sg} (hW : SgW σ) (h : InvM M σ) {c g k x y : Int} (hc : Rng c) (hg : Rng g) (hk : Rng k) (hx : Rng x) (hy : Rng y) : Sem SM miX10_gate [.inr (cX 0), .inl c, .inl g, .inl k, .inl x, .inl y] M (fun v N => v = some (.inl (spGate σ c g k x y).1) ∧ InvM N (spGate σ c g k x y).2) := by
  refine Sem.of (by decide) SM_ok (Nat.le_of_ble_eq_true rfl) (ls0 := [some (.inr (cX 0)), some (.inl c), some (.inl g), some (.inl k), some (.inl x), some (.inl y), none]) rfl ?_
  have hC := sel_w hW c
  have hn := hC.1
  have bad : ¬ ((0 ≤ c ∧ c ≤ 1) ∧ (0 ≤ k ∧ k ≤ 5) ∧ (0 ≤ g ∧ g ≤ cn (sel c σ)) ∧ FdI g x = true ∧ FdI g y = true) → Ev SM miX10_gate 50 [some (.inr (cX 0)), some (.inl c), some (.inl g), some (.inl k), some (.inl x), some (.inl y), none] [] M (fun v N => v = some (.inl (spGate σ c g k x y).1) ∧ InvM N (spGate σ c g k x y).2) := by
    intro hh
    rw [spGate, if_neg hh]
    refine ev_ldc (np := 52) sX10_gate_50 rfl ?_
    refine ev_iret dX10_gate_52 rfl ?_
    exact ⟨rfl, h⟩
  have good : ((0 ≤ c ∧ c ≤ 1) ∧ (0 ≤ k ∧ k ≤ 5) ∧ (0 ≤ g ∧ g ≤ cn (sel c σ)) ∧ FdI g x = true ∧ FdI g y = true) → Ev SM miX10_gate 53 [some (.inr (cX 0)), some (.inl c), some (.inl g), some (.inl k), some (.inl x), some (.inl y), none] [] M (fun v N => v = some (.inl (spGate σ c g k x y).1) ∧ InvM N (spGate σ c g k x y).2) := by
    intro hh
    rw [spGate, if_pos hh]
    obtain ⟨g1, g2, g3, g4, g5⟩ := hh
    have y4 := FdI_iff.mp g4
    have y5 := FdI_iff.mp g5
    unfold Feed at y4 y5
    have hS := h.sel g1
    generalize sel c σ = C at *
    obtain ⟨b, rfl⟩ := Int.eq_ofNat_of_zero_le g1.1
    obtain ⟨g0, rfl⟩ := Int.eq_ofNat_of_zero_le g3.1
    obtain ⟨k0, rfl⟩ := Int.eq_ofNat_of_zero_le g2.1
    obtain ⟨x0, rfl⟩ := Int.eq_ofNat_of_zero_le (show 0 ≤ x by omega)
    obtain ⟨y0, rfl⟩ := Int.eq_ofNat_of_zero_le (show 0 ≤ y by omega)
    simp only [Int.toNat_natCast] at hS ⊢
    have hb : b ≤ 1 := by omega
    refine ev_iload_n (np := 54) dX10_gate_53 rfl rfl ?_
    refine ev_bipush (np := 56) dX10_gate_54 (by decide) rfl ?_
    refine ev_icmp_ne (tgt := 62) (np := 59) dX10_gate_56 (by decide) rfl (by omega) (by omega) (fun h8 => ?_) (fun h8 => ?_)
    · rw [if_neg (by omega)]
      have hg8 : g0 < 8 := by omega
      refine ev_aload_n (np := 63) dX10_gate_62 rfl rfl ?_
      refine ev_V0 (np := 66) moX10_keeps sX10_gate_63 (sem_keeps M ) rfl rfl (Nat.le_of_ble_eq_true rfl) rfl (fun v N1 hq => ?_)
      obtain ⟨rfl, f1, bg⟩ := hq
      have e11 := f1.arr (n := 1) (by decide)
      refine ev_bipush (np := 68) dX10_gate_66 (by decide) rfl ?_
      refine ev_iload_n (np := 69) dX10_gate_68 rfl rfl ?_
      refine ev_imul (np := 70) dX10_gate_69 rfl ?_
      refine ev_bipush (np := 72) dX10_gate_70 (by decide) rfl ?_
      refine ev_iadd (np := 73) dX10_gate_72 rfl ?_
      refine ev_iconst (np := 74) dX10_gate_73 rfl ?_
      refine ev_iload_n (np := 75) dX10_gate_74 rfl rfl ?_
      refine ev_imul (np := 76) dX10_gate_75 rfl ?_
      refine ev_iadd (np := 77) dX10_gate_76 rfl ?_
      rw [show (34 : Int) * (b : Int) + 10 + 3 * (g0 : Int) = ((34 * b + 10 + 3 * g0 : Nat) : Int) by omega]
      refine ev_istore (np := 79) dX10_gate_77 (by decide) rfl ?_
      refine ev_aload_n (np := 80) dX10_gate_79 rfl rfl ?_
      refine ev_getR (np := 83) sX10_gate_80 rfl rfl rfl ?_
      refine ev_iload (np := 85) dX10_gate_83 rfl rfl ?_
      refine ev_iload_n (np := 86) dX10_gate_85 rfl rfl ?_
      refine ev_iastore (np := 87) dX10_gate_86 rfl (by omega) (by omega) rfl ?_
      rw [Int.toNat_natCast]
      refine ev_aload_n (np := 88) dX10_gate_87 rfl rfl ?_
      refine ev_getR (np := 91) sX10_gate_88 rfl rfl rfl ?_
      refine ev_iload (np := 93) dX10_gate_91 rfl rfl ?_
      refine ev_iconst (np := 94) dX10_gate_93 rfl ?_
      refine ev_iadd (np := 95) dX10_gate_94 rfl ?_
      refine ev_iload (np := 97) dX10_gate_95 rfl rfl ?_
      refine ev_iastore (np := 98) dX10_gate_97 rfl (by omega) (by omega) rfl ?_
      rw [show (((34 * b + 10 + 3 * g0 : Nat) : Int) + 1).toNat = 34 * b + 10 + 3 * g0 + 1 by omega]
      refine ev_aload_n (np := 99) dX10_gate_98 rfl rfl ?_
      refine ev_getR (np := 102) sX10_gate_99 rfl rfl rfl ?_
      refine ev_iload (np := 104) dX10_gate_102 rfl rfl ?_
      refine ev_iconst (np := 105) dX10_gate_104 rfl ?_
      refine ev_iadd (np := 106) dX10_gate_105 rfl ?_
      refine ev_iload (np := 108) dX10_gate_106 rfl rfl ?_
      refine ev_iastore (np := 109) dX10_gate_108 rfl (by omega) (by omega) rfl ?_
      rw [show (((34 * b + 10 + 3 * g0 : Nat) : Int) + 2).toNat = 34 * b + 10 + 3 * g0 + 2 by omega]
      generalize hN3 : updM (updM (updM N1 (cX 1) (34 * b + 10 + 3 * g0) (k0 : Int)) (cX 1) (34 * b + 10 + 3 * g0 + 1) (x0 : Int)) (cX 1) (34 * b + 10 + 3 * g0 + 2) (y0 : Int) = N3
      have f3 : Fy (uM [1, 3] []) M N3 := by rw [← hN3]; exact (((f1.le (by decide)).tr (Fy.upd rfl)).tr (Fy.upd rfl)).tr (Fy.upd rfl)
      have bg3 : ∀ q, q < 68 → N3 (cX 3) q = M (cX 1) q := fun q hq => by rw [← bg q hq, ← hN3]; simp [updM]
      have ek : N3 (cX 1) (34 * b + 10 + 3 * g0) = (k0 : Int) := by rw [← hN3]; simp [updM]
      have ex : N3 (cX 1) (34 * b + 10 + 3 * g0 + 1) = (x0 : Int) := by rw [← hN3]; simp [updM]
      have ey : N3 (cX 1) (34 * b + 10 + 3 * g0 + 2) = (y0 : Int) := by rw [← hN3]; simp [updM]
      have eo : ∀ j, j ≠ 34 * b + 10 + 3 * g0 → j ≠ 34 * b + 10 + 3 * g0 + 1 → j ≠ 34 * b + 10 + 3 * g0 + 2 → N3 (cX 1) j = M (cX 1) j := fun j j1 j2 j3 => by rw [← e11, ← hN3]; simp [updM, j1, j2, j3]
      have en : N3 (cX 1) (34 * b) = (cn C : Int) := by rw [eo _ (by omega) (by omega) (by omega)]; exact hS.1
      clear hN3
      refine ev_aload_n (np := 110) dX10_gate_109 rfl rfl ?_
      refine ev_getR (np := 113) sX10_gate_110 rfl rfl rfl ?_
      refine ev_bipush (np := 115) dX10_gate_113 (by decide) rfl ?_
      refine ev_iload_n (np := 116) dX10_gate_115 rfl rfl ?_
      refine ev_imul (np := 117) dX10_gate_116 rfl ?_
      refine ev_dup2 (np := 118) dX10_gate_117 rfl ?_
      refine ev_iaload (np := 119) dX10_gate_118 rfl (by omega) (by omega) rfl ?_
      rw [show ((34 : Int) * (b : Int)).toNat = 34 * b by omega, en]
      refine ev_iload_n (np := 120) dX10_gate_119 rfl rfl ?_
      refine ev_aload_n (np := 121) dX10_gate_120 rfl rfl ?_
      refine ev_iload_n (np := 122) dX10_gate_121 rfl rfl ?_
      refine ev_iconst (np := 123) dX10_gate_122 rfl ?_
      refine ev_Vi2 (np := 126) moX10_of sX10_gate_123 (sem_of (b := (b : Int)) (i := 0) (by omega) (by omega)) rfl rfl (Nat.le_of_ble_eq_true rfl) rfl ?_
      rw [Int.toNat_natCast, show 34 * b + (0 : Int).toNat = 34 * b from rfl, en]
      have fin : ∀ d : Int, (cn C : Int) + d = (cn (setG C g0 (k0, x0, y0)) : Int) → (d = 0 ∨ d = 1) → Ev SM miX10_gate 134 [some (.inr (cX 0)), some (.inl (b : Int)), some (.inl (g0 : Int)), some (.inl (k0 : Int)), some (.inl (x0 : Int)), some (.inl (y0 : Int)), some (.inl ((34 * b + 10 + 3 * g0 : Nat) : Int))] [.inl d, .inl (cn C : Int), .inl ((34 : Int) * (b : Int)), .inr (cX 1)] N3 (fun v N => v = some (.inl (cn (setG C g0 (k0, x0, y0)) : Nat)) ∧ InvM N (put (b : Int) (setG C g0 (k0, x0, y0)) (rec1 σ))) := by
        intro d hd hd2
        refine ev_iadd (np := 135) dX10_gate_134 rfl ?_
        refine ev_iastore (np := 136) dX10_gate_135 rfl (by omega) (by omega) rfl ?_
        rw [show ((34 : Int) * (b : Int)).toNat = 34 * b by omega, hd]
        generalize hN4 : updM N3 (cX 1) (34 * b) (cn (setG C g0 (k0, x0, y0)) : Int) = N4
        have f4 : Fy (uM [1, 3] []) M N4 := by rw [← hN4]; exact f3.tr (Fy.upd rfl)
        have bg4 : ∀ q, q < 68 → N4 (cX 3) q = M (cX 1) q := fun q hq => by rw [← bg3 q hq, ← hN4]; simp [updM]
        have e4 : ∀ j, j ≠ 34 * b → N4 (cX 1) j = N3 (cX 1) j := fun j hj => by rw [← hN4]; simp [updM, hj]
        have e40 : N4 (cX 1) (34 * b) = (cn (setG C g0 (k0, x0, y0)) : Int) := by rw [← hN4, updM_same]
        have r4 : RefS N4 b (setG C g0 (k0, x0, y0)) := RefC.setG hC hS (by omega) hg8 e40 (by show N4 (cX 1) (34 * b + (10 + 3 * g0)) = _; rw [e4 _ (by omega), show 34 * b + (10 + 3 * g0) = 34 * b + 10 + 3 * g0 by omega, ek]) (by show N4 (cX 1) (34 * b + (10 + 3 * g0 + 1)) = _; rw [e4 _ (by omega), show 34 * b + (10 + 3 * g0 + 1) = 34 * b + 10 + 3 * g0 + 1 by omega, ex]) (by show N4 (cX 1) (34 * b + (10 + 3 * g0 + 2)) = _; rw [e4 _ (by omega), show 34 * b + (10 + 3 * g0 + 2) = 34 * b + 10 + 3 * g0 + 2 by omega, ey]) (fun i i0 i1 i2 i3 => by show N4 (cX 1) (34 * b + i) = M (cX 1) (34 * b + i); rw [e4 _ (by omega), eo _ (by omega) (by omega) (by omega)])
        refine ev_aload_n (np := 137) dX10_gate_136 rfl rfl ?_
        refine ev_aload_n (np := 138) dX10_gate_137 rfl rfl ?_
        refine ev_iload_n (np := 139) dX10_gate_138 rfl rfl ?_
        refine ev_iconst (np := 140) dX10_gate_139 rfl ?_
        refine ev_Vi2 (np := 143) moX10_of sX10_gate_140 (sem_of (b := (b : Int)) (i := 0) (by omega) (by omega)) rfl rfl (Nat.le_of_ble_eq_true rfl) rfl ?_
        rw [Int.toNat_natCast, show 34 * b + (0 : Int).toNat = 34 * b from rfl, e40]
        refine ev_V1 (np := 146) moX10_acted sX10_gate_143 (sem_mact hW h rfl hb f4 (fun j hj => by rw [e4 _ (by omega), eo _ (by omega) (by omega) (by omega)]) r4 bg4 (v := (cn (setG C g0 (k0, x0, y0)) : Int)) (by omega) ) rfl rfl (Nat.le_of_ble_eq_true rfl) rfl (fun v5 N5 hq => ?_)
        obtain ⟨rfl, hI⟩ := hq
        refine ev_iret dX10_gate_146 rfl ?_
        exact ⟨rfl, hI⟩
      have ecn : cn (setG C g0 (k0, x0, y0)) = if g0 = cn C then cn C + 1 else cn C := rfl
      refine ev_icmp_ne (tgt := 133) (np := 129) dX10_gate_126 (by decide) rfl (by omega) (by omega) (fun h2 => ?_) (fun h2 => ?_)
      · rw [if_neg (by omega)] at ecn
        refine ev_iconst (np := 134) dX10_gate_133 rfl ?_
        exact fin 0 (by omega) (Or.inl rfl)
      · rw [if_pos (by omega)] at ecn
        refine ev_iconst (np := 130) dX10_gate_129 rfl ?_
        refine ev_goto (np := 134) dX10_gate_130 (by decide) ?_
        exact fin 1 (by omega) (Or.inr rfl)
    · rw [if_pos (by omega)]
      refine ev_ldc (np := 61) sX10_gate_59 rfl ?_
      refine ev_iret dX10_gate_61 rfl ?_
      exact ⟨rfl, h⟩
  refine ev_iload_n (np := 1) dX10_gate_0 rfl rfl ?_
  refine ev_iconst (np := 2) dX10_gate_1 rfl ?_
  refine ev_iconst (np := 3) dX10_gate_2 rfl ?_
  by_cases g1 : 0 ≤ c ∧ c ≤ 1
  · have hS := h.sel g1
    refine ev_Si3 (np := 6) moX10_in sX10_gate_3 (sem_in_t M hc (by omega) (by omega) g1) (Nat.le_of_ble_eq_true rfl) rfl ?_
    refine ev_if_eq (tgt := 50) (np := 9) dX10_gate_6 (by decide) rfl (by omega) (fun h => absurd h (by omega)) (fun _ => ?_)
    refine ev_iload_n (np := 10) dX10_gate_9 rfl rfl ?_
    refine ev_iconst (np := 11) dX10_gate_10 rfl ?_
    refine ev_aload_n (np := 12) dX10_gate_11 rfl rfl ?_
    refine ev_iload_n (np := 13) dX10_gate_12 rfl rfl ?_
    refine ev_iconst (np := 14) dX10_gate_13 rfl ?_
    refine ev_Vi2 (np := 17) moX10_of sX10_gate_14 (sem_of (b := c) (i := 0) (by omega) (by omega)) rfl rfl (Nat.le_of_ble_eq_true rfl) rfl ?_
    rw [show M (cX 1) (34 * c.toNat + (0 : Int).toNat) = (cn (sel c σ) : Int) from hS.1]
    by_cases g3 : 0 ≤ g ∧ g ≤ (cn (sel c σ) : Int)
    · refine ev_Si3 (np := 20) moX10_in sX10_gate_17 (sem_in_t M hg (by omega) (by omega) g3) (Nat.le_of_ble_eq_true rfl) rfl ?_
      refine ev_if_eq (tgt := 50) (np := 23) dX10_gate_20 (by decide) rfl (by omega) (fun h => absurd h (by omega)) (fun _ => ?_)
      refine ev_iload_n (np := 24) dX10_gate_23 rfl rfl ?_
      refine ev_iconst (np := 25) dX10_gate_24 rfl ?_
      refine ev_iconst (np := 26) dX10_gate_25 rfl ?_
      by_cases g2 : 0 ≤ k ∧ k ≤ 5
      · refine ev_Si3 (np := 29) moX10_in sX10_gate_26 (sem_in_t M hk (by omega) (by omega) g2) (Nat.le_of_ble_eq_true rfl) rfl ?_
        refine ev_if_eq (tgt := 50) (np := 32) dX10_gate_29 (by decide) rfl (by omega) (fun h => absurd h (by omega)) (fun _ => ?_)
        refine ev_iload_n (np := 33) dX10_gate_32 rfl rfl ?_
        refine ev_iload (np := 35) dX10_gate_33 rfl rfl ?_
        by_cases g4 : Feed g x
        · refine ev_Si2 (np := 38) moX10_isAllowed sX10_gate_35 (sem_allow_t M (by omega) hx g4) (Nat.le_of_ble_eq_true rfl) rfl ?_
          refine ev_if_eq (tgt := 50) (np := 41) dX10_gate_38 (by decide) rfl (by omega) (fun h => absurd h (by omega)) (fun _ => ?_)
          refine ev_iload_n (np := 42) dX10_gate_41 rfl rfl ?_
          refine ev_iload (np := 44) dX10_gate_42 rfl rfl ?_
          by_cases g5 : Feed g y
          · refine ev_Si2 (np := 47) moX10_isAllowed sX10_gate_44 (sem_allow_t M (by omega) hy g5) (Nat.le_of_ble_eq_true rfl) rfl ?_
            refine ev_if_ne (tgt := 53) (np := 50) dX10_gate_47 (by decide) rfl (by omega) (fun _ => ?_) (fun h => absurd h (by omega))
            exact good ⟨g1, g2, g3, FdI_iff.mpr g4, FdI_iff.mpr g5⟩
          · refine ev_Si2 (np := 47) moX10_isAllowed sX10_gate_44 (sem_allow_f M (by omega) hy g5) (Nat.le_of_ble_eq_true rfl) rfl ?_
            refine ev_if_ne (tgt := 53) (np := 50) dX10_gate_47 (by decide) rfl (by omega) (fun h => absurd (by omega) h) (fun _ => ?_)
            exact bad (fun q => g5 (FdI_iff.mp q.2.2.2.2))
        · refine ev_Si2 (np := 38) moX10_isAllowed sX10_gate_35 (sem_allow_f M (by omega) hx g4) (Nat.le_of_ble_eq_true rfl) rfl ?_
          refine ev_if_eq (tgt := 50) (np := 41) dX10_gate_38 (by decide) rfl (by omega) (fun _ => ?_) (fun h => absurd (by omega) h)
          exact bad (fun q => g4 (FdI_iff.mp q.2.2.2.1))
      · refine ev_Si3 (np := 29) moX10_in sX10_gate_26 (sem_in_f M hk (by omega) (by omega) g2) (Nat.le_of_ble_eq_true rfl) rfl ?_
        refine ev_if_eq (tgt := 50) (np := 32) dX10_gate_29 (by decide) rfl (by omega) (fun _ => ?_) (fun h => absurd (by omega) h)
        exact bad (fun q => g2 q.2.1)
    · refine ev_Si3 (np := 20) moX10_in sX10_gate_17 (sem_in_f M hg (by omega) (by omega) g3) (Nat.le_of_ble_eq_true rfl) rfl ?_
      refine ev_if_eq (tgt := 50) (np := 23) dX10_gate_20 (by decide) rfl (by omega) (fun _ => ?_) (fun h => absurd (by omega) h)
      exact bad (fun q => g3 q.2.2.1)
  · refine ev_Si3 (np := 6) moX10_in sX10_gate_3 (sem_in_f M hc (by omega) (by omega) g1) (Nat.le_of_ble_eq_true rfl) rfl ?_
    refine ev_if_eq (tgt := 50) (np := 9) dX10_gate_6 (by decide) rfl (by omega) (fun _ => ?_) (fun h => absurd (by omega) h)
    exact bad (fun q => g1 q.1)
