/-! ALIKE STATES AND CLASSES, in the reference -/
theorem st4_eq {f g : Nat → Nat} (hf : ∀ r, r < 4 → f r < 2) (hg : ∀ r, r < 4 → g r < 2) : st4 f = st4 g ↔ ∀ i, i < 4 → f i = g i := by
  constructor
  · intro h i hi
    rw [← bt_st4 hf hi, ← bt_st4 hg hi, h]
  · intro h
    show f 0 + 2 * f 1 + 4 * f 2 + 8 * f 3 = g 0 + 2 * g 1 + 4 * g 2 + 8 * g 3
    rw [h 0 (by decide), h 1 (by decide), h 2 (by decide), h 3 (by decide)]
theorem tab_eq (C : Circ) (s o : Nat) : (tabOf C).2.1 s = (tabOf C).2.1 o ↔ ∀ i, i < 4 → outS C s i = outS C o i := st4_eq (fun r _ => out_lt C s r) (fun r _ => out_lt C o r)
/-- v is the least from d on that is alike s -/
def LR (T : Tab) (r s d v : Nat) : Prop := d ≤ v ∧ v ≤ s ∧ eqb T r s v = true ∧ ∀ q, d ≤ q → q < v → eqb T r s q = false
def AL (N : Mem) (T : Tab) (r : Nat) : Prop := ∃ ρ : Nat → Nat, ∀ s, s < 16 → N (cX 14) s = (ρ s : Int) ∧ LR T r s 0 (ρ s)
theorem LR_eq {T : Tab} {r s o v w : Nat} (h : LR T r s 0 v) (g : LR T r o 0 w) : v = w ↔ eqb T r s o = true := by
  constructor
  · intro e
    subst e
    exact eqb_trans T r _ _ _ h.2.2.1 (eqb_symm T r _ _ g.2.2.1)
  · intro e
    have e1 := eqb_trans T r _ _ _ (eqb_symm T r _ _ e) h.2.2.1
    have e2 := eqb_trans T r _ _ _ e g.2.2.1
    rcases Nat.lt_trichotomy v w with k | k | k
    · rw [g.2.2.2 v (Nat.zero_le _) k] at e1; cases e1
    · exact k
    · rw [h.2.2.2 w (Nat.zero_le _) k] at e2; cases e2
theorem alk1_loop {M : Mem} {b : Nat} {C : Circ} (hC : WF C) (hb : b ≤ 1) (hS : RefS M b C) {s o : Nat} (hs : s < 16) (ho : o < 16) : ∀ (m i : Nat) (N : Mem) (z : Int), i + m = 4 → Fy (uM [6] []) M N → (z = 0 ∨ z = 1) → (z = 1 ↔ ∀ j, j < i → outS C s j = outS C o j) → Ev SM miX10_isAlike 30 [some (.inr (cX 0)), some (.inl (b : Int)), some (.inl (s : Int)), some (.inl (o : Int)), some (.inl 1), some (.inl z), some (.inl (i : Int))] [] N (fun v N => (∃ z : Int, v = some (.inl z) ∧ (z = 0 ∨ z = 1) ∧ (z = 1 ↔ ∀ j, j < 4 → outS C s j = outS C o j)) ∧ Fy (uM [6] []) M N) := by
  intro m
  induction m with
  | zero =>
    intro i N z hi hf hz he
    refine ev_iload (np := 32) dX10_isAlike_30 rfl rfl ?_
    refine ev_iconst (np := 33) dX10_isAlike_32 rfl ?_
    refine ev_icmp_ge (tgt := 115) (np := 36) dX10_isAlike_33 (by decide) rfl (by omega) (by omega) (fun _ => ?_) (fun h => absurd (by omega) h)
    refine ev_iload (np := 117) dX10_isAlike_115 rfl rfl ?_
    refine ev_zret dX10_isAlike_117 rfl (by first | exact Or.inl rfl | exact Or.inr rfl | omega) ?_
    exact ⟨⟨z, rfl, hz, by rw [he, show i = 4 by omega]⟩, hf⟩
  | succ m ih =>
    intro i N z hi hf hz he
    have i4 : i < 4 := by omega
    refine ev_iload (np := 32) dX10_isAlike_30 rfl rfl ?_
    refine ev_iconst (np := 33) dX10_isAlike_32 rfl ?_
    refine ev_icmp_ge (tgt := 115) (np := 36) dX10_isAlike_33 (by decide) rfl (by omega) (by omega) (fun h => absurd h (by omega)) (fun _ => ?_)
    refine ev_iload (np := 38) dX10_isAlike_36 rfl rfl ?_
    refine ev_if_eq (tgt := 115) (np := 41) dX10_isAlike_38 (by decide) rfl (by omega) (fun h1 => ?_) (fun h1 => ?_)
    · refine ev_iload (np := 117) dX10_isAlike_115 rfl rfl ?_
      refine ev_zret dX10_isAlike_117 rfl (by first | exact Or.inl rfl | exact Or.inr rfl | omega) ?_
      exact ⟨⟨z, rfl, hz, ⟨fun h => absurd h (by omega), fun h => he.mpr (fun j hj => h j (by omega))⟩⟩, hf⟩
    · have e0 := he.mp (by omega)
      have l1 := out_lt C s i
      have l2 := out_lt C o i
      refine ev_iload (np := 43) dX10_isAlike_41 rfl rfl ?_
      refine ev_if_eq (tgt := 73) (np := 46) dX10_isAlike_43 (by decide) rfl (by omega) (fun h => absurd h (by omega)) (fun _ => ?_)
      refine ev_aload_n (np := 47) dX10_isAlike_46 rfl rfl ?_
      refine ev_iload_n (np := 48) dX10_isAlike_47 rfl rfl ?_
      refine ev_iload_n (np := 49) dX10_isAlike_48 rfl rfl ?_
      refine ev_iload (np := 51) dX10_isAlike_49 rfl rfl ?_
      refine ev_V3 (np := 54) moX10_out sX10_isAlike_51 (sem_mout hC hb hs i4 (hS.eq (hf.arr (n := 1) (by decide))) ) rfl rfl (Nat.le_of_ble_eq_true rfl) rfl (fun v N2 hq => ?_)
      obtain ⟨rfl, f2⟩ := hq
      have hf2 := hf.tr f2
      refine ev_aload_n (np := 55) dX10_isAlike_54 rfl rfl ?_
      refine ev_iload_n (np := 56) dX10_isAlike_55 rfl rfl ?_
      refine ev_iload_n (np := 57) dX10_isAlike_56 rfl rfl ?_
      refine ev_iload (np := 59) dX10_isAlike_57 rfl rfl ?_
      refine ev_V3 (np := 62) moX10_out sX10_isAlike_59 (sem_mout hC hb ho i4 (hS.eq (hf2.arr (n := 1) (by decide))) ) rfl rfl (Nat.le_of_ble_eq_true rfl) rfl (fun v N3 hq => ?_)
      obtain ⟨rfl, f3⟩ := hq
      have hf3 := hf2.tr f3
      refine ev_icmp_ne (tgt := 69) (np := 65) dX10_isAlike_62 (by decide) rfl (by omega) (by omega) (fun h2 => ?_) (fun h2 => ?_)
      · refine ev_iconst (np := 70) dX10_isAlike_69 rfl ?_
        refine ev_goto (np := 107) dX10_isAlike_70 (by decide) ?_
        refine ev_istore (np := 109) dX10_isAlike_107 (by decide) rfl ?_
        refine ev_iinc (np := 112) dX10_isAlike_109 rfl (by decide) rfl ?_
        refine ev_goto (np := 30) dX10_isAlike_112 (by decide) ?_
        refine ih (i + 1) N3 0 (by omega) hf3 (Or.inl rfl) ⟨fun h => absurd h (by decide), fun h => absurd (h i (by omega)) (by omega)⟩
      · refine ev_iconst (np := 66) dX10_isAlike_65 rfl ?_
        refine ev_goto (np := 107) dX10_isAlike_66 (by decide) ?_
        refine ev_istore (np := 109) dX10_isAlike_107 (by decide) rfl ?_
        refine ev_iinc (np := 112) dX10_isAlike_109 rfl (by decide) rfl ?_
        refine ev_goto (np := 30) dX10_isAlike_112 (by decide) ?_
        refine ih (i + 1) N3 1 (by omega) hf3 (Or.inr rfl) ⟨fun _ j hj => ?_, fun _ => rfl⟩
        by_cases e : j = i
        · subst e; omega
        · exact e0 j (by omega)
theorem sem_alike1 {M : Mem} {b : Nat} {C : Circ} (hC : WF C) (hb : b ≤ 1) (hS : RefS M b C) {s o : Nat} (hs : s < 16) (ho : o < 16) : Sem SM miX10_isAlike [.inr (cX 0), .inl (b : Int), .inl (s : Int), .inl (o : Int), .inl 1] M (fun v N => (∃ z : Int, v = some (.inl z) ∧ (z = 0 ∨ z = 1) ∧ (z = 1 ↔ eqb (tabOf C) (0 + 1) s o = true)) ∧ Fy (uM [6] []) M N) := by
  refine Sem.of (by decide) SM_ok (Nat.le_of_ble_eq_true rfl) (ls0 := [some (.inr (cX 0)), some (.inl (b : Int)), some (.inl (s : Int)), some (.inl (o : Int)), some (.inl 1), none, none]) rfl ?_
  refine ev_iload (np := 2) dX10_isAlike_0 rfl rfl ?_
  refine ev_if_ne (tgt := 20) (np := 5) dX10_isAlike_2 (by decide) rfl (by omega) (fun _ => ?_) (fun h => absurd h (by omega))
  refine ev_iconst (np := 21) dX10_isAlike_20 rfl ?_
  refine ev_goto (np := 25) dX10_isAlike_21 (by decide) ?_
  refine ev_istore (np := 27) dX10_isAlike_25 (by decide) rfl ?_
  refine ev_iconst (np := 28) dX10_isAlike_27 rfl ?_
  refine ev_istore (np := 30) dX10_isAlike_28 (by decide) rfl ?_
  have := alk1_loop hC hb hS hs ho 4 0 M 1 rfl Fy.rf (Or.inr rfl) ⟨fun _ j hj => absurd hj (Nat.not_lt_zero j), fun _ => rfl⟩
  refine this.imp ?_
  rintro v N ⟨⟨z, e, hz, h⟩, f⟩
  refine ⟨⟨z, e, hz, ?_⟩, f⟩
  rw [h, eqb_s, tab_eq]
  exact ⟨fun h => ⟨h, fun i hi => rfl⟩, fun h => h.1⟩
theorem alk2_loop {M : Mem} {b : Nat} {C : Circ} (hC : WF C) (hb : b ≤ 1) (hS : RefS M b C) {ρ : Nat → Nat} (hρ : ∀ s, s < 16 → M (cX 14) s = (ρ s : Int) ∧ ρ s < 16) {s o : Nat} (hs : s < 16) (ho : o < 16) : ∀ (m i : Nat) (N : Mem) (z : Int), i + m = 4 → Fy (uM [6] []) M N → (z = 0 ∨ z = 1) → (z = 1 ↔ ρ s = ρ o ∧ ∀ j, j < i → ρ (nxtS C s j) = ρ (nxtS C o j)) → Ev SM miX10_isAlike 30 [some (.inr (cX 0)), some (.inl (b : Int)), some (.inl (s : Int)), some (.inl (o : Int)), some (.inl 0), some (.inl z), some (.inl (i : Int))] [] N (fun v N => (∃ z : Int, v = some (.inl z) ∧ (z = 0 ∨ z = 1) ∧ (z = 1 ↔ ρ s = ρ o ∧ ∀ j, j < 4 → ρ (nxtS C s j) = ρ (nxtS C o j))) ∧ Fy (uM [6] []) M N) := by
  intro m
  induction m with
  | zero =>
    intro i N z hi hf hz he
    refine ev_iload (np := 32) dX10_isAlike_30 rfl rfl ?_
    refine ev_iconst (np := 33) dX10_isAlike_32 rfl ?_
    refine ev_icmp_ge (tgt := 115) (np := 36) dX10_isAlike_33 (by decide) rfl (by omega) (by omega) (fun _ => ?_) (fun h => absurd (by omega) h)
    refine ev_iload (np := 117) dX10_isAlike_115 rfl rfl ?_
    refine ev_zret dX10_isAlike_117 rfl (by first | exact Or.inl rfl | exact Or.inr rfl | omega) ?_
    exact ⟨⟨z, rfl, hz, by rw [he, show i = 4 by omega]⟩, hf⟩
  | succ m ih =>
    intro i N z hi hf hz he
    have i4 : i < 4 := by omega
    refine ev_iload (np := 32) dX10_isAlike_30 rfl rfl ?_
    refine ev_iconst (np := 33) dX10_isAlike_32 rfl ?_
    refine ev_icmp_ge (tgt := 115) (np := 36) dX10_isAlike_33 (by decide) rfl (by omega) (by omega) (fun h => absurd h (by omega)) (fun _ => ?_)
    refine ev_iload (np := 38) dX10_isAlike_36 rfl rfl ?_
    refine ev_if_eq (tgt := 115) (np := 41) dX10_isAlike_38 (by decide) rfl (by omega) (fun h1 => ?_) (fun h1 => ?_)
    · refine ev_iload (np := 117) dX10_isAlike_115 rfl rfl ?_
      refine ev_zret dX10_isAlike_117 rfl (by first | exact Or.inl rfl | exact Or.inr rfl | omega) ?_
      exact ⟨⟨z, rfl, hz, ⟨fun h => absurd h (by omega), fun h => he.mpr ⟨h.1, fun j hj => h.2 j (by omega)⟩⟩⟩, hf⟩
    · have e0 := he.mp (by omega)
      have l1 := nxt_lt C s i
      have l2 := nxt_lt C o i
      obtain ⟨r1, r2⟩ := hρ _ l1
      obtain ⟨r3, r4⟩ := hρ _ l2
      refine ev_iload (np := 43) dX10_isAlike_41 rfl rfl ?_
      refine ev_if_eq (tgt := 73) (np := 46) dX10_isAlike_43 (by decide) rfl (by omega) (fun _ => ?_) (fun h => absurd (by omega) h)
      refine ev_aload_n (np := 74) dX10_isAlike_73 rfl rfl ?_
      refine ev_getR (np := 77) sX10_isAlike_74 rfl rfl rfl ?_
      refine ev_aload_n (np := 78) dX10_isAlike_77 rfl rfl ?_
      refine ev_iload_n (np := 79) dX10_isAlike_78 rfl rfl ?_
      refine ev_iload_n (np := 80) dX10_isAlike_79 rfl rfl ?_
      refine ev_iload (np := 82) dX10_isAlike_80 rfl rfl ?_
      refine ev_V3 (np := 85) moX10_then sX10_isAlike_82 (sem_mthen hC hb hs i4 (hS.eq (hf.arr (n := 1) (by decide))) ) rfl rfl (Nat.le_of_ble_eq_true rfl) rfl (fun v N2 hq => ?_)
      obtain ⟨rfl, f2⟩ := hq
      have hf2 := hf.tr f2
      refine ev_iaload (np := 86) dX10_isAlike_85 rfl (by omega) (by omega) rfl ?_
      rw [Int.toNat_natCast, hf2.arr (n := 14) (by decide), r1]
      refine ev_aload_n (np := 87) dX10_isAlike_86 rfl rfl ?_
      refine ev_getR (np := 90) sX10_isAlike_87 rfl rfl rfl ?_
      refine ev_aload_n (np := 91) dX10_isAlike_90 rfl rfl ?_
      refine ev_iload_n (np := 92) dX10_isAlike_91 rfl rfl ?_
      refine ev_iload_n (np := 93) dX10_isAlike_92 rfl rfl ?_
      refine ev_iload (np := 95) dX10_isAlike_93 rfl rfl ?_
      refine ev_V3 (np := 98) moX10_then sX10_isAlike_95 (sem_mthen hC hb ho i4 (hS.eq (hf2.arr (n := 1) (by decide))) ) rfl rfl (Nat.le_of_ble_eq_true rfl) rfl (fun v N3 hq => ?_)
      obtain ⟨rfl, f3⟩ := hq
      have hf3 := hf2.tr f3
      refine ev_iaload (np := 99) dX10_isAlike_98 rfl (by omega) (by omega) rfl ?_
      rw [Int.toNat_natCast, hf3.arr (n := 14) (by decide), r3]
      refine ev_icmp_ne (tgt := 106) (np := 102) dX10_isAlike_99 (by decide) rfl (by omega) (by omega) (fun h2 => ?_) (fun h2 => ?_)
      · refine ev_iconst (np := 107) dX10_isAlike_106 rfl ?_
        refine ev_istore (np := 109) dX10_isAlike_107 (by decide) rfl ?_
        refine ev_iinc (np := 112) dX10_isAlike_109 rfl (by decide) rfl ?_
        refine ev_goto (np := 30) dX10_isAlike_112 (by decide) ?_
        refine ih (i + 1) N3 0 (by omega) hf3 (Or.inl rfl) ⟨fun h => absurd h (by decide), fun h => absurd (h.2 i (by omega)) (by omega)⟩
      · refine ev_iconst (np := 103) dX10_isAlike_102 rfl ?_
        refine ev_goto (np := 107) dX10_isAlike_103 (by decide) ?_
        refine ev_istore (np := 109) dX10_isAlike_107 (by decide) rfl ?_
        refine ev_iinc (np := 112) dX10_isAlike_109 rfl (by decide) rfl ?_
        refine ev_goto (np := 30) dX10_isAlike_112 (by decide) ?_
        refine ih (i + 1) N3 1 (by omega) hf3 (Or.inr rfl) ⟨fun _ => ⟨e0.1, fun j hj => ?_⟩, fun _ => rfl⟩
        by_cases e : j = i
        · subst e; omega
        · exact e0.2 j (by omega)
theorem sem_alike2 {M : Mem} {b : Nat} {C : Circ} (hC : WF C) (hb : b ≤ 1) (hS : RefS M b C) {r : Nat} (hA : AL M (tabOf C) (r + 1)) {s o : Nat} (hs : s < 16) (ho : o < 16) : Sem SM miX10_isAlike [.inr (cX 0), .inl (b : Int), .inl (s : Int), .inl (o : Int), .inl 0] M (fun v N => (∃ z : Int, v = some (.inl z) ∧ (z = 0 ∨ z = 1) ∧ (z = 1 ↔ eqb (tabOf C) (r + 1 + 1) s o = true)) ∧ Fy (uM [6] []) M N) := by
  refine Sem.of (by decide) SM_ok (Nat.le_of_ble_eq_true rfl) (ls0 := [some (.inr (cX 0)), some (.inl (b : Int)), some (.inl (s : Int)), some (.inl (o : Int)), some (.inl 0), none, none]) rfl ?_
  obtain ⟨ρ, hA⟩ := hA
  have hρ : ∀ s, s < 16 → M (cX 14) s = (ρ s : Int) ∧ ρ s < 16 := fun s hs => ⟨(hA s hs).1, by have := (hA s hs).2.2.1; omega⟩
  obtain ⟨r1, r2⟩ := hρ s hs
  obtain ⟨r3, r4⟩ := hρ o ho
  have key : (ρ s = ρ o ∧ ∀ j, j < 4 → ρ (nxtS C s j) = ρ (nxtS C o j)) ↔ eqb (tabOf C) (r + 1 + 1) s o = true := by
    constructor
    · rintro ⟨a, h⟩
      have := (LR_eq (hA s hs).2 (hA o ho).2).mp a
      refine (eqb_s _ (r + 1) s o).mpr ⟨((eqb_s _ r s o).mp this).1, fun i hi => ?_⟩
      exact (LR_eq (hA _ (nxt_lt C s i)).2 (hA _ (nxt_lt C o i)).2).mp (h i hi)
    · intro h
      refine ⟨(LR_eq (hA s hs).2 (hA o ho).2).mpr (eqb_anti _ _ _ _ h), fun i hi => ?_⟩
      exact (LR_eq (hA _ (nxt_lt C s i)).2 (hA _ (nxt_lt C o i)).2).mpr (((eqb_s _ (r + 1) s o).mp h).2 i hi)
  have fin : ∀ z : Int, (z = 0 ∨ z = 1) → (z = 1 ↔ ρ s = ρ o) → Ev SM miX10_isAlike 25 [some (.inr (cX 0)), some (.inl (b : Int)), some (.inl (s : Int)), some (.inl (o : Int)), some (.inl 0), none, none] [.inl z] M (fun v N => (∃ z : Int, v = some (.inl z) ∧ (z = 0 ∨ z = 1) ∧ (z = 1 ↔ eqb (tabOf C) (r + 1 + 1) s o = true)) ∧ Fy (uM [6] []) M N) := by
    intro z hz hz2
    refine ev_istore (np := 27) dX10_isAlike_25 (by decide) rfl ?_
    refine ev_iconst (np := 28) dX10_isAlike_27 rfl ?_
    refine ev_istore (np := 30) dX10_isAlike_28 (by decide) rfl ?_
    have := alk2_loop hC hb hS hρ hs ho 4 0 M z rfl Fy.rf hz ⟨fun h => ⟨hz2.mp h, fun j hj => absurd hj (Nat.not_lt_zero j)⟩, fun h => hz2.mpr h.1⟩
    refine this.imp ?_
    rintro v N ⟨⟨z, e, hz, h⟩, f⟩
    exact ⟨⟨z, e, hz, h.trans key⟩, f⟩
  refine ev_iload (np := 2) dX10_isAlike_0 rfl rfl ?_
  refine ev_if_ne (tgt := 20) (np := 5) dX10_isAlike_2 (by decide) rfl (by omega) (fun h => absurd (by omega) h) (fun _ => ?_)
  refine ev_aload_n (np := 6) dX10_isAlike_5 rfl rfl ?_
  refine ev_getR (np := 9) sX10_isAlike_6 rfl rfl rfl ?_
  refine ev_iload_n (np := 10) dX10_isAlike_9 rfl rfl ?_
  refine ev_iaload (np := 11) dX10_isAlike_10 rfl (by omega) (by omega) rfl ?_
  rw [Int.toNat_natCast, r1]
  refine ev_aload_n (np := 12) dX10_isAlike_11 rfl rfl ?_
  refine ev_getR (np := 15) sX10_isAlike_12 rfl rfl rfl ?_
  refine ev_iload_n (np := 16) dX10_isAlike_15 rfl rfl ?_
  refine ev_iaload (np := 17) dX10_isAlike_16 rfl (by omega) (by omega) rfl ?_
  rw [Int.toNat_natCast, r3]
  refine ev_icmp_ne (tgt := 24) (np := 20) dX10_isAlike_17 (by decide) rfl (by omega) (by omega) (fun h1 => ?_) (fun h1 => ?_)
  · refine ev_iconst (np := 25) dX10_isAlike_24 rfl ?_
    exact fin 0 (Or.inl rfl) ⟨fun h => absurd h (by decide), fun h => absurd h (by omega)⟩
  · refine ev_iconst (np := 21) dX10_isAlike_20 rfl ?_
    refine ev_goto (np := 25) dX10_isAlike_21 (by decide) ?_
    exact fin 1 (Or.inr rfl) ⟨fun _ => by omega, fun _ => rfl⟩
-- one refinement
def FN (N : Mem) (T : Tab) (r q d : Nat) : Prop := ∃ v : Nat, N (cX 15) q = (v : Int) ∧ LR T r q d v
theorem rf_in {M : Mem} {b : Nat} {T : Tab} {r : Nat} {f : Int} (AK : ∀ (N : Mem) (s o : Nat), s < 16 → o < 16 → Fy (uM [6, 15] []) M N → Sem SM miX10_isAlike [.inr (cX 0), .inl (b : Int), .inl (s : Int), .inl (o : Int), .inl f] N (fun v N' => (∃ z : Int, v = some (.inl z) ∧ (z = 0 ∨ z = 1) ∧ (z = 1 ↔ eqb T r s o = true)) ∧ Fy (uM [6] []) N N')) {s : Nat} (hs : s < 16) {Q : Option Val → Mem → Prop}
    (K : ∀ (N : Mem) (u : Option Val), Fy (uM [6, 15] []) M N → (∀ q, q < s + 1 → FN N T r q 0) → Ev SM miX10_refines 60 [some (.inr (cX 0)), some (.inl (b : Int)), some (.inl f), some (.inl (s : Int)), u] [] N Q) :
    ∀ (d : Nat) (N : Mem), d ≤ s → Fy (uM [6, 15] []) M N → (∀ q, q < s → FN N T r q 0) → FN N T r s d → Ev SM miX10_refines 20 [some (.inr (cX 0)), some (.inl (b : Int)), some (.inl f), some (.inl (s : Int)), some (.inl ((d : Int) - 1))] [] N Q := by
  intro d
  induction d with
  | zero =>
    intro N hd hf hq hv
    refine ev_iload (np := 22) dX10_refines_20 rfl rfl ?_
    refine ev_if_lt (tgt := 60) (np := 25) dX10_refines_22 (by decide) rfl (by omega) (fun _ => ?_) (fun h => absurd (by omega) h)
    refine K N _ hf (fun q h => ?_)
    by_cases e : q = s
    · rw [e]; exact hv
    · exact hq q (by omega)
  | succ d ih =>
    intro N hd hf hq hv
    rw [show ((d + 1 : Nat) : Int) - 1 = (d : Int) by omega]
    have go : ∀ (N2 : Mem) (v : Nat), Fy (uM [6, 15] []) M N2 → N2 (cX 15) = N (cX 15) → LR T r s d v → Ev SM miX10_refines 53 [some (.inr (cX 0)), some (.inl (b : Int)), some (.inl f), some (.inl (s : Int)), some (.inl (d : Int))] [.inl (v : Int), .inl (s : Int), .inr (cX 15)] N2 Q := by
      intro N2 v hf2 e15 hl
      have hvs := hl.2.1
      refine ev_iastore (np := 54) dX10_refines_53 rfl (by omega) (by omega) rfl ?_
      rw [Int.toNat_natCast]
      refine ev_iinc (np := 57) dX10_refines_54 rfl (by decide) rfl ?_
      refine ev_goto (np := 20) dX10_refines_57 (by decide) ?_
      refine ih _ (by omega) (hf2.tr (Fy.upd rfl)) (fun q hq2 => ?_) ⟨v, updM_same _ _ _ _, hl⟩
      obtain ⟨w, a, c⟩ := hq q hq2
      refine ⟨w, ?_, c⟩
      rw [← a, ← e15]
      simp [updM, show ¬ q = s by omega]
    obtain ⟨v, hv1, hv2⟩ := hv
    have hvs := hv2.2.1
    refine ev_iload (np := 22) dX10_refines_20 rfl rfl ?_
    refine ev_if_lt (tgt := 60) (np := 25) dX10_refines_22 (by decide) rfl (by omega) (fun h => absurd h (by omega)) (fun _ => ?_)
    refine ev_aload_n (np := 26) dX10_refines_25 rfl rfl ?_
    refine ev_getR (np := 29) sX10_refines_26 rfl rfl rfl ?_
    refine ev_iload_n (np := 30) dX10_refines_29 rfl rfl ?_
    refine ev_aload_n (np := 31) dX10_refines_30 rfl rfl ?_
    refine ev_iload_n (np := 32) dX10_refines_31 rfl rfl ?_
    refine ev_iload_n (np := 33) dX10_refines_32 rfl rfl ?_
    refine ev_iload (np := 35) dX10_refines_33 rfl rfl ?_
    refine ev_iload_n (np := 36) dX10_refines_35 rfl rfl ?_
    refine ev_V4 (np := 39) moX10_isAlike sX10_refines_36 (AK N s d hs (by omega) hf ) rfl rfl (Nat.le_of_ble_eq_true rfl) rfl (fun v2 N2 hq2 => ?_)
    obtain ⟨⟨z, rfl, hz, hz2⟩, f2⟩ := hq2
    refine ev_if_eq (tgt := 47) (np := 42) dX10_refines_39 (by decide) rfl (by omega) (fun h1 => ?_) (fun h1 => ?_)
    · refine ev_aload_n (np := 48) dX10_refines_47 rfl rfl ?_
      refine ev_getR (np := 51) sX10_refines_48 rfl rfl rfl ?_
      refine ev_iload_n (np := 52) dX10_refines_51 rfl rfl ?_
      refine ev_iaload (np := 53) dX10_refines_52 rfl (by omega) (by omega) rfl ?_
      rw [Int.toNat_natCast, f2.arr (n := 15) (by decide), hv1]
      refine go N2 v (hf.tr (f2.le (by decide))) (f2.arr (by decide)) ⟨by have := hv2.1; omega, hvs, hv2.2.2.1, fun q h3 h4 => ?_⟩
      by_cases e : q = d
      · subst e
        cases g : eqb T r s q with
        | false => rfl
        | true => exact absurd (hz2.mpr g) (by omega)
      · exact hv2.2.2.2 q (by omega) h4
    · refine ev_iload (np := 44) dX10_refines_42 rfl rfl ?_
      refine ev_goto (np := 53) dX10_refines_44 (by decide) ?_
      exact go N2 d (hf.tr (f2.le (by decide))) (f2.arr (by decide)) ⟨Nat.le_refl _, by omega, hz2.mp (by omega), fun q h3 h4 => absurd h4 (by omega)⟩
theorem rf_out {M : Mem} {b : Nat} {T : Tab} {r : Nat} {f : Int} (AK : ∀ (N : Mem) (s o : Nat), s < 16 → o < 16 → Fy (uM [6, 15] []) M N → Sem SM miX10_isAlike [.inr (cX 0), .inl (b : Int), .inl (s : Int), .inl (o : Int), .inl f] N (fun v N' => (∃ z : Int, v = some (.inl z) ∧ (z = 0 ∨ z = 1) ∧ (z = 1 ↔ eqb T r s o = true)) ∧ Fy (uM [6] []) N N')) {Q : Option Val → Mem → Prop}
    (K : ∀ (N : Mem) (u v : Option Val), Fy (uM [6, 15] []) M N → (∀ q, q < 16 → FN N T r q 0) → Ev SM miX10_refines 66 [some (.inr (cX 0)), some (.inl (b : Int)), some (.inl f), u, v] [] N Q) :
    ∀ (m s : Nat) (N : Mem) (v : Option Val), s + m = 16 → Fy (uM [6, 15] []) M N → (∀ q, q < s → FN N T r q 0) → Ev SM miX10_refines 2 [some (.inr (cX 0)), some (.inl (b : Int)), some (.inl f), some (.inl (s : Int)), v] [] N Q := by
  intro m
  induction m with
  | zero =>
    intro s N v hs hf hq
    refine ev_iload_n (np := 3) dX10_refines_2 rfl rfl ?_
    refine ev_bipush (np := 5) dX10_refines_3 (by decide) rfl ?_
    refine ev_icmp_ge (tgt := 66) (np := 8) dX10_refines_5 (by decide) rfl (by omega) (by omega) (fun _ => ?_) (fun h => absurd (by omega) h)
    exact K N _ _ hf (fun q h => hq q (by omega))
  | succ m ih =>
    intro s N v hs hf hq
    refine ev_iload_n (np := 3) dX10_refines_2 rfl rfl ?_
    refine ev_bipush (np := 5) dX10_refines_3 (by decide) rfl ?_
    refine ev_icmp_ge (tgt := 66) (np := 8) dX10_refines_5 (by decide) rfl (by omega) (by omega) (fun h => absurd h (by omega)) (fun _ => ?_)
    refine ev_aload_n (np := 9) dX10_refines_8 rfl rfl ?_
    refine ev_getR (np := 12) sX10_refines_9 rfl rfl rfl ?_
    refine ev_iload_n (np := 13) dX10_refines_12 rfl rfl ?_
    refine ev_iload_n (np := 14) dX10_refines_13 rfl rfl ?_
    refine ev_iastore (np := 15) dX10_refines_14 rfl (by omega) (by omega) rfl ?_
    rw [Int.toNat_natCast]
    refine ev_iload_n (np := 16) dX10_refines_15 rfl rfl ?_
    refine ev_iconst (np := 17) dX10_refines_16 rfl ?_
    refine ev_isub (np := 18) dX10_refines_17 rfl ?_
    refine ev_istore (np := 20) dX10_refines_18 (by decide) rfl ?_
    refine rf_in AK (show s < 16 by omega) ?_ s _ (Nat.le_refl _) (hf.tr (Fy.upd rfl)) (fun q h => ?_) ⟨s, updM_same _ _ _ _, Nat.le_refl _, Nat.le_refl _, eqb_refl T r s, fun q h1 h2 => absurd h2 (by omega)⟩
    · intro N2 u hf2 hq2
      refine ev_iinc (np := 63) dX10_refines_60 rfl (by decide) rfl ?_
      refine ev_goto (np := 2) dX10_refines_63 (by decide) ?_
      exact ih (s + 1) N2 _ (by omega) hf2 hq2
    · obtain ⟨w, a, c⟩ := hq q h
      refine ⟨w, ?_, c⟩
      rw [← a]
      simp [updM, show ¬ q = s by omega]
theorem rf_copy {M : Mem} {b : Nat} {T : Tab} {r : Nat} {f : Int} {v : Option Val} : ∀ (m s : Nat) (N : Mem), s + m = 16 → Fy (uM [6, 14, 15] []) M N → (∀ q, q < 16 → FN N T r q 0) → (∀ q, q < s → N (cX 14) q = N (cX 15) q) → Ev SM miX10_refines 68 [some (.inr (cX 0)), some (.inl (b : Int)), some (.inl f), some (.inl (s : Int)), v] [] N (fun v N => v = none ∧ AL N T r ∧ Fy (uM [6, 14, 15] []) M N) := by
  intro m
  induction m with
  | zero =>
    intro s N hs hf hq he
    refine ev_iload_n (np := 69) dX10_refines_68 rfl rfl ?_
    refine ev_bipush (np := 71) dX10_refines_69 (by decide) rfl ?_
    refine ev_icmp_ge (tgt := 92) (np := 74) dX10_refines_71 (by decide) rfl (by omega) (by omega) (fun _ => ?_) (fun h => absurd (by omega) h)
    refine ev_vret dX10_refines_92 rfl ?_
    refine ⟨rfl, ⟨fun q => (N (cX 15) q).toNat, fun q h => ?_⟩, hf⟩
    obtain ⟨w, a, c⟩ := hq q h
    show N (cX 14) q = ((N (cX 15) q).toNat : Int) ∧ LR T r q 0 (N (cX 15) q).toNat
    rw [he q (by omega), a, Int.toNat_natCast]
    exact ⟨rfl, c⟩
  | succ m ih =>
    intro s N hs hf hq he
    obtain ⟨w, a, c⟩ := hq s (by omega)
    have hw := c.2.1
    refine ev_iload_n (np := 69) dX10_refines_68 rfl rfl ?_
    refine ev_bipush (np := 71) dX10_refines_69 (by decide) rfl ?_
    refine ev_icmp_ge (tgt := 92) (np := 74) dX10_refines_71 (by decide) rfl (by omega) (by omega) (fun h => absurd h (by omega)) (fun _ => ?_)
    refine ev_aload_n (np := 75) dX10_refines_74 rfl rfl ?_
    refine ev_getR (np := 78) sX10_refines_75 rfl rfl rfl ?_
    refine ev_iload_n (np := 79) dX10_refines_78 rfl rfl ?_
    refine ev_aload_n (np := 80) dX10_refines_79 rfl rfl ?_
    refine ev_getR (np := 83) sX10_refines_80 rfl rfl rfl ?_
    refine ev_iload_n (np := 84) dX10_refines_83 rfl rfl ?_
    refine ev_iaload (np := 85) dX10_refines_84 rfl (by omega) (by omega) rfl ?_
    rw [Int.toNat_natCast, a]
    refine ev_iastore (np := 86) dX10_refines_85 rfl (by omega) (by omega) rfl ?_
    rw [Int.toNat_natCast]
    refine ev_iinc (np := 89) dX10_refines_86 rfl (by decide) rfl ?_
    refine ev_goto (np := 68) dX10_refines_89 (by decide) ?_
    refine ih (s + 1) _ (by omega) (hf.tr (Fy.upd rfl)) (fun q h => ?_) (fun q h => ?_)
    · obtain ⟨w2, a2, c2⟩ := hq q h
      refine ⟨w2, ?_, c2⟩
      rw [← a2]
      simp [updM]
    · by_cases e : q = s
      · rw [e, updM_same, ← a]; simp [updM]
      · have := he q (by omega)
        simp [updM, e, this]
theorem sem_refines {M : Mem} {b : Nat} {T : Tab} {r : Nat} {f : Int} (hf : f = 0 ∨ f = 1) (AK : ∀ (N : Mem) (s o : Nat), s < 16 → o < 16 → Fy (uM [6, 15] []) M N → Sem SM miX10_isAlike [.inr (cX 0), .inl (b : Int), .inl (s : Int), .inl (o : Int), .inl f] N (fun v N' => (∃ z : Int, v = some (.inl z) ∧ (z = 0 ∨ z = 1) ∧ (z = 1 ↔ eqb T r s o = true)) ∧ Fy (uM [6] []) N N')) : Sem SM miX10_refines [.inr (cX 0), .inl (b : Int), .inl f] M (fun v N => v = none ∧ AL N T r ∧ Fy (uM [6, 14, 15] []) M N) := by
  refine Sem.of (by decide) SM_ok (Nat.le_of_ble_eq_true rfl) (ls0 := [some (.inr (cX 0)), some (.inl (b : Int)), some (.inl f), none, none]) rfl ?_
  refine ev_iconst (np := 1) dX10_refines_0 rfl ?_
  refine ev_istore_n (np := 2) dX10_refines_1 (by decide) rfl ?_
  refine rf_out AK ?_ 16 0 M none rfl Fy.rf (fun q h => absurd h (Nat.not_lt_zero q))
  intro N u v hf hq
  refine ev_iconst (np := 67) dX10_refines_66 rfl ?_
  refine ev_istore_n (np := 68) dX10_refines_67 (by decide) rfl ?_
  exact rf_copy 16 0 N rfl (hf.le (by decide)) hq (fun q h => absurd h (Nat.not_lt_zero q))
-- classes
def foF (X : Nat) (ρ : Nat → Nat) : Nat → Nat
  | 0 => 0
  | s + 1 => foF X ρ s ||| (if bt X s = 1 then 2 ^ ρ s else 0)
theorem fo_lt {T : Tab} {X : Nat} {ρ : Nat → Nat} (h : ∀ s, s < 16 → LR T 16 s 0 (ρ s)) : ∀ s, s ≤ 16 → foF X ρ s < 65536
  | 0, _ => (by decide : (0 : Nat) < 65536)
  | s + 1, hs => by
    have := (h s (by omega)).2.1
    refine Nat.or_lt_two_pow (n := 16) (fo_lt h s (by omega)) ?_
    split
    · exact p2_lt (by omega)
    · decide
theorem fo_bt (X : Nat) (ρ : Nat → Nat) : ∀ s j, bt (foF X ρ s) j = 1 ↔ ∃ o, o < s ∧ bt X o = 1 ∧ ρ o = j
  | 0, j => by
    show bt 0 j = 1 ↔ _
    rw [bt_0]
    exact ⟨fun h => absurd h (by decide), fun ⟨o, h, _⟩ => absurd h (Nat.not_lt_zero o)⟩
  | s + 1, j => by
    show bt (foF X ρ s ||| (if bt X s = 1 then 2 ^ ρ s else 0)) j = 1 ↔ _
    rw [bt_or, fo_bt X ρ s j]
    constructor
    · rintro (⟨o, a, c, d⟩ | h)
      · exact ⟨o, by omega, c, d⟩
      · split at h
        · next g => exact ⟨s, by omega, g, (bt_p2 _ _).mp h⟩
        · rw [bt_0] at h; cases h
    · rintro ⟨o, a, c, d⟩
      by_cases e : o = s
      · subst e
        right
        rw [if_pos c, bt_p2]
        exact d
      · exact Or.inl ⟨o, by omega, c, d⟩
theorem fo_cnt {T : Tab} {X : Nat} {ρ : Nat → Nat} (h : ∀ s, s < 16 → LR T 16 s 0 (ρ s)) : ∀ s, s ≤ 16 → cnt (foF X ρ s).testBit 16 = cnt (clsP T X) s
  | 0, _ => by
    show cnt (0 : Nat).testBit 16 = 0
    rw [show (0 : Nat).testBit = fun _ => false from funext (fun i => Nat.zero_testBit i)]
    exact cnt_none 16
  | s + 1, hs => by
    have ih := fo_cnt (X := X) h s (by omega)
    have hr := (h s (by omega)).2.1
    show cnt (foF X ρ s ||| (if bt X s = 1 then 2 ^ ρ s else 0)).testBit 16 = cnt (clsP T X) s + (if clsP T X s = true then 1 else 0)
    by_cases e : bt X s = 1
    · rw [if_pos e]
      by_cases g : bt (foF X ρ s) (ρ s) = 1
      · obtain ⟨o, h1, h2, h3⟩ := (fo_bt X ρ s (ρ s)).mp g
        have : foF X ρ s ||| 2 ^ ρ s = foF X ρ s := by
          apply Nat.eq_of_testBit_eq
          intro i
          rw [Nat.testBit_or, Nat.testBit_two_pow]
          by_cases k : ρ s = i
          · rw [bt_tb, k] at g
            cases k2 : (foF X ρ s).testBit i with
            | true => rfl
            | false => rw [k2] at g; cases g
          · simp [k]
        rw [this, ih, if_neg]
        · rfl
        · intro k
          have := (clsP_iff.mp k).2 o h1 h2
          rw [eqb_symm T 16 _ _ ((LR_eq (h o (by omega)) (h s (by omega))).mp h3)] at this
          cases this
      · have : (foF X ρ s ||| 2 ^ ρ s).testBit = fup (foF X ρ s).testBit (ρ s) true := by
          funext i
          rw [Nat.testBit_or, Nat.testBit_two_pow]
          by_cases k : i = ρ s
          · rw [k, fup_s]; simp
          · rw [fup_n _ _ k]; simp [Ne.symm k]
        rw [this, cnt_up (by rw [bt_tb] at g; simpa using g) 16 (by omega), ih, if_pos]
        refine clsP_iff.mpr ⟨e, fun o h1 h2 => ?_⟩
        cases k : eqb T 16 s o with
        | false => rfl
        | true => exact absurd ((fo_bt X ρ s (ρ s)).mpr ⟨o, h1, h2, (LR_eq (h o (by omega)) (h s (by omega))).mpr (eqb_symm T 16 _ _ k)⟩) g
    · rw [if_neg e, Nat.or_zero, ih, if_neg (fun k => e (clsP_iff.mp k).1)]
      rfl
theorem al_17 {N : Mem} {T : Tab} (hT : TWF T) (h : AL N T 17) : AL N T 16 := by
  obtain ⟨ρ, h⟩ := h
  refine ⟨ρ, fun s hs => ?_⟩
  obtain ⟨a, b1, b2, b3, b4⟩ := h s hs
  refine ⟨a, b1, b2, eqb_anti T 16 _ _ b3, fun q h1 h2 => ?_⟩
  cases g : eqb T 16 s q with
  | false => rfl
  | true =>
    have := b4 q h1 h2
    rw [eqb_16 hT hs (by omega) g 17] at this
    cases this
theorem mcls_n {N : Mem} {b : Nat} {X F : Nat} {σ : Sg} (hI : InvM N σ) (hF : F < 65536) {u : Option Val} : ∀ (m j : Nat), j + m = 16 → Ev SM miX10_classes 82 [some (.inr (cX 0)), some (.inl (b : Int)), u, some (.inl (F : Int)), some (.inl (cnt F.testBit j : Nat)), some (.inl (j : Int))] [] N (fun v N => v = some (.inl (cnt F.testBit 16 : Nat)) ∧ InvM N σ) := by
  intro m
  induction m with
  | zero =>
    intro j hj
    have := cnt_le F.testBit 16
    rw [show j = 16 by omega]
    refine ev_iload (np := 84) dX10_classes_82 rfl rfl ?_
    refine ev_bipush (np := 86) dX10_classes_84 (by decide) rfl ?_
    refine ev_icmp_ge (tgt := 106) (np := 89) dX10_classes_86 (by decide) rfl (by omega) (by omega) (fun _ => ?_) (fun h => absurd (by omega) h)
    refine ev_iload (np := 108) dX10_classes_106 rfl rfl ?_
    refine ev_iret dX10_classes_108 rfl ?_
    exact ⟨rfl, hI⟩
  | succ m ih =>
    intro j hj
    have h1 := cnt_le F.testBit j
    have h2 := bt_lt F j
    refine ev_iload (np := 84) dX10_classes_82 rfl rfl ?_
    refine ev_bipush (np := 86) dX10_classes_84 (by decide) rfl ?_
    refine ev_icmp_ge (tgt := 106) (np := 89) dX10_classes_86 (by decide) rfl (by omega) (by omega) (fun h => absurd h (by omega)) (fun _ => ?_)
    refine ev_iload (np := 91) dX10_classes_89 rfl rfl ?_
    refine ev_iload_n (np := 92) dX10_classes_91 rfl rfl ?_
    refine ev_iload (np := 94) dX10_classes_92 rfl rfl ?_
    refine ev_ishr (np := 95) dX10_classes_94 (by omega) (by omega) rfl ?_
    refine ev_iconst (np := 96) dX10_classes_95 rfl ?_
    refine ev_iandm 1 (np := 97) dX10_classes_96 (by omega) rfl rfl ?_
    rw [shr1]
    refine ev_iadd (np := 98) dX10_classes_97 rfl ?_
    refine ev_istore (np := 100) dX10_classes_98 (by decide) rfl ?_
    refine ev_iinc (np := 103) dX10_classes_100 rfl (by decide) rfl ?_
    refine ev_goto (np := 82) dX10_classes_103 (by decide) ?_
    have := ih (j + 1) (by omega)
    rw [show cnt F.testBit (j + 1) = cnt F.testBit j + bt F j by
      show cnt F.testBit j + (if F.testBit j = true then 1 else 0) = _
      rw [bt_tb]
      cases F.testBit j <;> rfl] at this
    exact this
theorem mcls_f {N : Mem} {b : Nat} {T : Tab} {X : Nat} {σ : Sg} (hI : InvM N σ) {ρ : Nat → Nat} (hρ : ∀ s, s < 16 → N (cX 14) s = (ρ s : Int) ∧ LR T 16 s 0 (ρ s)) (hX : X < 65536) : ∀ (m s : Nat) (v : Option Val), s + m = 16 → Ev SM miX10_classes 37 [some (.inr (cX 0)), some (.inl (b : Int)), some (.inl (X : Int)), some (.inl (foF X ρ s : Nat)), some (.inl (s : Int)), v] [] N (fun v N => v = some (.inl (clsS T X : Nat)) ∧ InvM N σ) := by
  have hl := fo_lt (X := X) (fun s hs => (hρ s hs).2)
  intro m
  induction m with
  | zero =>
    intro s v hs
    refine ev_iload (np := 39) dX10_classes_37 rfl rfl ?_
    refine ev_bipush (np := 41) dX10_classes_39 (by decide) rfl ?_
    refine ev_icmp_ge (tgt := 76) (np := 44) dX10_classes_41 (by decide) rfl (by omega) (by omega) (fun _ => ?_) (fun h => absurd (by omega) h)
    refine ev_iconst (np := 77) dX10_classes_76 rfl ?_
    refine ev_istore (np := 79) dX10_classes_77 (by decide) rfl ?_
    refine ev_iconst (np := 80) dX10_classes_79 rfl ?_
    refine ev_istore (np := 82) dX10_classes_80 (by decide) rfl ?_
    have e := fo_cnt (X := X) (fun s hs => (hρ s hs).2) 16 (Nat.le_refl _)
    have := mcls_n (b := b) (u := some (.inl (X : Int))) (X := X) hI (hl 16 (Nat.le_refl _)) 16 0 rfl
    rw [e] at this
    rw [show s = 16 by omega]
    exact this
  | succ m ih =>
    intro s v hs
    have h1 := hl s (by omega)
    have hb := bt_lt X s
    obtain ⟨r1, r2⟩ := hρ s (by omega)
    have r3 := r2.2.1
    refine ev_iload (np := 39) dX10_classes_37 rfl rfl ?_
    refine ev_bipush (np := 41) dX10_classes_39 (by decide) rfl ?_
    refine ev_icmp_ge (tgt := 76) (np := 44) dX10_classes_41 (by decide) rfl (by omega) (by omega) (fun h => absurd h (by omega)) (fun _ => ?_)
    refine ev_iload_n (np := 45) dX10_classes_44 rfl rfl ?_
    refine ev_iload_n (np := 46) dX10_classes_45 rfl rfl ?_
    refine ev_iload (np := 48) dX10_classes_46 rfl rfl ?_
    refine ev_ishr (np := 49) dX10_classes_48 (by omega) (by omega) rfl ?_
    refine ev_iconst (np := 50) dX10_classes_49 rfl ?_
    refine ev_iandm 1 (np := 51) dX10_classes_50 (by omega) rfl rfl ?_
    rw [shr1]
    refine ev_iconst (np := 52) dX10_classes_51 rfl ?_
    refine ev_icmp_ne (tgt := 67) (np := 55) dX10_classes_52 (by decide) rfl (by omega) (by omega) (fun h2 => ?_) (fun h2 => ?_)
    · refine ev_iconst (np := 68) dX10_classes_67 rfl ?_
      refine ev_ior (np := 69) dX10_classes_68 (by omega) (by omega) rfl ?_
      rw [Int.toNat_natCast, show (0 : Int).toNat = 0 from rfl]
      refine ev_istore_n (np := 70) dX10_classes_69 (by decide) rfl ?_
      refine ev_iinc (np := 73) dX10_classes_70 rfl (by decide) rfl ?_
      refine ev_goto (np := 37) dX10_classes_73 (by decide) ?_
      have := ih (s + 1) v (by omega)
      rw [show foF X ρ (s + 1) = foF X ρ s ||| 0 by show _ ||| (if bt X s = 1 then _ else _) = _; rw [if_neg (by omega)]] at this
      exact this
    · refine ev_iconst (np := 56) dX10_classes_55 rfl ?_
      refine ev_aload_n (np := 57) dX10_classes_56 rfl rfl ?_
      refine ev_getR (np := 60) sX10_classes_57 rfl rfl rfl ?_
      refine ev_iload (np := 62) dX10_classes_60 rfl rfl ?_
      refine ev_iaload (np := 63) dX10_classes_62 rfl (by omega) (by omega) rfl ?_
      rw [Int.toNat_natCast, r1]
      refine ev_ishl (np := 64) dX10_classes_63 (by omega) rfl ?_
      refine ev_goto (np := 68) dX10_classes_64 (by decide) ?_
      refine ev_ior (np := 69) dX10_classes_68 (by omega) (Int.mul_nonneg (by omega) (Int.natCast_nonneg _)) rfl ?_
      rw [Int.toNat_natCast, Int.toNat_natCast (ρ s), Int.one_mul, Int.toNat_natCast]
      refine ev_istore_n (np := 70) dX10_classes_69 (by decide) rfl ?_
      refine ev_iinc (np := 73) dX10_classes_70 rfl (by decide) rfl ?_
      refine ev_goto (np := 37) dX10_classes_73 (by decide) ?_
      have := ih (s + 1) v (by omega)
      rw [show foF X ρ (s + 1) = foF X ρ s ||| 2 ^ ρ s by show _ ||| (if bt X s = 1 then _ else _) = _; rw [if_pos (by omega)]] at this
      exact this
theorem mcls_r {b : Nat} {C : Circ} (hC : WF C) (hb : b ≤ 1) {σ : Sg} (sl : ∀ N, InvM N σ → RefS N b C) {u v w : Option Val} : ∀ (m i : Nat) (N : Mem), i + m = 16 → InvM N σ → AL N (tabOf C) (i + 1) → Ev SM miX10_classes 8 [some (.inr (cX 0)), some (.inl (b : Int)), some (.inl (i : Int)), u, v, w] [] N (fun v N => v = some (.inl (clsS (tabOf C) (sct (tabOf C) 16) : Nat)) ∧ InvM N σ) := by
  have hT := tabOf_wf hC
  intro m
  induction m with
  | zero =>
    intro i N hi hI hA
    rw [show i = 16 by omega] at hA
    have hA := al_17 hT hA
    refine ev_iload_n (np := 9) dX10_classes_8 rfl rfl ?_
    refine ev_bipush (np := 11) dX10_classes_9 (by decide) rfl ?_
    refine ev_icmp_ge (tgt := 26) (np := 14) dX10_classes_11 (by decide) rfl (by omega) (by omega) (fun _ => ?_) (fun h => absurd (by omega) h)
    refine ev_aload_n (np := 27) dX10_classes_26 rfl rfl ?_
    refine ev_iload_n (np := 28) dX10_classes_27 rfl rfl ?_
    refine ev_V1 (np := 31) moX10_comesTo sX10_classes_28 (sem_mcomes (P := fun N => InvM N σ ∧ AL N (tabOf C) 16) hC hb (fun N h => sl N h.1) (fun N N' h f => ⟨h.1.scr (f.le (by decide)), by unfold AL; rw [f.arr (n := 14) (by decide)]; exact h.2⟩) ⟨hI, hA⟩ ) rfl rfl (Nat.le_of_ble_eq_true rfl) rfl (fun v2 N2 hq => ?_)
    obtain ⟨rfl, hI2, ρ, hρ⟩ := hq
    refine ev_istore_n (np := 32) dX10_classes_31 (by decide) rfl ?_
    refine ev_iconst (np := 33) dX10_classes_32 rfl ?_
    refine ev_istore_n (np := 34) dX10_classes_33 (by decide) rfl ?_
    refine ev_iconst (np := 35) dX10_classes_34 rfl ?_
    refine ev_istore (np := 37) dX10_classes_35 (by decide) rfl ?_
    exact mcls_f hI2 hρ (sct_lt hT 16) 16 0 _ rfl
  | succ m ih =>
    intro i N hi hI hA
    refine ev_iload_n (np := 9) dX10_classes_8 rfl rfl ?_
    refine ev_bipush (np := 11) dX10_classes_9 (by decide) rfl ?_
    refine ev_icmp_ge (tgt := 26) (np := 14) dX10_classes_11 (by decide) rfl (by omega) (by omega) (fun h => absurd h (by omega)) (fun _ => ?_)
    refine ev_aload_n (np := 15) dX10_classes_14 rfl rfl ?_
    refine ev_iload_n (np := 16) dX10_classes_15 rfl rfl ?_
    refine ev_iconst (np := 17) dX10_classes_16 rfl ?_
    refine ev_V2 (np := 20) moX10_refines sX10_classes_17 (sem_refines (T := tabOf C) (r := i + 1 + 1) (Or.inl rfl) (fun N2 s o hs ho f => sem_alike2 hC hb ((sl N hI).eq (f.arr (by decide))) (by unfold AL; rw [f.arr (n := 14) (by decide)]; exact hA) hs ho) ) rfl rfl (Nat.le_of_ble_eq_true rfl) rfl (fun v2 N2 hq => ?_)
    obtain ⟨rfl, hA2, f2⟩ := hq
    refine ev_iinc (np := 23) dX10_classes_20 rfl (by decide) rfl ?_
    refine ev_goto (np := 8) dX10_classes_23 (by decide) ?_
    exact ih (i + 1) N2 (by omega) (hI.scr (f2.le (by decide))) hA2
theorem sem_mclasses {M : Mem} {b : Nat} {C : Circ} (hC : WF C) (hb : b ≤ 1) {σ : Sg} (sl : ∀ N, InvM N σ → RefS N b C) (hI : InvM M σ) : Sem SM miX10_classes [.inr (cX 0), .inl (b : Int)] M (fun v N => v = some (.inl (clsS (tabOf C) (sct (tabOf C) 16) : Nat)) ∧ InvM N σ) := by
  refine Sem.of (by decide) SM_ok (Nat.le_of_ble_eq_true rfl) (ls0 := [some (.inr (cX 0)), some (.inl (b : Int)), none, none, none, none]) rfl ?_
  refine ev_aload_n (np := 1) dX10_classes_0 rfl rfl ?_
  refine ev_iload_n (np := 2) dX10_classes_1 rfl rfl ?_
  refine ev_iconst (np := 3) dX10_classes_2 rfl ?_
  refine ev_V2 (np := 6) moX10_refines sX10_classes_3 (sem_refines (T := tabOf C) (r := 0 + 1) (Or.inr rfl) (fun N2 s o hs ho f => sem_alike1 hC hb ((sl M hI).eq (f.arr (by decide))) hs ho) ) rfl rfl (Nat.le_of_ble_eq_true rfl) rfl (fun v2 N2 hq => ?_)
  obtain ⟨rfl, hA2, f2⟩ := hq
  refine ev_iconst (np := 7) dX10_classes_6 rfl ?_
  refine ev_istore_n (np := 8) dX10_classes_7 (by decide) rfl ?_
  exact mcls_r hC hb sl 16 0 N2 rfl (hI.scr (f2.le (by decide))) hA2
