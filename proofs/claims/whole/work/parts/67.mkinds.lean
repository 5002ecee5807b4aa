/-! same and kinds, in the reference -/
theorem same_b : ∀ a, a < 16 → ∀ o, o < 16 → (15 - (15 &&& a)) &&& o = 15 - (15 &&& (a ||| (o ^^^ 15))) ∧ (15 - (15 &&& a)) &&& (15 - o) = 15 - (15 &&& (a ||| (o ^^^ 0))) := by decide +kernel
theorem msame_loop {N : Mem} {σ : Sg} (hI : InvM N σ) (hB : BI (bs σ)) (hp : PwM N (bs σ)) {r : Nat} (hr : r < 4) : ∀ (m p : Nat) (v : Option Val), p + m = bn (bs σ) → Ev SM miX10_same 21 [some (.inr (cX 0)), some (.inl (r : Int)), some (.inl ((15 - (15 &&& unS (bs σ) r p) : Nat) : Int)), some (.inl (p : Int)), v] [] N (fun v N => v = some (.inl (15 - (15 &&& unS (bs σ) r (bn (bs σ))) : Nat)) ∧ InvM N σ) := by
  have hle : bn (bs σ) ≤ 256 := hB.le
  intro m
  induction m with
  | zero =>
    intro p v hm
    refine ev_iload_n (np := 22) dX10_same_21 rfl rfl ?_
    refine ev_aload_n (np := 23) dX10_same_22 rfl rfl ?_
    refine ev_getI (np := 26) sX10_same_23 rfl rfl rfl ?_
    rw [hp.1]
    refine ev_icmp_ge (tgt := 83) (np := 29) dX10_same_26 (by decide) rfl (by omega) (by omega) (fun _ => ?_) (fun h => absurd (by omega) h)
    rw [show p = bn (bs σ) by omega]
    refine ev_iload_n (np := 84) dX10_same_83 rfl rfl ?_
    refine ev_iret dX10_same_84 rfl ?_
    exact ⟨rfl, hI⟩
  | succ m ih =>
    intro p v hm
    have hpb : p < bn (bs σ) := by omega
    obtain ⟨z16, o16, -, -, -⟩ := hB.2 p hpb
    have e1 := (hp.2 p hpb).1
    have hb := bt_lt (bz (bs σ) p) r
    have hu := un_lt hB r p (by omega)
    have nx := fun v => ih (p + 1) v (by omega)
    rw [show unS (bs σ) r (p + 1) = unS (bs σ) r p ||| (bo (bs σ) p ^^^ (if bt (bz (bs σ) p) r = 1 then 15 else 0)) from rfl] at nx
    obtain ⟨s1, s2⟩ := same_b _ hu _ o16
    refine ev_iload_n (np := 22) dX10_same_21 rfl rfl ?_
    refine ev_aload_n (np := 23) dX10_same_22 rfl rfl ?_
    refine ev_getI (np := 26) sX10_same_23 rfl rfl rfl ?_
    rw [hp.1]
    refine ev_icmp_ge (tgt := 83) (np := 29) dX10_same_26 (by decide) rfl (by omega) (by omega) (fun h => absurd h (by omega)) (fun _ => ?_)
    refine ev_aload_n (np := 30) dX10_same_29 rfl rfl ?_
    refine ev_getR (np := 33) sX10_same_30 rfl rfl rfl ?_
    refine ev_iload_n (np := 34) dX10_same_33 rfl rfl ?_
    refine ev_iaload (np := 35) dX10_same_34 rfl (by omega) (by omega) rfl ?_
    rw [Int.toNat_natCast, e1]
    refine ev_bipush (np := 37) dX10_same_35 (by decide) rfl ?_
    refine ev_idiv (np := 38) dX10_same_37 (by omega) (by omega) rfl ?_
    rw [show (((16 * bz (bs σ) p + bo (bs σ) p : Nat) : Int) / 16) = (bz (bs σ) p : Int) by omega]
    refine ev_iload_n (np := 39) dX10_same_38 rfl rfl ?_
    refine ev_ishr (np := 40) dX10_same_39 (by omega) (by omega) rfl ?_
    refine ev_iconst (np := 41) dX10_same_40 rfl ?_
    refine ev_iandm 1 (np := 42) dX10_same_41 (by omega) rfl rfl ?_
    rw [shr1]
    refine ev_istore (np := 44) dX10_same_42 (by decide) rfl ?_
    refine ev_iload_n (np := 45) dX10_same_44 rfl rfl ?_
    refine ev_iload (np := 47) dX10_same_45 rfl rfl ?_
    refine ev_iconst (np := 48) dX10_same_47 rfl ?_
    refine ev_icmp_ne (tgt := 63) (np := 51) dX10_same_48 (by decide) rfl (by omega) (by omega) (fun h1 => ?_) (fun h1 => ?_)
    · rw [if_neg (by omega)] at nx
      refine ev_bipush (np := 65) dX10_same_63 (by decide) rfl ?_
      refine ev_aload_n (np := 66) dX10_same_65 rfl rfl ?_
      refine ev_getR (np := 69) sX10_same_66 rfl rfl rfl ?_
      refine ev_iload_n (np := 70) dX10_same_69 rfl rfl ?_
      refine ev_iaload (np := 71) dX10_same_70 rfl (by omega) (by omega) rfl ?_
      rw [Int.toNat_natCast, e1]
      refine ev_bipush (np := 73) dX10_same_71 (by decide) rfl ?_
      refine ev_irem (np := 74) dX10_same_73 (by omega) (by omega) rfl ?_
      rw [show (((16 * bz (bs σ) p + bo (bs σ) p : Nat) : Int) % 16) = (bo (bs σ) p : Int) by omega]
      refine ev_isub (np := 75) dX10_same_74 rfl ?_
      rw [show (15 : Int) - (bo (bs σ) p : Int) = ((15 - bo (bs σ) p : Nat) : Int) by omega]
      refine ev_iand (np := 76) dX10_same_75 (by omega) (by omega) rfl ?_
      rw [Int.toNat_natCast, Int.toNat_natCast, s2]
      refine ev_istore_n (np := 77) dX10_same_76 (by decide) rfl ?_
      refine ev_iinc (np := 80) dX10_same_77 rfl (by decide) rfl ?_
      refine ev_goto (np := 21) dX10_same_80 (by decide) ?_
      exact nx _
    · rw [if_pos (by omega)] at nx
      refine ev_aload_n (np := 52) dX10_same_51 rfl rfl ?_
      refine ev_getR (np := 55) sX10_same_52 rfl rfl rfl ?_
      refine ev_iload_n (np := 56) dX10_same_55 rfl rfl ?_
      refine ev_iaload (np := 57) dX10_same_56 rfl (by omega) (by omega) rfl ?_
      rw [Int.toNat_natCast, e1]
      refine ev_bipush (np := 59) dX10_same_57 (by decide) rfl ?_
      refine ev_irem (np := 60) dX10_same_59 (by omega) (by omega) rfl ?_
      rw [show (((16 * bz (bs σ) p + bo (bs σ) p : Nat) : Int) % 16) = (bo (bs σ) p : Int) by omega]
      refine ev_goto (np := 75) dX10_same_60 (by decide) ?_
      refine ev_iand (np := 76) dX10_same_75 (by omega) (by omega) rfl ?_
      rw [Int.toNat_natCast, Int.toNat_natCast, s1]
      refine ev_istore_n (np := 77) dX10_same_76 (by decide) rfl ?_
      refine ev_iinc (np := 80) dX10_same_77 rfl (by decide) rfl ?_
      refine ev_goto (np := 21) dX10_same_80 (by decide) ?_
      exact nx _
theorem sem_msame {M : Mem} {σ : Sg} (hW : SgW σ) (h : InvM M σ) {r : Int} (hr : Rng r) : Sem SM miX10_same [.inr (cX 0), .inl r] M (fun v N => v = some (.inl (spSame σ r)) ∧ InvM N σ) := by
  refine Sem.of (by decide) SM_ok (Nat.le_of_ble_eq_true rfl) (ls0 := [some (.inr (cX 0)), some (.inl r), none, none, none]) rfl ?_
  have hB : BI (bs σ) := BI.bfs (tabOf_wf hW.1) (tabOf_wf hW.2.1)
  refine ev_iload_n (np := 1) dX10_same_0 rfl rfl ?_
  refine ev_iconst (np := 2) dX10_same_1 rfl ?_
  refine ev_iconst (np := 3) dX10_same_2 rfl ?_
  by_cases g : 0 ≤ r ∧ r ≤ 3
  · rw [spSame, if_pos g]
    refine ev_Si3 (np := 6) moX10_in sX10_same_3 (sem_in_t M hr (by omega) (by omega) g) (Nat.le_of_ble_eq_true rfl) rfl ?_
    refine ev_if_ne (tgt := 12) (np := 9) dX10_same_6 (by decide) rfl (by omega) (fun _ => ?_) (fun h => absurd h (by omega))
    refine ev_aload_n (np := 13) dX10_same_12 rfl rfl ?_
    refine ev_V0 (np := 16) moX10_pairsUp sX10_same_13 (sem_mpu hW h ) rfl rfl (Nat.le_of_ble_eq_true rfl) rfl (fun v N hq => ?_)
    obtain ⟨rfl, hp, ha, hf⟩ := hq
    have hI := h.scr (hf.le (by decide))
    obtain ⟨r1, rfl⟩ := Int.eq_ofNat_of_zero_le g.1
    rw [Int.toNat_natCast]
    refine ev_bipush (np := 18) dX10_same_16 (by decide) rfl ?_
    refine ev_istore_n (np := 19) dX10_same_18 (by decide) rfl ?_
    refine ev_iconst (np := 20) dX10_same_19 rfl ?_
    refine ev_istore_n (np := 21) dX10_same_20 (by decide) rfl ?_
    have K := msame_loop (r := r1) hI hB hp (by omega) (bn (bs σ)) 0 none (by omega)
    have e0 : unS (bs σ) r1 0 = 0 := rfl
    rw [e0] at K
    exact K
  · rw [spSame, if_neg g]
    refine ev_Si3 (np := 6) moX10_in sX10_same_3 (sem_in_f M hr (by omega) (by omega) g) (Nat.le_of_ble_eq_true rfl) rfl ?_
    refine ev_if_ne (tgt := 12) (np := 9) dX10_same_6 (by decide) rfl (by omega) (fun h => absurd (by omega) h) (fun _ => ?_)
    refine ev_ldc (np := 11) sX10_same_9 rfl ?_
    refine ev_iret dX10_same_11 rfl ?_
    exact ⟨rfl, h⟩
theorem setG_n {C : Circ} {g : Nat} {q : Nat × Nat × Nat} (h : g < cn C) : cn (setG C g q) = cn C := by
  show (if g = cn C then cn C + 1 else cn C) = cn C
  rw [if_neg (by omega)]
theorem RefC.kind {f f' : Nat → Int} {C : Circ} (hC : WF C) (h : RefC f C) {g k : Nat} (hg : g < cn C) (e : ∀ i, i ≠ 10 + 3 * g → f' i = f i) (ek : f' (10 + 3 * g) = (k : Int)) : RefC f' (setG C g (k, cf C g, cs C g)) := by
  refine ⟨by rw [setG_n hg, e 0 (by omega)]; exact h.1, by rw [e 1 (by omega)]; exact h.2.1, fun r hr => ⟨by rw [e _ (by omega)]; exact (h.2.2.1 r hr).1, by rw [e _ (by omega)]; exact (h.2.2.1 r hr).2⟩, fun j hj => ?_⟩
  rw [setG_n hg] at hj
  obtain ⟨a1, a2, a3⟩ := h.2.2.2 j hj
  by_cases c : j = g
  · subst c
    refine ⟨?_, ?_, ?_⟩
    · rw [ek]; show (k : Int) = (((if j = j then ((k, cf C j, cs C j) : Nat × Nat × Nat) else C.2.2.2.2 j).1 : Nat) : Int); rw [if_pos rfl]
    · rw [e _ (by omega), a2]; show ((cf C j : Nat) : Int) = (((if j = j then ((k, cf C j, cs C j) : Nat × Nat × Nat) else C.2.2.2.2 j).2.1 : Nat) : Int); rw [if_pos rfl]
    · rw [e _ (by omega), a3]; show ((cs C j : Nat) : Int) = (((if j = j then ((k, cf C j, cs C j) : Nat × Nat × Nat) else C.2.2.2.2 j).2.2 : Nat) : Int); rw [if_pos rfl]
  · refine ⟨?_, ?_, ?_⟩
    · rw [e _ (by omega), a1]; show _ = (((if j = g then _ else C.2.2.2.2 j).1 : Nat) : Int); rw [if_neg c]
    · rw [e _ (by omega), a2]; show _ = (((if j = g then _ else C.2.2.2.2 j).2.1 : Nat) : Int); rw [if_neg c]
    · rw [e _ (by omega), a3]; show _ = (((if j = g then _ else C.2.2.2.2 j).2.2 : Nat) : Int); rw [if_neg c]
theorem mkind_loop {M : Mem} {σ : Sg} (hW : SgW σ) (h : InvM M σ) {g : Nat} (hg : g < cn σ.1) : ∀ (m k : Nat) (N : Mem), k + m = 6 → Fy (uM [1, 6, 7, 8, 9, 10, 11] [16, 17, 18]) M N → (∀ j, j ≠ 10 + 3 * g → N (cX 1) j = M (cX 1) j) → Ev SM miX10_kinds 43 [some (.inr (cX 0)), some (.inl (g : Int)), some (.inl (M (cX 1) (10 + 3 * g))), some (.inl (kdS σ.1 (t1 σ) g k : Nat)), some (.inl (k : Int))] [] N (fun v N => v = some (.inl (kdS σ.1 (t1 σ) g 6 : Nat)) ∧ InvM N σ) := by
  have hn := hW.1.1
  obtain ⟨k1, k2, k3⟩ := hW.1.2.2.2 g hg
  intro m
  induction m with
  | zero =>
    intro k N hk hf h1
    refine ev_iload (np := 45) dX10_kinds_43 rfl rfl ?_
    refine ev_bipush (np := 47) dX10_kinds_45 (by decide) rfl ?_
    refine ev_icmp_ge (tgt := 91) (np := 50) dX10_kinds_47 (by decide) rfl (by omega) (by omega) (fun _ => ?_) (fun h => absurd (by omega) h)
    refine ev_aload_n (np := 92) dX10_kinds_91 rfl rfl ?_
    refine ev_getR (np := 95) sX10_kinds_92 rfl rfl rfl ?_
    refine ev_bipush (np := 97) dX10_kinds_95 (by decide) rfl ?_
    refine ev_iconst (np := 98) dX10_kinds_97 rfl ?_
    refine ev_iload_n (np := 99) dX10_kinds_98 rfl rfl ?_
    refine ev_imul (np := 100) dX10_kinds_99 rfl ?_
    refine ev_iadd (np := 101) dX10_kinds_100 rfl ?_
    refine ev_iload_n (np := 102) dX10_kinds_101 rfl rfl ?_
    refine ev_iastore (np := 103) dX10_kinds_102 rfl (by omega) (by omega) rfl ?_
    rw [show ((10 : Int) + 3 * (g : Int)).toNat = 10 + 3 * g by omega]
    have hl := kd_lt σ.1 (t1 σ) g 6 (Nat.le_refl _)
    rw [show k = 6 by omega]
    refine ev_iload_n (np := 104) dX10_kinds_103 rfl rfl ?_
    refine ev_iret dX10_kinds_104 rfl ?_
    have e1 : updM N (cX 1) (10 + 3 * g) (M (cX 1) (10 + 3 * g)) (cX 1) = M (cX 1) := by
      funext j
      by_cases c : j = 10 + 3 * g
      · rw [c, updM_same]
      · rw [← h1 j c]; simp [updM, c]
    have hf2 : Fy (uM [1, 6, 7, 8, 9, 10, 11] [16, 17, 18]) M (updM N (cX 1) (10 + 3 * g) (M (cX 1) (10 + 3 * g))) := hf.tr (Fy.upd rfl)
    refine ⟨rfl, h.scr (fun c j hc => ?_)⟩
    by_cases c1 : c = cX 1
    · rw [c1, e1]
    · refine hf2 c j ?_
      rcases c with n | q
      · simp only [uM] at hc ⊢
        split
        · next e => rw [if_pos e] at hc; simp at hc ⊢; omega
        · next e =>
          rw [if_neg e] at hc
          have : n ≠ 1 := fun e => c1 (by rw [e])
          simp at hc ⊢
          omega
      · rfl
  | succ m ih =>
    intro k N hk hf h1
    have hl := kd_lt σ.1 (t1 σ) g k (by omega)
    have wf' : WF (setG σ.1 g (k, cf σ.1 g, cs σ.1 g)) := setG_wf hW.1 (by omega) (by omega) ⟨by show k < 6; omega, k2, k3⟩
    refine ev_iload (np := 45) dX10_kinds_43 rfl rfl ?_
    refine ev_bipush (np := 47) dX10_kinds_45 (by decide) rfl ?_
    refine ev_icmp_ge (tgt := 91) (np := 50) dX10_kinds_47 (by decide) rfl (by omega) (by omega) (fun h => absurd h (by omega)) (fun _ => ?_)
    refine ev_aload_n (np := 51) dX10_kinds_50 rfl rfl ?_
    refine ev_getR (np := 54) sX10_kinds_51 rfl rfl rfl ?_
    refine ev_bipush (np := 56) dX10_kinds_54 (by decide) rfl ?_
    refine ev_iconst (np := 57) dX10_kinds_56 rfl ?_
    refine ev_iload_n (np := 58) dX10_kinds_57 rfl rfl ?_
    refine ev_imul (np := 59) dX10_kinds_58 rfl ?_
    refine ev_iadd (np := 60) dX10_kinds_59 rfl ?_
    refine ev_iload (np := 62) dX10_kinds_60 rfl rfl ?_
    refine ev_iastore (np := 63) dX10_kinds_62 rfl (by omega) (by omega) rfl ?_
    rw [show ((10 : Int) + 3 * (g : Int)).toNat = 10 + 3 * g by omega]
    have f1 : Fy (uM [1] []) N (updM N (cX 1) (10 + 3 * g) (k : Int)) := Fy.upd rfl
    have hf2 := hf.tr (f1.le (by decide))
    have o1 : ∀ j, j ≠ 10 + 3 * g → updM N (cX 1) (10 + 3 * g) (k : Int) (cX 1) j = M (cX 1) j := fun j hj => by rw [← h1 j hj]; simp [updM, hj]
    have ok : updM N (cX 1) (10 + 3 * g) (k : Int) (cX 1) (10 + 3 * g) = (k : Int) := updM_same _ _ _ _
    generalize updM N (cX 1) (10 + 3 * g) (k : Int) = N2 at hf2 o1 ok ⊢
    have r0 : RefS N2 0 (setG σ.1 g (k, cf σ.1 g, cs σ.1 g)) := RefC.kind hW.1 h.1 hg (fun i hi => by show N2 (cX 1) (34 * 0 + i) = M (cX 1) (34 * 0 + i); exact o1 _ (by omega)) (by show N2 (cX 1) (34 * 0 + (10 + 3 * g)) = _; rw [Nat.mul_zero, Nat.zero_add]; exact ok)
    have r1 : RefS N2 1 σ.2.1 := RefC.of hW.2.1 h.2.1 (fun i hi => o1 _ (by omega))
    refine ev_aload_n (np := 64) dX10_kinds_63 rfl rfl ?_
    refine ev_V0 (np := 67) moX10_pairsUp sX10_kinds_64 (sem_mpairsUp wf' hW.2.1 r0 r1 ) rfl rfl (Nat.le_of_ble_eq_true rfl) rfl (fun v N3 hq => ?_)
    obtain ⟨rfl, -, ha, hf3⟩ := hq
    have hf4 := hf2.tr (hf3.le (by decide))
    have nx := ih (k + 1) N3 (by omega) hf4 (fun j hj => by rw [hf3.arr (n := 1) (by decide)]; exact o1 j hj)
    rw [show kdS σ.1 (t1 σ) g (k + 1) = (if napS (tabOf (setG σ.1 g (k, cf σ.1 g, cs σ.1 g))) (t1 σ) = true then kdS σ.1 (t1 σ) g k ||| 2 ^ k else kdS σ.1 (t1 σ) g k) from rfl] at nx
    have hle := (BI.bfs (tabOf_wf wf') (tabOf_wf hW.2.1)).le
    refine ev_iload_n (np := 68) dX10_kinds_67 rfl rfl ?_
    refine ev_aload_n (np := 69) dX10_kinds_68 rfl rfl ?_
    refine ev_getI (np := 72) sX10_kinds_69 rfl rfl rfl ?_
    rcases ha with ⟨a1, a2⟩ | ⟨a1, a2, a3, a4⟩
    · rw [if_pos a2] at nx
      rw [a1]
      refine ev_if_ge (tgt := 82) (np := 75) dX10_kinds_72 (by decide) rfl (by omega) (fun h => absurd h (by omega)) (fun _ => ?_)
      refine ev_iconst (np := 76) dX10_kinds_75 rfl ?_
      refine ev_iload (np := 78) dX10_kinds_76 rfl rfl ?_
      refine ev_ishl (np := 79) dX10_kinds_78 (by omega) rfl ?_
      refine ev_goto (np := 83) dX10_kinds_79 (by decide) ?_
      refine ev_ior (np := 84) dX10_kinds_83 (by omega) (Int.mul_nonneg (by omega) (Int.natCast_nonneg _)) rfl ?_
      rw [Int.toNat_natCast, Int.toNat_natCast k, Int.one_mul, Int.toNat_natCast]
      refine ev_istore_n (np := 85) dX10_kinds_84 (by decide) rfl ?_
      refine ev_iinc (np := 88) dX10_kinds_85 rfl (by decide) rfl ?_
      refine ev_goto (np := 43) dX10_kinds_88 (by decide) ?_
      exact nx
    · rw [if_neg (by rw [a1]; decide)] at nx
      rw [a2]
      refine ev_if_ge (tgt := 82) (np := 75) dX10_kinds_72 (by decide) rfl (by omega) (fun _ => ?_) (fun h => absurd (by omega) h)
      refine ev_iconst (np := 83) dX10_kinds_82 rfl ?_
      refine ev_ior (np := 84) dX10_kinds_83 (by omega) (by omega) rfl ?_
      rw [Int.toNat_natCast, show (0 : Int).toNat = 0 from rfl, Nat.or_zero]
      refine ev_istore_n (np := 85) dX10_kinds_84 (by decide) rfl ?_
      refine ev_iinc (np := 88) dX10_kinds_85 rfl (by decide) rfl ?_
      refine ev_goto (np := 43) dX10_kinds_88 (by decide) ?_
      exact nx
theorem sem_mkinds {M : Mem} {σ : Sg} (hW : SgW σ) (h : InvM M σ) {g : Int} (hg : Rng g) : Sem SM miX10_kinds [.inr (cX 0), .inl g] M (fun v N => v = some (.inl (spKinds σ g)) ∧ InvM N σ) := by
  refine Sem.of (by decide) SM_ok (Nat.le_of_ble_eq_true rfl) (ls0 := [some (.inr (cX 0)), some (.inl g), none, none, none]) rfl ?_
  have hn := hW.1.1
  have e0 : M (cX 1) 0 = (cn σ.1 : Int) := h.1.1
  refine ev_iload_n (np := 1) dX10_kinds_0 rfl rfl ?_
  refine ev_iconst (np := 2) dX10_kinds_1 rfl ?_
  refine ev_bipush (np := 4) dX10_kinds_2 (by decide) rfl ?_
  by_cases g1 : 0 ≤ g ∧ g ≤ 7
  · rw [spKinds, if_pos g1]
    refine ev_Si3 (np := 7) moX10_in sX10_kinds_4 (sem_in_t M hg (by omega) (by omega) g1) (Nat.le_of_ble_eq_true rfl) rfl ?_
    refine ev_if_ne (tgt := 13) (np := 10) dX10_kinds_7 (by decide) rfl (by omega) (fun _ => ?_) (fun h => absurd h (by omega))
    refine ev_iload_n (np := 14) dX10_kinds_13 rfl rfl ?_
    refine ev_aload_n (np := 15) dX10_kinds_14 rfl rfl ?_
    refine ev_getR (np := 18) sX10_kinds_15 rfl rfl rfl ?_
    refine ev_iconst (np := 19) dX10_kinds_18 rfl ?_
    refine ev_iaload (np := 20) dX10_kinds_19 rfl (by omega) (by omega) rfl ?_
    rw [show (0 : Int).toNat = 0 from rfl, e0]
    refine ev_icmp_lt (tgt := 26) (np := 23) dX10_kinds_20 (by decide) rfl (by omega) (by omega) (fun h1 => ?_) (fun h1 => ?_)
    · rw [if_pos h1]
      obtain ⟨g2, rfl⟩ := Int.eq_ofNat_of_zero_le g1.1
      rw [Int.toNat_natCast]
      have hg2 : g2 < cn σ.1 := by omega
      have kk := ((hW.1.2.2.2 g2 hg2).1)
      have ek : M (cX 1) (10 + 3 * g2) = (ck σ.1 g2 : Int) := by
        rw [show M (cX 1) (10 + 3 * g2) = M (cX 1) (34 * 0 + (10 + 3 * g2)) by rw [Nat.mul_zero, Nat.zero_add]]
        exact (h.1.2.2.2 g2 hg2).1
      refine ev_aload_n (np := 27) dX10_kinds_26 rfl rfl ?_
      refine ev_getR (np := 30) sX10_kinds_27 rfl rfl rfl ?_
      refine ev_bipush (np := 32) dX10_kinds_30 (by decide) rfl ?_
      refine ev_iconst (np := 33) dX10_kinds_32 rfl ?_
      refine ev_iload_n (np := 34) dX10_kinds_33 rfl rfl ?_
      refine ev_imul (np := 35) dX10_kinds_34 rfl ?_
      refine ev_iadd (np := 36) dX10_kinds_35 rfl ?_
      refine ev_iaload (np := 37) dX10_kinds_36 rfl (by omega) (by omega) rfl ?_
      rw [show ((10 : Int) + 3 * (g2 : Int)).toNat = 10 + 3 * g2 by omega]
      refine ev_istore_n (np := 38) dX10_kinds_37 (by decide) rfl ?_
      refine ev_iconst (np := 39) dX10_kinds_38 rfl ?_
      refine ev_istore_n (np := 40) dX10_kinds_39 (by decide) rfl ?_
      refine ev_iconst (np := 41) dX10_kinds_40 rfl ?_
      refine ev_istore (np := 43) dX10_kinds_41 (by decide) rfl ?_
      exact mkind_loop hW h hg2 6 0 M rfl Fy.rf (fun j hj => rfl)
    · rw [if_neg (by omega)]
      refine ev_ldc (np := 25) sX10_kinds_23 rfl ?_
      refine ev_iret dX10_kinds_25 rfl ?_
      exact ⟨rfl, h⟩
  · rw [spKinds, if_neg g1]
    refine ev_Si3 (np := 7) moX10_in sX10_kinds_4 (sem_in_f M hg (by omega) (by omega) g1) (Nat.le_of_ble_eq_true rfl) rfl ?_
    refine ev_if_ne (tgt := 13) (np := 10) dX10_kinds_7 (by decide) rfl (by omega) (fun h => absurd (by omega) h) (fun _ => ?_)
    refine ev_ldc (np := 12) sX10_kinds_10 rfl ?_
    refine ev_iret dX10_kinds_12 rfl ?_
    exact ⟨rfl, h⟩
