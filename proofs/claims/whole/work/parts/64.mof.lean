/-! circuitOf, in the reference -/
theorem sem_mcircuitOf {M : Mem} {σ : Sg} (hW : SgW σ) (h : InvM M σ) {c w : Int} (hc : Rng c) (hw : Rng w) : Sem SM miX10_circuitOf [.inr (cX 0), .inl c, .inl w] M (fun v N => v = some (.inl (spOf σ c w)) ∧ InvM N σ) := by
  refine Sem.of (by decide) SM_ok (Nat.le_of_ble_eq_true rfl) (ls0 := [some (.inr (cX 0)), some (.inl c), some (.inl w), none]) rfl ?_
  have hC := sel_w hW c
  have bad : ∀ u, spOf σ c w = -1000001 → Ev SM miX10_circuitOf 62 [some (.inr (cX 0)), some (.inl c), some (.inl w), u] [] M (fun v N => v = some (.inl (spOf σ c w)) ∧ InvM N σ) := by
    intro u hh
    refine ev_ldc (np := 64) sX10_circuitOf_62 rfl ?_
    refine ev_iret dX10_circuitOf_64 rfl ?_
    rw [hh]
    exact ⟨rfl, h⟩
  have dflt : ∀ u, (0 ≤ c ∧ c ≤ 1) → ((10 ≤ w ∧ w ≤ 17) ∨ (20 ≤ w ∧ w ≤ 27) ∨ (30 ≤ w ∧ w ≤ 37)) → Ev SM miX10_circuitOf 145 [some (.inr (cX 0)), some (.inl c), some (.inl w), u] [] M (fun v N => v = some (.inl (spOf σ c w)) ∧ InvM N σ) := by
    intro u g1 g2
    have hn := hC.1
    have hS := h.sel g1
    rw [spOf, if_pos g1, if_neg (by omega), if_neg (by omega), if_neg (by omega), if_neg (by omega), if_neg (by omega), if_neg (by omega), if_neg (by omega), if_pos g2]
    refine ev_iload_n (np := 146) dX10_circuitOf_145 rfl rfl ?_
    refine ev_bipush (np := 148) dX10_circuitOf_146 (by decide) rfl ?_
    refine ev_irem (np := 149) dX10_circuitOf_148 (by omega) (by omega) rfl ?_
    refine ev_aload_n (np := 150) dX10_circuitOf_149 rfl rfl ?_
    refine ev_iload_n (np := 151) dX10_circuitOf_150 rfl rfl ?_
    refine ev_iconst (np := 152) dX10_circuitOf_151 rfl ?_
    refine ev_Vi2 (np := 155) moX10_of sX10_circuitOf_152 (sem_of (b := c) (i := 0) (by omega) (by omega)) rfl rfl (Nat.le_of_ble_eq_true rfl) rfl ?_
    rw [show M (cX 1) (34 * c.toNat + (0 : Int).toNat) = (cn (sel c σ) : Int) from hS.1]
    refine ev_icmp_ge (tgt := 182) (np := 158) dX10_circuitOf_155 (by decide) rfl (by omega) (by omega) (fun h1 => ?_) (fun h1 => ?_)
    · rw [if_neg (by omega)]
      refine ev_ldc (np := 184) sX10_circuitOf_182 rfl ?_
      refine ev_iret dX10_circuitOf_184 rfl ?_
      exact ⟨rfl, h⟩
    · rw [if_pos (by omega)]
      have hg : (w % 10).toNat < cn (sel c σ) := by omega
      obtain ⟨e1, e2, e3⟩ := hS.2.2.2 _ hg
      obtain ⟨k1, k2, k3⟩ := hC.2.2.2 _ hg
      have l2 := k2.lt (by omega)
      have l3 := k3.lt (by omega)
      refine ev_aload_n (np := 159) dX10_circuitOf_158 rfl rfl ?_
      refine ev_iload_n (np := 160) dX10_circuitOf_159 rfl rfl ?_
      refine ev_bipush (np := 162) dX10_circuitOf_160 (by decide) rfl ?_
      refine ev_iconst (np := 163) dX10_circuitOf_162 rfl ?_
      refine ev_iload_n (np := 164) dX10_circuitOf_163 rfl rfl ?_
      refine ev_bipush (np := 166) dX10_circuitOf_164 (by decide) rfl ?_
      refine ev_irem (np := 167) dX10_circuitOf_166 (by omega) (by omega) rfl ?_
      refine ev_imul (np := 168) dX10_circuitOf_167 rfl ?_
      refine ev_iadd (np := 169) dX10_circuitOf_168 rfl ?_
      refine ev_iload_n (np := 170) dX10_circuitOf_169 rfl rfl ?_
      refine ev_bipush (np := 172) dX10_circuitOf_170 (by decide) rfl ?_
      refine ev_idiv (np := 173) dX10_circuitOf_172 (by omega) (by omega) rfl ?_
      refine ev_iadd (np := 174) dX10_circuitOf_173 rfl ?_
      refine ev_iconst (np := 175) dX10_circuitOf_174 rfl ?_
      refine ev_isub (np := 176) dX10_circuitOf_175 rfl ?_
      refine ev_Vi2 (np := 179) moX10_of sX10_circuitOf_176 (sem_of (b := c) (i := 10 + 3 * (w % 10) + w / 10 - 1) (by omega) (by omega)) rfl rfl (Nat.le_of_ble_eq_true rfl) rfl ?_
      refine ev_goto (np := 184) dX10_circuitOf_179 (by decide) ?_
      rcases g2 with g2 | g2 | g2
      · rw [if_pos (by omega)]
        rw [show ((10 : Int) + 3 * (w % 10) + w / 10 - 1).toNat = 10 + 3 * (w % 10).toNat by omega, show M (cX 1) (34 * c.toNat + (10 + 3 * (w % 10).toNat)) = _ from e1]
        refine ev_iret dX10_circuitOf_184 rfl ?_
        exact ⟨rfl, h⟩
      · rw [if_neg (by omega), if_pos (by omega)]
        rw [show ((10 : Int) + 3 * (w % 10) + w / 10 - 1).toNat = 10 + 3 * (w % 10).toNat + 1 by omega, show M (cX 1) (34 * c.toNat + (10 + 3 * (w % 10).toNat + 1)) = _ from e2]
        refine ev_iret dX10_circuitOf_184 rfl ?_
        exact ⟨rfl, h⟩
      · rw [if_neg (by omega), if_neg (by omega)]
        rw [show ((10 : Int) + 3 * (w % 10) + w / 10 - 1).toNat = 10 + 3 * (w % 10).toNat + 2 by omega, show M (cX 1) (34 * c.toNat + (10 + 3 * (w % 10).toNat + 2)) = _ from e3]
        refine ev_iret dX10_circuitOf_184 rfl ?_
        exact ⟨rfl, h⟩
  have seven : ∀ u, (0 ≤ c ∧ c ≤ 1) → (0 ≤ w ∧ w ≤ 6) → Ev SM miX10_circuitOf 65 [some (.inr (cX 0)), some (.inl c), some (.inl w), u] [] M (fun v N => v = some (.inl (spOf σ c w)) ∧ InvM N σ) := by
    intro u g1 g2
    have sl : ∀ N, InvM N σ → RefS N c.toNat (sel c σ) := fun N hN => hN.sel g1
    have hn := hC.1
    have ho := hC.2.1
    have hS := h.sel g1
    have hf := fst_lt hC
    have hT := tabOf_wf hC
    have c1 : ((c.toNat : Nat) : Int) = c := by omega
    refine ev_iload_n (np := 66) dX10_circuitOf_65 rfl rfl ?_
    rcases (show w = 0 ∨ w = 1 ∨ w = 2 ∨ w = 3 ∨ w = 4 ∨ w = 5 ∨ w = 6 by omega) with rfl | rfl | rfl | rfl | rfl | rfl | rfl
    · refine ev_swIn (np := 108) dX10_circuitOf_66 (by omega) (by omega) (by first | rfl | (simp; done)) (by decide) ?_
      refine ev_aload_n (np := 109) dX10_circuitOf_108 rfl rfl ?_
      refine ev_iload_n (np := 110) dX10_circuitOf_109 rfl rfl ?_
      refine ev_iload_n (np := 111) dX10_circuitOf_110 rfl rfl ?_
      refine ev_Vi2 (np := 114) moX10_of sX10_circuitOf_111 (sem_of (b := c) (i := 0) (by omega) (by omega)) rfl rfl (Nat.le_of_ble_eq_true rfl) rfl ?_
      rw [show M (cX 1) (34 * c.toNat + (0 : Int).toNat) = (cn (sel c σ) : Int) from hS.1]
      refine ev_iret dX10_circuitOf_114 rfl ?_
      refine ⟨?_, h⟩
      rw [spOf, if_pos g1, if_pos rfl]
    · refine ev_swIn (np := 108) dX10_circuitOf_66 (by omega) (by omega) (by first | rfl | (simp; done)) (by decide) ?_
      refine ev_aload_n (np := 109) dX10_circuitOf_108 rfl rfl ?_
      refine ev_iload_n (np := 110) dX10_circuitOf_109 rfl rfl ?_
      refine ev_iload_n (np := 111) dX10_circuitOf_110 rfl rfl ?_
      refine ev_Vi2 (np := 114) moX10_of sX10_circuitOf_111 (sem_of (b := c) (i := 1) (by omega) (by omega)) rfl rfl (Nat.le_of_ble_eq_true rfl) rfl ?_
      rw [show M (cX 1) (34 * c.toNat + (1 : Int).toNat) = (co (sel c σ) : Int) from hS.2.1]
      refine ev_iret dX10_circuitOf_114 rfl ?_
      refine ⟨?_, h⟩
      rw [spOf, if_pos g1, if_neg (by decide), if_pos rfl]
    · refine ev_swIn (np := 115) dX10_circuitOf_66 (by omega) (by omega) (by first | rfl | (simp; done)) (by decide) ?_
      refine ev_aload_n (np := 116) dX10_circuitOf_115 rfl rfl ?_
      refine ev_iload_n (np := 117) dX10_circuitOf_116 rfl rfl ?_
      have K := sem_mfirst hC (b := c.toNat) (by omega) hS
      rw [c1] at K
      refine ev_Vi1 (np := 120) moX10_first sX10_circuitOf_117 (K) rfl rfl (Nat.le_of_ble_eq_true rfl) rfl ?_
      refine ev_iret dX10_circuitOf_120 rfl ?_
      refine ⟨?_, h⟩
      rw [spOf, if_pos g1, if_neg (by decide), if_neg (by decide), if_pos rfl]
    · refine ev_swIn (np := 121) dX10_circuitOf_66 (by omega) (by omega) (by first | rfl | (simp; done)) (by decide) ?_
      refine ev_aload_n (np := 122) dX10_circuitOf_121 rfl rfl ?_
      refine ev_iload_n (np := 123) dX10_circuitOf_122 rfl rfl ?_
      have K := sem_mcomes (P := fun N => InvM N σ) (M := M) hC (b := c.toNat) (by omega) sl (fun N N' h f => h.scr (f.le (by decide))) h
      rw [c1] at K
      refine ev_V1 (np := 126) moX10_comesTo sX10_circuitOf_123 (K ) rfl rfl (Nat.le_of_ble_eq_true rfl) rfl (fun v N hq => ?_)
      obtain ⟨rfl, hI⟩ := hq
      have := sct_lt hT 16
      refine ev_iret dX10_circuitOf_126 rfl ?_
      refine ⟨?_, hI⟩
      rw [spOf, if_pos g1, if_neg (by decide), if_neg (by decide), if_neg (by decide), if_pos rfl]
    · refine ev_swIn (np := 127) dX10_circuitOf_66 (by omega) (by omega) (by first | rfl | (simp; done)) (by decide) ?_
      refine ev_aload_n (np := 128) dX10_circuitOf_127 rfl rfl ?_
      refine ev_iload_n (np := 129) dX10_circuitOf_128 rfl rfl ?_
      have K := sem_msteady (M := M) hC (b := c.toNat) (by omega) sl h
      rw [c1] at K
      refine ev_V1 (np := 132) moX10_steady sX10_circuitOf_129 (K ) rfl rfl (Nat.le_of_ble_eq_true rfl) rfl (fun v N hq => ?_)
      obtain ⟨rfl, hI⟩ := hq
      refine ev_iret dX10_circuitOf_132 rfl ?_
      refine ⟨?_, hI⟩
      rw [spOf, if_pos g1, if_neg (by decide), if_neg (by decide), if_neg (by decide), if_neg (by decide), if_pos rfl]
    · refine ev_swIn (np := 133) dX10_circuitOf_66 (by omega) (by omega) (by first | rfl | (simp; done)) (by decide) ?_
      refine ev_aload_n (np := 134) dX10_circuitOf_133 rfl rfl ?_
      refine ev_iload_n (np := 135) dX10_circuitOf_134 rfl rfl ?_
      have K := sem_mclasses (M := M) hC (b := c.toNat) (by omega) sl h
      rw [c1] at K
      refine ev_V1 (np := 138) moX10_classes sX10_circuitOf_135 (K ) rfl rfl (Nat.le_of_ble_eq_true rfl) rfl (fun v N hq => ?_)
      obtain ⟨rfl, hI⟩ := hq
      have : clsS (tabOf (sel c σ)) (sct (tabOf (sel c σ)) 16) ≤ 16 := cnt_le _ _
      refine ev_iret dX10_circuitOf_138 rfl ?_
      refine ⟨?_, hI⟩
      rw [spOf, if_pos g1, if_neg (by decide), if_neg (by decide), if_neg (by decide), if_neg (by decide), if_neg (by decide), if_pos rfl]
    · refine ev_swIn (np := 139) dX10_circuitOf_66 (by omega) (by omega) (by first | rfl | (simp; done)) (by decide) ?_
      refine ev_aload_n (np := 140) dX10_circuitOf_139 rfl rfl ?_
      refine ev_iload_n (np := 141) dX10_circuitOf_140 rfl rfl ?_
      have K := sem_mdepends (M := M) hC (b := c.toNat) (by omega) hS
      rw [c1] at K
      refine ev_Vi1 (np := 144) moX10_depends sX10_circuitOf_141 (K) rfl rfl (Nat.le_of_ble_eq_true rfl) rfl ?_
      refine ev_iret dX10_circuitOf_144 rfl ?_
      refine ⟨?_, h⟩
      rw [spOf, if_pos g1, if_neg (by decide), if_neg (by decide), if_neg (by decide), if_neg (by decide), if_neg (by decide), if_neg (by decide), if_pos rfl]
  have st38 : ∀ z : Int, (z = 0 ∨ z = 1) → (z = 1 ↔ ((10 ≤ w ∧ w ≤ 17) ∨ (20 ≤ w ∧ w ≤ 27) ∨ (30 ≤ w ∧ w ≤ 37))) → Ev SM miX10_circuitOf 38 [some (.inr (cX 0)), some (.inl c), some (.inl w), none] [.inl z] M (fun v N => v = some (.inl (spOf σ c w)) ∧ InvM N σ) := by
    intro z hz hz2
    refine ev_istore_n (np := 39) dX10_circuitOf_38 (by decide) rfl ?_
    refine ev_iload_n (np := 40) dX10_circuitOf_39 rfl rfl ?_
    refine ev_iconst (np := 41) dX10_circuitOf_40 rfl ?_
    refine ev_iconst (np := 42) dX10_circuitOf_41 rfl ?_
    by_cases g1 : 0 ≤ c ∧ c ≤ 1
    · refine ev_Si3 (np := 45) moX10_in sX10_circuitOf_42 (sem_in_t M hc (by omega) (by omega) g1) (Nat.le_of_ble_eq_true rfl) rfl ?_
      refine ev_if_eq (tgt := 62) (np := 48) dX10_circuitOf_45 (by decide) rfl (by omega) (fun h => absurd h (by omega)) (fun _ => ?_)
      refine ev_iload_n (np := 49) dX10_circuitOf_48 rfl rfl ?_
      refine ev_iconst (np := 50) dX10_circuitOf_49 rfl ?_
      refine ev_bipush (np := 52) dX10_circuitOf_50 (by decide) rfl ?_
      by_cases g2 : 0 ≤ w ∧ w ≤ 6
      · refine ev_Si3 (np := 55) moX10_in sX10_circuitOf_52 (sem_in_t M hw (by omega) (by omega) g2) (Nat.le_of_ble_eq_true rfl) rfl ?_
        refine ev_if_ne (tgt := 65) (np := 58) dX10_circuitOf_55 (by decide) rfl (by omega) (fun _ => ?_) (fun h => absurd h (by omega))
        exact seven _ g1 g2
      · refine ev_Si3 (np := 55) moX10_in sX10_circuitOf_52 (sem_in_f M hw (by omega) (by omega) g2) (Nat.le_of_ble_eq_true rfl) rfl ?_
        refine ev_if_ne (tgt := 65) (np := 58) dX10_circuitOf_55 (by decide) rfl (by omega) (fun h => absurd (by omega) h) (fun _ => ?_)
        refine ev_iload_n (np := 59) dX10_circuitOf_58 rfl rfl ?_
        refine ev_if_ne (tgt := 65) (np := 62) dX10_circuitOf_59 (by decide) rfl (by omega) (fun h1 => ?_) (fun h1 => ?_)
        · refine ev_iload_n (np := 66) dX10_circuitOf_65 rfl rfl ?_
          refine ev_swOut (np := 145) dX10_circuitOf_66 (by omega) (by omega) (by decide) ?_
          exact dflt _ g1 (hz2.mp (by omega))
        · refine bad _ ?_
          rw [spOf, if_pos g1, if_neg (by omega), if_neg (by omega), if_neg (by omega), if_neg (by omega), if_neg (by omega), if_neg (by omega), if_neg (by omega), if_neg (fun g => absurd (hz2.mpr g) (by omega))]
    · refine ev_Si3 (np := 45) moX10_in sX10_circuitOf_42 (sem_in_f M hc (by omega) (by omega) g1) (Nat.le_of_ble_eq_true rfl) rfl ?_
      refine ev_if_eq (tgt := 62) (np := 48) dX10_circuitOf_45 (by decide) rfl (by omega) (fun _ => ?_) (fun h => absurd (by omega) h)
      exact bad _ (by rw [spOf, if_neg g1])
  refine ev_iload_n (np := 1) dX10_circuitOf_0 rfl rfl ?_
  refine ev_bipush (np := 3) dX10_circuitOf_1 (by decide) rfl ?_
  refine ev_bipush (np := 5) dX10_circuitOf_3 (by decide) rfl ?_
  by_cases g1 : 10 ≤ w ∧ w ≤ 17
  · refine ev_Si3 (np := 8) moX10_in sX10_circuitOf_5 (sem_in_t M hw (by omega) (by omega) g1) (Nat.le_of_ble_eq_true rfl) rfl ?_
    refine ev_if_ne (tgt := 33) (np := 11) dX10_circuitOf_8 (by decide) rfl (by omega) (fun _ => ?_) (fun h => absurd h (by omega))
    refine ev_iconst (np := 34) dX10_circuitOf_33 rfl ?_
    refine ev_goto (np := 38) dX10_circuitOf_34 (by decide) ?_
    exact st38 1 (Or.inr rfl) ⟨fun _ => Or.inl g1, fun _ => rfl⟩
  · refine ev_Si3 (np := 8) moX10_in sX10_circuitOf_5 (sem_in_f M hw (by omega) (by omega) g1) (Nat.le_of_ble_eq_true rfl) rfl ?_
    refine ev_if_ne (tgt := 33) (np := 11) dX10_circuitOf_8 (by decide) rfl (by omega) (fun h => absurd (by omega) h) (fun _ => ?_)
    refine ev_iload_n (np := 12) dX10_circuitOf_11 rfl rfl ?_
    refine ev_bipush (np := 14) dX10_circuitOf_12 (by decide) rfl ?_
    refine ev_bipush (np := 16) dX10_circuitOf_14 (by decide) rfl ?_
    by_cases g2 : 20 ≤ w ∧ w ≤ 27
    · refine ev_Si3 (np := 19) moX10_in sX10_circuitOf_16 (sem_in_t M hw (by omega) (by omega) g2) (Nat.le_of_ble_eq_true rfl) rfl ?_
      refine ev_if_ne (tgt := 33) (np := 22) dX10_circuitOf_19 (by decide) rfl (by omega) (fun _ => ?_) (fun h => absurd h (by omega))
      refine ev_iconst (np := 34) dX10_circuitOf_33 rfl ?_
      refine ev_goto (np := 38) dX10_circuitOf_34 (by decide) ?_
      exact st38 1 (Or.inr rfl) ⟨fun _ => Or.inr (Or.inl g2), fun _ => rfl⟩
    · refine ev_Si3 (np := 19) moX10_in sX10_circuitOf_16 (sem_in_f M hw (by omega) (by omega) g2) (Nat.le_of_ble_eq_true rfl) rfl ?_
      refine ev_if_ne (tgt := 33) (np := 22) dX10_circuitOf_19 (by decide) rfl (by omega) (fun h => absurd (by omega) h) (fun _ => ?_)
      refine ev_iload_n (np := 23) dX10_circuitOf_22 rfl rfl ?_
      refine ev_bipush (np := 25) dX10_circuitOf_23 (by decide) rfl ?_
      refine ev_bipush (np := 27) dX10_circuitOf_25 (by decide) rfl ?_
      by_cases g3 : 30 ≤ w ∧ w ≤ 37
      · refine ev_Si3 (np := 30) moX10_in sX10_circuitOf_27 (sem_in_t M hw (by omega) (by omega) g3) (Nat.le_of_ble_eq_true rfl) rfl ?_
        refine ev_if_eq (tgt := 37) (np := 33) dX10_circuitOf_30 (by decide) rfl (by omega) (fun h => absurd h (by omega)) (fun _ => ?_)
        refine ev_iconst (np := 34) dX10_circuitOf_33 rfl ?_
        refine ev_goto (np := 38) dX10_circuitOf_34 (by decide) ?_
        exact st38 1 (Or.inr rfl) ⟨fun _ => Or.inr (Or.inr g3), fun _ => rfl⟩
      · refine ev_Si3 (np := 30) moX10_in sX10_circuitOf_27 (sem_in_f M hw (by omega) (by omega) g3) (Nat.le_of_ble_eq_true rfl) rfl ?_
        refine ev_if_eq (tgt := 37) (np := 33) dX10_circuitOf_30 (by decide) rfl (by omega) (fun _ => ?_) (fun h => absurd (by omega) h)
        refine ev_iconst (np := 38) dX10_circuitOf_37 rfl ?_
        exact st38 0 (Or.inl rfl) ⟨fun h => absurd h (by decide), fun h => absurd h (by omega)⟩
