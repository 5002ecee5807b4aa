/-! THE REFERENCE, MADE: its rows laid -/
def sg0 : Sg := (newC, newC, (0, fun _ => (newC, newC)), (0, fun _ => 0))
theorem sg0_w : SgW sg0 := ⟨newC_wf, newC_wf, ⟨Nat.zero_le _, fun e he => absurd he (Nat.not_lt_zero e)⟩, Nat.zero_le _, fun j hj => absurd hj (Nat.not_lt_zero j)⟩
theorem kv_get {q : MI} {C Sl : Nat} {w0 : va_W} {ll : List (Nat × Value)} {D : va_G} {ty : Bool → ClassId} {Q : va_W → Prop} {pc np : Nat} {st : List Value} {k n : Nat} {ws : va_W} {ci i q0 a : Nat} {fs : List Value} {v : Value} (sg : SiteG q pc ci i) (he : ws[q0]? = some (a, .inr (ci, fs))) (hv : fs[i]? = some v) (hn : pc + 3 = np) (kk : Kv q C Sl w0 ll D ty Q np (v :: st) k n ws) : Kv q C Sl w0 ll D ty Q pc (.ref a :: st) k n ws := by
  subst hn
  obtain ⟨K, T, N, idx, h1, h2, h3, h4, hd⟩ := sg
  intro p l e s m args below meth c H locs lsA hc hP hD hS hL
  have hts := hc.2.2.2.2.2.1
  exact va_get hc.1 hc.2.1 hts h3 hc.2.2.2.2.1 hc.2.2.2.2.2.2.2.2.1 hP q0 he h1 i h2 (hts _ h4) (fun _ h => h) (v := v) hv hd (kk p l e s m args below meth c H locs lsA hc hP hD hS hL)
theorem kv_getW {S : Sy} {q : MI} {C Sl : Nat} {w0 : va_W} {ll : List (Nat × Value)} {D : va_G} {ty : Bool → ClassId} {Q : va_W → Prop} {pc np : Nat} {st : List Value} {k n : Nat} {ad : Cc → Nat} {M : Mem} {c0 d : Cc} {ci i : Nat} {fl : List (Option Cc)} (ok : SyOk S) (sg : SiteG q pc ci i) (hs : S.1 c0 = some (.inr (ci, fl))) (hf : fl[i]? = some (some d)) (hn : pc + 3 = np) (kk : Kv q C Sl w0 ll D ty Q np (.ref (ad d) :: st) k n (wl S ad ty M)) : Kv q C Sl w0 ll D ty Q pc (.ref (ad c0) :: st) k n (wl S ad ty M) := by
  obtain ⟨j, hj⟩ := wl_ix ok hs
  exact kv_get sg (obj_at hs hj) (by rw [List.getElem?_mapIdx, hf]; rfl) hn kk
theorem kv_semS {S : Sy} {q q' : MI} {C Sl : Nat} {w0 : va_W} {ll : List (Nat × Value)} {D : va_G} {ty : Bool → ClassId} {Q : va_W → Prop} {pc np na : Nat} {st rest : List Value} {k n : Nat} {ws : va_W} {ad : Cc → Nat} {M : Mem} {As : List Val} {Qc : Option Val → Mem → Prop} (h : Sem S q' As M Qc) (mo : MOkS q' na) (sc : SiteS q q' pc) (hws : ws = wl S ad ty M) (hst : st = (As.map (cvv ad)).reverse ++ rest) (hlen : As.length = na) (hw : (rest.map fun v => v.category).sum ≤ 8) (hk : k ≤ C) (hsl : n ≤ Sl) (hn : pc + 3 = np)
    (kk : ∀ v M', Qc v M' → Kv q C Sl w0 ll D ty Q np ((v.map (cvv ad)).toList ++ rest) k n (wl S ad ty M')) : Kv q C Sl w0 ll D ty Q pc st k n ws := by
  subst hn; subst hst; subst hws
  obtain ⟨m1, m3, m4, m5⟩ := mo
  obtain ⟨idx, w1, hd, r1, r2⟩ := sc
  intro p l e s m args below meth c H locs lsA hc hP hD hS hL
  have hts := hc.2.2.2.2.2.1
  have hK := hc.2.2.2.2.2.2.2.2.1
  have hN := hc.2.2.2.2.2.2.2.2.2
  have hAA : ∀ x, AA S ad H.size x → va_A w0 s.heap.size x := by
    rintro x (⟨c1, h1, rfl⟩ | h1)
    · obtain ⟨i, hi⟩ := List.getElem?_of_mem h1
      exact hD.2 i _ (wl_at hi)
    · exact Or.inr (Nat.le_trans hS.1 h1)
  refine run_go2 (rest := rest) (a := (As.map (cvv ad)).toArray) (Qc := Qc) (D := D) (ty := ty) (S := S) (ad := ad) ?_ hS hAA (fun v M' H1 locs1 hq hP1 hS1 hz hk1 => ?_)
  · exact va_runS (own := q.1.cls) (index := idx) (As := As.map (cvv ad)) (Ts := TBL) (n := na) ⟨hc.1, hc.2.1, hc.2.2.2.1, hc.2.2.2.2.1, hts⟩ (h l ad D ty H.size) ⟨callB_of (ws' := TBL) na hts (gdW m4) rfl rfl rfl (hts _ m3) (hts _ w1) m5 ⟨r1, r2⟩, hts _ m1⟩ ⟨PcS_blind, fun U hU hW => ⟨rfl, by rw [hU], by rw [hU]; exact hP, va_K.moved hW.alike hK, hD.weaken (fun _ _ _ _ => trivial), NW.warm hW hN⟩⟩ rfl (by simpa using hlen) hL.1 rfl (lv_room hw) hd ⟨hk, hsl⟩
  · refine kk v M' hq p l e s m args below meth c H1 locs1 lsA hc hP1 (wl_D hD (fun c hc => ?_)) hS1 hL
    obtain ⟨i, hi⟩ := List.getElem?_of_mem hc
    exact hD.2 i _ (wl_at hi)
theorem makeM_tail {C Sl : Nat} {w0 : va_W} {D : va_G} {ty : Bool → ClassId} {h : Nat} {ad : Cc → Nat} (e0 : ad (cX 0) = h) (hx : C = C ∨ False) : Kv miX10_init C Sl w0 (lv_args 0 [.ref h]) D ty (fun w => ∃ (ad : Cc → Nat) (M : Mem), ad (cX 0) = h ∧ InvM M sg0 ∧ w = wl SM ad ty M) 132 [] C Sl (wl SM ad ty (fun _ _ => 0)) := by
  subst e0
  refine kv_aload0 dX10_init_132 rfl rfl ?_
  refine kv_getW (c0 := cX 0) (d := cX 1) SM_ok sX10_init_133 rfl rfl rfl ?_
  refine kv_iconst (v := 0) dX10_init_136 rfl rfl ?_
  refine kv_semS (S := SM) (ad := ad) (M := fun _ _ => 0) (rest := []) (As := [.inr (cX 1), .inl ((0 : Nat) : Int)]) (sem_lays (M := fun _ _ => 0) (a := 1) (sz := 68) (base := 0) (by decide) rfl (by decide) (by decide)) moX10_lays sX10_init_137 rfl rfl rfl (Nat.le_of_ble_eq_true rfl) (Nat.le_refl _) (Nat.le_refl _) rfl ?_
  rintro _ M1 ⟨rfl, f1, d1⟩
  refine kv_aload0 dX10_init_140 rfl rfl ?_
  refine kv_getW (c0 := cX 0) (d := cX 1) SM_ok sX10_init_141 rfl rfl rfl ?_
  refine kv_bipush (v := 34) dX10_init_144 (by decide) rfl ?_
  refine kv_semS (S := SM) (ad := ad) (M := M1) (rest := []) (As := [.inr (cX 1), .inl ((34 : Nat) : Int)]) (sem_lays (M := M1) (a := 1) (sz := 68) (base := 34) (by decide) rfl (by decide) (by decide)) moX10_lays sX10_init_146 rfl rfl rfl (Nat.le_of_ble_eq_true rfl) (Nat.le_refl _) (Nat.le_refl _) rfl ?_
  rintro _ M2 ⟨rfl, f2, d2⟩
  have z : ∀ c j, c ≠ cX 1 → M2 c j = 0 := fun c j hc => by rw [f2 c j (Or.inl hc), f1 c j (Or.inl hc)]
  refine kv_ret dX10_init_149 rfl ⟨ad, M2, rfl, ⟨lv_new (fun q hq => ?_), lv_new (fun q hq => d2 q hq), ⟨z _ _ (by decide), fun e he => absurd he (Nat.not_lt_zero e)⟩, z _ _ (by decide), fun j hj => absurd hj (Nat.not_lt_zero j)⟩, rfl⟩
  show M2 (cX 1) (34 * 0 + q) = lvF q
  rw [f2 _ _ (Or.inr (Or.inl (by omega)))]
  have := d1 q hq
  rw [Nat.zero_add] at this
  rw [Nat.mul_zero, Nat.zero_add]
  exact this
