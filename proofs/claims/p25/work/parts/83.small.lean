/-! A CALL OUT OF A WIDER WORLD; one circuit's world, for its constructor -/
theorem run_go2 {S : Sy} {p : Program} {l : Launch} {e : Env} {R : Room} {s : State} {m : MethodId} {args : Array Value} {below : List Frame} {meth : Method} {c : Code} {H : Heap} {locs : List Loc} {cells slots : Nat} {Z : State → Prop} {ad : Cc → Nat} {D : va_G} {ty : Bool → ClassId} {pc : Nat} {lsA : Array Slot} {st0 rest : List Value} {a : Array Value} {Qc : Option Val → Mem → Prop} {A : Nat → Prop} {H0 : Heap}
    (hr : va_Run p l e R s m args below meth c H locs cells slots 0 0 (F0 m pc lsA st0) rest (QcS S ad D ty H.size Qc a) (AA S ad H.size)) (hS : va_S A H0 H locs) (hAA : ∀ x, AA S ad H.size x → A x)
    (kk : ∀ (v : Option Val) (M' : Mem) (H1 : Heap) (locs1 : List Loc), Qc v M' → va_P D vwCl (wl S ad ty M') H1 → va_S A H0 H1 locs1 → H.size ≤ H1.size → (∀ x : Nat, x < H.size → ¬ AA S ad H.size x → H1[x]? = H[x]?) → W p l e R s m args below meth c H1 locs1 cells slots Z (F0 m (pc + 3) lsA ((v.map (cvv ad)).toList ++ rest))) : W p l e R s m args below meth c H locs cells slots Z (F0 m pc lsA st0) := by
  intro T hT X
  obtain ⟨v, st₀, t, T', L, h0, X', hL, e1, e2, ⟨⟨v2, M', hv, hq, hP1⟩, hz, hk⟩, st⟩ := hr T hT X
  cases hv
  rw [h0] at hz hk
  obtain ⟨t2, a1, b1⟩ := kk v2 M' T'.heap (locs ++ L) hq (by rw [e1]; exact hP1) ⟨Nat.le_trans hS.1 (by rw [e1]; exact hz), fun q h1 h2 => by rw [e1, hk q (Nat.lt_of_lt_of_le h1 hS.1) (fun z => h2 (hAA q z))]; exact hS.2.1 q h1 h2, fun q hq => by
      rcases List.mem_append.mp hq with h | h
      · exact hS.2.2 q h
      · exact hAA _ (hL q h)⟩ (by rw [e1]; exact hz) (fun x h1 h2 => by rw [e1]; exact hk x h1 h2) T' rfl X'
  exact ⟨t2, st t2 a1, b1⟩
theorem kv_sem0 {S : Sy} {q q' : MI} {C Sl : Nat} {w0 : va_W} {ll : List (Nat × Value)} {D : va_G} {ty : Bool → ClassId} {Q : va_W → Prop} {pc np : Nat} {st rest : List Value} {k n : Nat} {ws : va_W} {ad : Cc → Nat} {M : Mem} {c0 : Cc} {ci : Nat} {fl : List (Option Cc)} {T : u_T} {N : Nat} {Qc : Option Val → Mem → Prop} (h : Sem S q' [.inr c0] M Qc) (mo : MOkV q' 0) (sc : SiteV q q' pc) (ok : SyOk S) (hs : S.1 c0 = some (.inr (ci, fl))) (hci : vwCl[ci]? = some (q'.1.cls, T, N)) (hws : ws = wl S ad ty M) (hst : st = .ref (ad c0) :: rest) (hw : (rest.map fun v => v.category).sum ≤ 8) (hk : k ≤ C) (hsl : n ≤ Sl) (hn : pc + 3 = np)
    (kk : ∀ v M', Qc v M' → Kv q C Sl w0 ll D ty Q np ((v.map (cvv ad)).toList ++ rest) k n (wl S ad ty M')) : Kv q C Sl w0 ll D ty Q pc st k n ws := by
  subst hn; subst hst; subst hws
  obtain ⟨m1, m2, m3, m4, m5⟩ := mo
  obtain ⟨idx, w1, hd, r1, r2⟩ := sc
  intro p l e s m args below meth c H locs lsA hc hP hD hS hL
  have hts := hc.2.2.2.2.2.1
  have hK := hc.2.2.2.2.2.2.2.2.1
  have hN := hc.2.2.2.2.2.2.2.2.2
  obtain ⟨j, hj⟩ := wl_ix ok hs
  have hAA : ∀ x, AA S ad H.size x → va_A w0 s.heap.size x := by
    rintro x (⟨c1, h1, rfl⟩ | h1)
    · obtain ⟨i, hi⟩ := List.getElem?_of_mem h1
      exact hD.2 i _ (wl_at hi)
    · exact Or.inr (Nat.le_trans hS.1 h1)
  refine run_go2 (rest := rest) (a := (Value.ref (ad c0) :: []).toArray) (Qc := Qc) (D := D) (ty := ty) (S := S) (ad := ad) ?_ hS hAA (fun v M' H1 locs1 hq hP1 hS1 hz hk1 => ?_)
  · refine va_runV (own := q.1.cls) (index := idx) (As := []) (b := ad c0) (C := q'.1.cls) (Ts := TBL) (n := 0) ⟨hc.1, hc.2.1, hc.2.2.2.1, hc.2.2.2.2.1, hts⟩ (h l ad D ty H.size) (cwV (ws' := TBL) 0 hts ?_ rfl rfl rfl ⟨rfl, m5⟩ ⟨r1, r2⟩) ⟨PcS_blind, va_recv hK hP hci (obj_at hs hj), fun U hU hW => ⟨rfl, by rw [hU], by rw [hU]; exact hP, va_K.moved hW.alike hK, hD.weaken (fun _ _ _ _ => trivial), NW.warm hW hN⟩⟩ rfl rfl hL.1 rfl (lv_room hw) hd ⟨hk, hsl⟩
    intro w hw
    simp only [wsV, List.mem_append, List.mem_cons, List.not_mem_nil, or_false] at hw
    rcases hw with (e | e | e | e) | e
    · rw [e]; exact gdT _ w1
    · rw [e]; exact gdT _ m1
    · rw [e]; exact gdT _ m2
    · rw [e]; exact gdT _ m3
    · exact gdW m4 _ e
  · refine kk v M' hq p l e s m args below meth c H1 locs1 lsA hc hP1 (wl_D hD (fun c hc => ?_)) hS1 hL
    obtain ⟨i, hi⟩ := List.getElem?_of_mem hc
    exact hD.2 i _ (wl_at hi)
def shS : Cc → Option Sh
  | .inr (.inl (k, o)) => if k = 0 then (shC 0)[o]? else none
  | _ => none
def csS : List Cc := (List.range 5).map (cC 0)
abbrev SC : Sy := (shS, csS)
theorem SC_ok : SyOk SC := by
  refine ⟨by decide +kernel, ?_⟩
  rintro (n | ⟨k, o⟩ | ⟨t, o⟩) h
  · exact absurd rfl h
  · by_cases e : k = 0
    · subst e
      have ho : o < 5 := by
        rcases Nat.lt_or_ge o 5 with h1 | h1
        · exact h1
        · exact absurd (show shS (cC 0 o) = none by show (if (0 : Fin 4) = 0 then (shC 0)[o]? else none) = none; rw [if_pos rfl]; exact List.getElem?_eq_none (by simpa [shC] using h1)) h
      exact List.mem_map.mpr ⟨o, List.mem_range.mpr ho, rfl⟩
    · exact absurd (show (if k = 0 then (shC 0)[o]? else none) = none from if_neg e) h
  · exact absurd rfl h
theorem sem_setC (M : Mem) {p v : Int} (h : 0 ≤ p ∧ p < 4) : Sem SC miX6_set [.inr (cC 0 1), .inl p, .inl v] M (Rv (updM M (cC 0 2) p.toNat v)) := by
  refine Sem.of (by decide) SC_ok (Nat.le_of_ble_eq_true rfl) (ls0 := [some (.inr (cC 0 1)), some (.inl p), some (.inl v)]) rfl ?_
  refine ev_iload_n (np := 1) dX6_set_0 rfl rfl ?_
  refine ev_if_lt (tgt := 20) (np := 4) dX6_set_1 (by decide) rfl (by omega) (fun h => absurd h (by omega)) (fun _ => ?_)
  refine ev_iload_n (np := 5) dX6_set_4 rfl rfl ?_
  refine ev_aload_n (np := 6) dX6_set_5 rfl rfl ?_
  refine ev_getR (np := 9) sX6_set_6 rfl rfl rfl ?_
  refine ev_alen (np := 10) dX6_set_9 rfl rfl ?_
  refine ev_icmp_ge (tgt := 20) (np := 13) dX6_set_10 (by decide) rfl (by omega) (by omega) (fun h => absurd h (by omega)) (fun _ => ?_)
  refine ev_aload_n (np := 14) dX6_set_13 rfl rfl ?_
  refine ev_getR (np := 17) sX6_set_14 rfl rfl rfl ?_
  refine ev_iload_n (np := 18) dX6_set_17 rfl rfl ?_
  refine ev_iload_n (np := 19) dX6_set_18 rfl rfl ?_
  refine ev_iastore (np := 20) dX6_set_19 rfl (by omega) (by omega) rfl ?_
  refine ev_vret dX6_set_20 rfl ?_
  exact ⟨rfl, rfl⟩
theorem sem_setRegisterC (M : Mem) {r : Int} (hr : 0 ≤ r ∧ r < 4) (x b : Int) : Sem SC miX1_setRegister [.inr (cC 0 0), .inl r, .inl x, .inl b] M (Rv (updM M (cC 0 2) r.toNat (2 * x + b))) := by
  refine Sem.of (by decide) SC_ok (Nat.le_of_ble_eq_true rfl) (ls0 := [some (.inr (cC 0 0)), some (.inl r), some (.inl x), some (.inl b)]) rfl ?_
  refine ev_aload_n (np := 1) dX1_setRegister_0 rfl rfl ?_
  refine ev_getR (np := 4) sX1_setRegister_1 rfl rfl rfl ?_
  refine ev_iload_n (np := 5) dX1_setRegister_4 rfl rfl ?_
  refine ev_iconst (np := 6) dX1_setRegister_5 rfl ?_
  refine ev_iload_n (np := 7) dX1_setRegister_6 rfl rfl ?_
  refine ev_imul (np := 8) dX1_setRegister_7 rfl ?_
  refine ev_iload_n (np := 9) dX1_setRegister_8 rfl rfl ?_
  refine ev_iadd (np := 10) dX1_setRegister_9 rfl ?_
  refine ev_Vv2 (np := 13) moX6_set sX1_setRegister_10 (sem_setC M hr) rfl rfl (Nat.le_of_ble_eq_true rfl) rfl ?_
  refine ev_vret dX1_setRegister_13 rfl ?_
  exact ⟨rfl, rfl⟩
theorem anewC_loop (M : Mem) : ∀ (m i : Nat) (N : Mem), i + m = 4 → scell N 0 0 = 0 → scell N 0 1 = 14 → (∀ j, j < i → scell N 0 (2 + j) = 28) → Ev SC miX1_startAnew 13 [some (.inr (cC 0 0)), some (.inl (i : Int))] [] N (fun v N => v = none ∧ CircT N 0 newC) := by
  intro m
  induction m with
  | zero =>
    intro i N h1 h2 h3 h4
    refine ev_iload_n (np := 14) dX1_startAnew_13 rfl rfl ?_
    refine ev_iconst (np := 15) dX1_startAnew_14 rfl ?_
    refine ev_icmp_ge (tgt := 32) (np := 18) dX1_startAnew_15 (by decide) rfl (by omega) (by omega) (fun _ => ?_) (fun h => absurd (by omega) h)
    refine ev_vret dX1_startAnew_32 rfl ?_
    exact ⟨rfl, ⟨h2, h3, fun r hr => h4 r (by omega), fun g hg => absurd hg (Nat.not_lt_zero g)⟩⟩
  | succ m ih =>
    intro i N h1 h2 h3 h4
    refine ev_iload_n (np := 14) dX1_startAnew_13 rfl rfl ?_
    refine ev_iconst (np := 15) dX1_startAnew_14 rfl ?_
    refine ev_icmp_ge (tgt := 32) (np := 18) dX1_startAnew_15 (by decide) rfl (by omega) (by omega) (fun h => absurd h (by omega)) (fun _ => ?_)
    refine ev_aload_n (np := 19) dX1_startAnew_18 rfl rfl ?_
    refine ev_iload_n (np := 20) dX1_startAnew_19 rfl rfl ?_
    refine ev_bipush (np := 22) dX1_startAnew_20 (by decide) rfl ?_
    refine ev_iconst (np := 23) dX1_startAnew_22 rfl ?_
    refine ev_Vv3 (np := 26) moX1_setRegister sX1_startAnew_23 (sem_setRegisterC N (r := (i : Int)) (by omega) 14 0) rfl rfl (Nat.le_of_ble_eq_true rfl) rfl ?_
    refine ev_iinc (np := 29) dX1_startAnew_26 rfl (by decide) rfl ?_
    refine ev_goto (np := 13) dX1_startAnew_29 (by decide) ?_
    rw [Int.toNat_natCast, setS_r N 0 (by omega)]
    refine ih (i + 1) _ (by omega) ?_ ?_ (fun j hj => ?_)
    · rw [setS_sc, if_neg (by omega)]; exact h2
    · rw [setS_sc, if_neg (by omega)]; exact h3
    · rw [setS_sc]
      by_cases e : j = i
      · rw [if_pos (by omega)]; rfl
      · rw [if_neg (by omega)]; exact h4 j (by omega)
theorem sem_startAnewC (M : Mem) : Sem SC miX1_startAnew [.inr (cC 0 0)] M (fun v N => v = none ∧ CircT N 0 newC) := by
  refine Sem.of (by decide) SC_ok (Nat.le_of_ble_eq_true rfl) (ls0 := [some (.inr (cC 0 0)), none]) rfl ?_
  refine ev_aload_n (np := 1) dX1_startAnew_0 rfl rfl ?_
  refine ev_iconst (np := 2) dX1_startAnew_1 rfl ?_
  refine ev_put (np := 5) sX1_startAnew_2 rfl rfl rfl ?_
  refine ev_aload_n (np := 6) dX1_startAnew_5 rfl rfl ?_
  refine ev_bipush (np := 8) dX1_startAnew_6 (by decide) rfl ?_
  refine ev_put (np := 11) sX1_startAnew_8 rfl rfl rfl ?_
  refine ev_iconst (np := 12) dX1_startAnew_11 rfl ?_
  refine ev_istore_n (np := 13) dX1_startAnew_12 (by decide) rfl ?_
  rw [setS_n, setS_o]
  refine anewC_loop M 4 0 _ rfl ?_ ?_ (fun j hj => absurd hj (Nat.not_lt_zero j))
  · rw [setS_sc, if_neg (by decide), setS_sc, if_pos rfl]
  · rw [setS_sc, if_pos rfl]
