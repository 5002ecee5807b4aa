/-! THE CLASS'S WORLD: circuits (zero, one, trial, the reader's) by k, step tables by t, all else by number -/
abbrev cC (k : Fin 4) (o : Nat) : Cc := .inr (.inl (k, o))
abbrev cT (t : Fin 3) (o : Nat) : Cc := .inr (.inr (t, o))
abbrev cX (n : Nat) : Cc := .inl n
def shC (k : Fin 4) : List Sh := [.inr (1, [none, none, some (cC k 1), some (cC k 3)]), .inr (6, [some (cC k 2)]), .inl (false, 4), .inr (6, [some (cC k 4)]), .inl (false, 8)]
def shTb (t : Fin 3) : List Sh := [.inr (7, [some (cT t 1), some (cT t 3), none]), .inr (6, [some (cT t 2)]), .inl (false, 64), .inr (6, [some (cT t 4)]), .inl (false, 16)]
def shX : List Sh := [
  .inr (9, [some (cC 0 0), some (cC 1 0), some (cC 2 0), some (cT 0 0), some (cT 1 0), some (cT 2 0), some (cX 1), some (cX 14), some (cX 19), some (cX 22), some (cX 25), some (cX 28)]),
  .inr (4, [some (cX 2), some (cX 4), some (cX 6), some (cX 8), some (cX 10), some (cX 12), none]),
  .inr (6, [some (cX 3)]), .inl (false, 256), .inr (6, [some (cX 5)]), .inl (false, 256), .inr (6, [some (cX 7)]), .inl (false, 256), .inr (6, [some (cX 9)]), .inl (false, 256), .inr (6, [some (cX 11)]), .inl (false, 256), .inr (6, [some (cX 13)]), .inl (false, 256),
  .inr (3, [some (cX 15), some (cX 17), none]), .inr (6, [some (cX 16)]), .inl (false, 8192), .inr (6, [some (cX 18)]), .inl (false, 8192),
  .inr (0, [some (cX 20)]), .inr (6, [some (cX 21)]), .inl (false, 16),
  .inr (2, [some (cX 23), none]), .inr (6, [some (cX 24)]), .inl (false, 112),
  .inr (8, [some (cX 26), none]), .inr (6, [some (cX 27)]), .inl (false, 80),
  .inr (5, [some (cC 3 0), none, none, none])]
def shT : Cc → Option Sh
  | .inl n => shX[n]?
  | .inr (.inl (k, o)) => (shC k)[o]?
  | .inr (.inr (t, o)) => (shTb t)[o]?
def csT : List Cc := (List.range 29).map cX ++ ((List.range 5).flatMap (fun o => [cC 0 o, cC 1 o, cC 2 o, cC 3 o]) ++ (List.range 5).flatMap (fun o => [cT 0 o, cT 1 o, cT 2 o]))
abbrev ST : Sy := (shT, csT)
theorem ST_ok : SyOk ST := by
  refine ⟨by decide +kernel, ?_⟩
  rintro (n | ⟨k, o⟩ | ⟨t, o⟩) h
  · have hn : n < 29 := by
      rcases Nat.lt_or_ge n 29 with h1 | h1
      · exact h1
      · exact absurd (List.getElem?_eq_none (by simpa [shX] using h1)) h
    exact List.mem_append_left _ (List.mem_map.mpr ⟨n, List.mem_range.mpr hn, rfl⟩)
  · have hn : o < 5 := by
      rcases Nat.lt_or_ge o 5 with h1 | h1
      · exact h1
      · exact absurd (List.getElem?_eq_none (by simpa [shC] using h1)) h
    refine List.mem_append_right _ (List.mem_append_left _ (List.mem_flatMap.mpr ⟨o, List.mem_range.mpr hn, ?_⟩))
    match k with
    | 0 => simp
    | 1 => simp
    | 2 => simp
    | 3 => simp
  · have hn : o < 5 := by
      rcases Nat.lt_or_ge o 5 with h1 | h1
      · exact h1
      · exact absurd (List.getElem?_eq_none (by simpa [shTb] using h1)) h
    refine List.mem_append_right _ (List.mem_append_right _ (List.mem_flatMap.mpr ⟨o, List.mem_range.mpr hn, ?_⟩))
    match t with
    | 0 => simp
    | 1 => simp
    | 2 => simp
/-- a row: its object r, its cells a, how many -/
def IsRow (r a : Cc) (n : Nat) : Prop := shT r = some (.inr (6, [some a])) ∧ shT a = some (.inl (false, n)) ∧ n < 65536
/-- Row.get within -/
theorem sem_get {r a : Cc} {n : Nat} (hr : IsRow r a n) (M : Mem) {p : Int} (h : 0 ≤ p ∧ p < n) : Sem ST miX6_get [.inr r, .inl p] M (Ri (M a p.toNat) M) := by
  obtain ⟨h1, h2, h3⟩ := hr
  refine Sem.of (by decide) ST_ok (Nat.le_of_ble_eq_true rfl) (ls0 := [some (.inr r), some (.inl p)]) rfl ?_
  refine ev_iload_n (np := 1) dX6_get_0 rfl rfl ?_
  refine ev_if_lt (tgt := 22) (np := 4) dX6_get_1 (by decide) rfl (by omega) (fun h => absurd h (by omega)) (fun _ => ?_)
  refine ev_iload_n (np := 5) dX6_get_4 rfl rfl ?_
  refine ev_aload_n (np := 6) dX6_get_5 rfl rfl ?_
  refine ev_getR (np := 9) sX6_get_6 h1 rfl rfl ?_
  refine ev_alen (np := 10) dX6_get_9 h2 rfl ?_
  refine ev_icmp_ge (tgt := 22) (np := 13) dX6_get_10 (by decide) rfl (by omega) (by omega) (fun h => absurd h (by omega)) (fun _ => ?_)
  refine ev_aload_n (np := 14) dX6_get_13 rfl rfl ?_
  refine ev_getR (np := 17) sX6_get_14 h1 rfl rfl ?_
  refine ev_iload_n (np := 18) dX6_get_17 rfl rfl ?_
  refine ev_iaload (np := 19) dX6_get_18 h2 (by omega) (by omega) rfl ?_
  refine ev_goto (np := 23) dX6_get_19 (by decide) ?_
  refine ev_iret dX6_get_23 rfl ?_
  exact ⟨rfl, rfl⟩
/-- Row.set within -/
theorem sem_set {r a : Cc} {n : Nat} (hr : IsRow r a n) (M : Mem) {p v : Int} (h : 0 ≤ p ∧ p < n) : Sem ST miX6_set [.inr r, .inl p, .inl v] M (Rv (updM M a p.toNat v)) := by
  obtain ⟨h1, h2, h3⟩ := hr
  refine Sem.of (by decide) ST_ok (Nat.le_of_ble_eq_true rfl) (ls0 := [some (.inr r), some (.inl p), some (.inl v)]) rfl ?_
  refine ev_iload_n (np := 1) dX6_set_0 rfl rfl ?_
  refine ev_if_lt (tgt := 20) (np := 4) dX6_set_1 (by decide) rfl (by omega) (fun h => absurd h (by omega)) (fun _ => ?_)
  refine ev_iload_n (np := 5) dX6_set_4 rfl rfl ?_
  refine ev_aload_n (np := 6) dX6_set_5 rfl rfl ?_
  refine ev_getR (np := 9) sX6_set_6 h1 rfl rfl ?_
  refine ev_alen (np := 10) dX6_set_9 h2 rfl ?_
  refine ev_icmp_ge (tgt := 20) (np := 13) dX6_set_10 (by decide) rfl (by omega) (by omega) (fun h => absurd h (by omega)) (fun _ => ?_)
  refine ev_aload_n (np := 14) dX6_set_13 rfl rfl ?_
  refine ev_getR (np := 17) sX6_set_14 h1 rfl rfl ?_
  refine ev_iload_n (np := 18) dX6_set_17 rfl rfl ?_
  refine ev_iload_n (np := 19) dX6_set_18 rfl rfl ?_
  refine ev_iastore (np := 20) dX6_set_19 h2 (by omega) (by omega) rfl ?_
  refine ev_vret dX6_set_20 rfl ?_
  exact ⟨rfl, rfl⟩
