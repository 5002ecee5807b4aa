/-! THE CLASS, MADE: its list of cells as its world -/
def posT : Cc → Nat
  | .inl n => if n = 0 then 0 else 30 + n
  | .inr (.inl (k, o)) => (if k = 3 then 59 else 1 + 5 * k.val) + o
  | .inr (.inr (t, o)) => 16 + 5 * t.val + o
theorem csT_is : csT = [cX 0, cX 1, cX 2, cX 3, cX 4, cX 5, cX 6, cX 7, cX 8, cX 9, cX 10, cX 11, cX 12, cX 13, cX 14, cX 15, cX 16, cX 17, cX 18, cX 19, cX 20, cX 21, cX 22, cX 23, cX 24, cX 25, cX 26, cX 27, cX 28, cC 0 0, cC 1 0, cC 2 0, cC 3 0, cC 0 1, cC 1 1, cC 2 1, cC 3 1, cC 0 2, cC 1 2, cC 2 2, cC 3 2, cC 0 3, cC 1 3, cC 2 3, cC 3 3, cC 0 4, cC 1 4, cC 2 4, cC 3 4, cT 0 0, cT 1 0, cT 2 0, cT 0 1, cT 1 1, cT 2 1, cT 0 2, cT 1 2, cT 2 2, cT 0 3, cT 1 3, cT 2 3, cT 0 4, cT 1 4, cT 2 4] := by decide +kernel
theorem pos_inj : (csT.map posT).Nodup := by decide +kernel
theorem wl_of {S : Sy} {pos : Cc → Nat} {ad : Cc → Nat} {ty : Bool → ClassId} {M : Mem} {w : va_W} (h : ∀ c ∈ S.2, w[pos c]? = some (ad c, enS ad ty M c (S.1 c))) {D : va_G} {H : Heap} (hP : va_P D vwCl w H) : va_P D vwCl (wl S ad ty M) H := by
  intro k q hk
  obtain ⟨c, hc, e⟩ := wl_map _ _ _ _ _ _ hk
  rw [wl_at hc] at hk
  cases hk
  exact hP _ _ (h c (List.mem_of_getElem? hc))
theorem wl_ofD {S : Sy} {pos : Cc → Nat} (hn : (S.2.map pos).Nodup) {ad : Cc → Nat} {ty : Bool → ClassId} {M : Mem} {w : va_W} (h : ∀ c ∈ S.2, w[pos c]? = some (ad c, enS ad ty M c (S.1 c))) {A : Nat → Prop} (hD : va_D A w) : va_D A (wl S ad ty M) := by
  refine ⟨fun i j p q hp hq e => ?_, fun k q hk => ?_⟩
  · obtain ⟨c, hc, e1⟩ := wl_map _ _ _ _ _ _ hp
    obtain ⟨d, hd, e2⟩ := wl_map _ _ _ _ _ _ hq
    have e3 := hD.1 _ _ _ _ (h c (List.mem_of_getElem? hc)) (h d (List.mem_of_getElem? hd)) (by show ad c = ad d; rw [← e1, ← e2]; exact e)
    have g1 : (S.2.map pos)[i]? = some (pos c) := by rw [List.getElem?_map, hc]; rfl
    have g2 : (S.2.map pos)[j]? = some (pos c) := by rw [List.getElem?_map, hd, e3]; rfl
    obtain ⟨l1, v1⟩ := List.getElem?_eq_some_iff.mp g1
    obtain ⟨l2, v2⟩ := List.getElem?_eq_some_iff.mp g2
    exact (List.getElem_inj hn).mp (v1.trans v2.symm)
  · obtain ⟨c, hc, e1⟩ := wl_map _ _ _ _ _ _ hk
    rw [e1]
    exact hD.2 _ _ (h c (List.mem_of_getElem? hc))
set_option maxHeartbeats 8000000 in
theorem made_T {ty : Bool → ClassId} {w : va_W} {h b : Nat} (hw : ∃ (a5 a5_9 b10_9 a17_9 b23_9 a16 a5_20 b10_20 a17_20 b23_20 a27 a5_31 b10_31 a17_31 b23_31 a38 a5_42 b11_42 a18_42 b24_42 a49 a5_53 b11_53 a18_53 b24_53 a60 a5_64 b11_64 a18_64 b24_64 a71 a5_75 b12_75 a19_75 b26_75 a33_75 b40_75 a47_75 b54_75 a61_75 b68_75 a75_75 b82_75 a82 a5_86 b12_86 a19_86 b26_86 a93 a5_97 b11_97 a104 a5_108 b11_108 a115 a5_119 b11_119 a126 a5_130 a5_9_130 b10_9_130 a17_9_130 b23_9_130 : Nat) (M1_9 M1_20 M1_31 M1_9_130 : Mem), CircT M1_9 0 newC ∧ CircT M1_20 0 newC ∧ CircT M1_31 0 newC ∧ CircT M1_9_130 0 newC ∧ w = [(h, .inr (9, [.ref a5, .ref a16, .ref a27, .ref a38, .ref a49, .ref a60, .ref a71, .ref a82, .ref a93, .ref a104, .ref a115, .ref a126])), (a5, .inr (1, [.int (Int32.ofInt (M1_9 (cC 0 0) 0)), .int (Int32.ofInt (M1_9 (cC 0 0) 1)), .ref a5_9, .ref a17_9])), (a5_9, .inr (6, [.ref b10_9])), (b10_9, .inl (ty false, 4, .inl (fun j => Int32.ofInt (M1_9 (cC 0 2) j)))), (a17_9, .inr (6, [.ref b23_9])), (b23_9, .inl (ty false, 8, .inl (fun j => Int32.ofInt (M1_9 (cC 0 4) j)))), (a16, .inr (1, [.int (Int32.ofInt (M1_20 (cC 0 0) 0)), .int (Int32.ofInt (M1_20 (cC 0 0) 1)), .ref a5_20, .ref a17_20])), (a5_20, .inr (6, [.ref b10_20])), (b10_20, .inl (ty false, 4, .inl (fun j => Int32.ofInt (M1_20 (cC 0 2) j)))), (a17_20, .inr (6, [.ref b23_20])), (b23_20, .inl (ty false, 8, .inl (fun j => Int32.ofInt (M1_20 (cC 0 4) j)))), (a27, .inr (1, [.int (Int32.ofInt (M1_31 (cC 0 0) 0)), .int (Int32.ofInt (M1_31 (cC 0 0) 1)), .ref a5_31, .ref a17_31])), (a5_31, .inr (6, [.ref b10_31])), (b10_31, .inl (ty false, 4, .inl (fun j => Int32.ofInt (M1_31 (cC 0 2) j)))), (a17_31, .inr (6, [.ref b23_31])), (b23_31, .inl (ty false, 8, .inl (fun j => Int32.ofInt (M1_31 (cC 0 4) j)))), (a38, .inr (7, [.ref a5_42, .ref a18_42, .int 0])), (a5_42, .inr (6, [.ref b11_42])), (b11_42, .inl (ty false, 64, .inl (fun _ => 0))), (a18_42, .inr (6, [.ref b24_42])), (b24_42, .inl (ty false, 16, .inl (fun _ => 0))), (a49, .inr (7, [.ref a5_53, .ref a18_53, .int 0])), (a5_53, .inr (6, [.ref b11_53])), (b11_53, .inl (ty false, 64, .inl (fun _ => 0))), (a18_53, .inr (6, [.ref b24_53])), (b24_53, .inl (ty false, 16, .inl (fun _ => 0))), (a60, .inr (7, [.ref a5_64, .ref a18_64, .int 0])), (a5_64, .inr (6, [.ref b11_64])), (b11_64, .inl (ty false, 64, .inl (fun _ => 0))), (a18_64, .inr (6, [.ref b24_64])), (b24_64, .inl (ty false, 16, .inl (fun _ => 0))), (a71, .inr (4, [.ref a5_75, .ref a19_75, .ref a33_75, .ref a47_75, .ref a61_75, .ref a75_75, .int 0])), (a5_75, .inr (6, [.ref b12_75])), (b12_75, .inl (ty false, 256, .inl (fun _ => 0))), (a19_75, .inr (6, [.ref b26_75])), (b26_75, .inl (ty false, 256, .inl (fun _ => 0))), (a33_75, .inr (6, [.ref b40_75])), (b40_75, .inl (ty false, 256, .inl (fun _ => 0))), (a47_75, .inr (6, [.ref b54_75])), (b54_75, .inl (ty false, 256, .inl (fun _ => 0))), (a61_75, .inr (6, [.ref b68_75])), (b68_75, .inl (ty false, 256, .inl (fun _ => 0))), (a75_75, .inr (6, [.ref b82_75])), (b82_75, .inl (ty false, 256, .inl (fun _ => 0))), (a82, .inr (3, [.ref a5_86, .ref a19_86, .int 0])), (a5_86, .inr (6, [.ref b12_86])), (b12_86, .inl (ty false, 8192, .inl (fun _ => 0))), (a19_86, .inr (6, [.ref b26_86])), (b26_86, .inl (ty false, 8192, .inl (fun _ => 0))), (a93, .inr (0, [.ref a5_97])), (a5_97, .inr (6, [.ref b11_97])), (b11_97, .inl (ty false, 16, .inl (fun _ => 0))), (a104, .inr (2, [.ref a5_108, .int 0])), (a5_108, .inr (6, [.ref b11_108])), (b11_108, .inl (ty false, 112, .inl (fun _ => 0))), (a115, .inr (8, [.ref a5_119, .int 0])), (a5_119, .inr (6, [.ref b11_119])), (b11_119, .inl (ty false, 80, .inl (fun _ => 0))), (a126, .inr (5, [.ref a5_130, .int 0, .int 0, .int 0])), (a5_130, .inr (1, [.int (Int32.ofInt (M1_9_130 (cC 0 0) 0)), .int (Int32.ofInt (M1_9_130 (cC 0 0) 1)), .ref a5_9_130, .ref a17_9_130])), (a5_9_130, .inr (6, [.ref b10_9_130])), (b10_9_130, .inl (ty false, 4, .inl (fun j => Int32.ofInt (M1_9_130 (cC 0 2) j)))), (a17_9_130, .inr (6, [.ref b23_9_130])), (b23_9_130, .inl (ty false, 8, .inl (fun j => Int32.ofInt (M1_9_130 (cC 0 4) j))))]) : ∃ (ad : Cc → Nat) (M : Mem), ad (cX 0) = h ∧ ad (cX 99) = b ∧ InvT M sg0 ∧ ∀ c ∈ csT, w[posT c]? = some (ad c, enS ad ty M c (shT c)) := by
  obtain ⟨a5, a5_9, b10_9, a17_9, b23_9, a16, a5_20, b10_20, a17_20, b23_20, a27, a5_31, b10_31, a17_31, b23_31, a38, a5_42, b11_42, a18_42, b24_42, a49, a5_53, b11_53, a18_53, b24_53, a60, a5_64, b11_64, a18_64, b24_64, a71, a5_75, b12_75, a19_75, b26_75, a33_75, b40_75, a47_75, b54_75, a61_75, b68_75, a75_75, b82_75, a82, a5_86, b12_86, a19_86, b26_86, a93, a5_97, b11_97, a104, a5_108, b11_108, a115, a5_119, b11_119, a126, a5_130, a5_9_130, b10_9_130, a17_9_130, b23_9_130, M1_9, M1_20, M1_31, M1_9_130, hM1_9, hM1_20, hM1_31, hM1_9_130, rfl⟩ := hw
  refine ⟨fun c => [h, a5, a5_9, b10_9, a17_9, b23_9, a16, a5_20, b10_20, a17_20, b23_20, a27, a5_31, b10_31, a17_31, b23_31, a38, a5_42, b11_42, a18_42, b24_42, a49, a5_53, b11_53, a18_53, b24_53, a60, a5_64, b11_64, a18_64, b24_64, a71, a5_75, b12_75, a19_75, b26_75, a33_75, b40_75, a47_75, b54_75, a61_75, b68_75, a75_75, b82_75, a82, a5_86, b12_86, a19_86, b26_86, a93, a5_97, b11_97, a104, a5_108, b11_108, a115, a5_119, b11_119, a126, a5_130, a5_9_130, b10_9_130, a17_9_130, b23_9_130].getD (posT c) b, (fun c j => match c with | .inr (.inl (k, o)) => (if k = 0 then M1_9 (cC 0 o) j else if k = 1 then M1_20 (cC 0 o) j else if k = 2 then M1_31 (cC 0 o) j else M1_9_130 (cC 0 o) j) | _ => 0), rfl, rfl, ⟨hM1_9, hM1_20, ⟨rfl, fun e he => absurd he (Nat.not_lt_zero e)⟩, ⟨rfl, fun j hj => absurd hj (Nat.not_lt_zero j)⟩, fun c hc => rfl⟩, ?_⟩
  rw [csT_is]
  intro c hc
  rcases List.mem_cons.mp hc with rfl | hc
  · rfl
  rcases List.mem_cons.mp hc with rfl | hc
  · rfl
  rcases List.mem_cons.mp hc with rfl | hc
  · rfl
  rcases List.mem_cons.mp hc with rfl | hc
  · rfl
  rcases List.mem_cons.mp hc with rfl | hc
  · rfl
  rcases List.mem_cons.mp hc with rfl | hc
  · rfl
  rcases List.mem_cons.mp hc with rfl | hc
  · rfl
  rcases List.mem_cons.mp hc with rfl | hc
  · rfl
  rcases List.mem_cons.mp hc with rfl | hc
  · rfl
  rcases List.mem_cons.mp hc with rfl | hc
  · rfl
  rcases List.mem_cons.mp hc with rfl | hc
  · rfl
  rcases List.mem_cons.mp hc with rfl | hc
  · rfl
  rcases List.mem_cons.mp hc with rfl | hc
  · rfl
  rcases List.mem_cons.mp hc with rfl | hc
  · rfl
  rcases List.mem_cons.mp hc with rfl | hc
  · rfl
  rcases List.mem_cons.mp hc with rfl | hc
  · rfl
  rcases List.mem_cons.mp hc with rfl | hc
  · rfl
  rcases List.mem_cons.mp hc with rfl | hc
  · rfl
  rcases List.mem_cons.mp hc with rfl | hc
  · rfl
  rcases List.mem_cons.mp hc with rfl | hc
  · rfl
  rcases List.mem_cons.mp hc with rfl | hc
  · rfl
  rcases List.mem_cons.mp hc with rfl | hc
  · rfl
  rcases List.mem_cons.mp hc with rfl | hc
  · rfl
  rcases List.mem_cons.mp hc with rfl | hc
  · rfl
  rcases List.mem_cons.mp hc with rfl | hc
  · rfl
  rcases List.mem_cons.mp hc with rfl | hc
  · rfl
  rcases List.mem_cons.mp hc with rfl | hc
  · rfl
  rcases List.mem_cons.mp hc with rfl | hc
  · rfl
  rcases List.mem_cons.mp hc with rfl | hc
  · rfl
  rcases List.mem_cons.mp hc with rfl | hc
  · rfl
  rcases List.mem_cons.mp hc with rfl | hc
  · rfl
  rcases List.mem_cons.mp hc with rfl | hc
  · rfl
  rcases List.mem_cons.mp hc with rfl | hc
  · rfl
  rcases List.mem_cons.mp hc with rfl | hc
  · rfl
  rcases List.mem_cons.mp hc with rfl | hc
  · rfl
  rcases List.mem_cons.mp hc with rfl | hc
  · rfl
  rcases List.mem_cons.mp hc with rfl | hc
  · rfl
  rcases List.mem_cons.mp hc with rfl | hc
  · rfl
  rcases List.mem_cons.mp hc with rfl | hc
  · rfl
  rcases List.mem_cons.mp hc with rfl | hc
  · rfl
  rcases List.mem_cons.mp hc with rfl | hc
  · rfl
  rcases List.mem_cons.mp hc with rfl | hc
  · rfl
  rcases List.mem_cons.mp hc with rfl | hc
  · rfl
  rcases List.mem_cons.mp hc with rfl | hc
  · rfl
  rcases List.mem_cons.mp hc with rfl | hc
  · rfl
  rcases List.mem_cons.mp hc with rfl | hc
  · rfl
  rcases List.mem_cons.mp hc with rfl | hc
  · rfl
  rcases List.mem_cons.mp hc with rfl | hc
  · rfl
  rcases List.mem_cons.mp hc with rfl | hc
  · rfl
  rcases List.mem_cons.mp hc with rfl | hc
  · rfl
  rcases List.mem_cons.mp hc with rfl | hc
  · rfl
  rcases List.mem_cons.mp hc with rfl | hc
  · rfl
  rcases List.mem_cons.mp hc with rfl | hc
  · rfl
  rcases List.mem_cons.mp hc with rfl | hc
  · rfl
  rcases List.mem_cons.mp hc with rfl | hc
  · rfl
  rcases List.mem_cons.mp hc with rfl | hc
  · rfl
  rcases List.mem_cons.mp hc with rfl | hc
  · rfl
  rcases List.mem_cons.mp hc with rfl | hc
  · rfl
  rcases List.mem_cons.mp hc with rfl | hc
  · rfl
  rcases List.mem_cons.mp hc with rfl | hc
  · rfl
  rcases List.mem_cons.mp hc with rfl | hc
  · rfl
  rcases List.mem_cons.mp hc with rfl | hc
  · rfl
  rcases List.mem_cons.mp hc with rfl | hc
  · rfl
  rcases List.mem_cons.mp hc with rfl | hc
  · rfl
  exact absurd hc List.not_mem_nil
