
theorem iN {x : Int} (h : 0 ≤ x) : Int32.ofInt x = nI x.toNat := by
  conv => lhs; rw [← Int.toNat_of_nonneg h]
  exact Int32.ofInt_eq_ofNat
theorem iNn (n : Nat) : Int32.ofInt (n : Int) = nI n := Int32.ofInt_eq_ofNat
theorem fx_and (a b : Nat) : nI a &&& nI b = nI (a &&& b) := by
  apply Int32.toBitVec_inj.1
  show BitVec.ofNat 32 a &&& BitVec.ofNat 32 b = BitVec.ofNat 32 (a &&& b)
  apply BitVec.eq_of_getLsbD_eq
  intro i hi
  simp [hi]
theorem fx_or (a b : Nat) : nI a ||| nI b = nI (a ||| b) := by
  apply Int32.toBitVec_inj.1
  show BitVec.ofNat 32 a ||| BitVec.ofNat 32 b = BitVec.ofNat 32 (a ||| b)
  apply BitVec.eq_of_getLsbD_eq
  intro i hi
  simp [hi]
theorem fx_xor (a b : Nat) : nI a ^^^ nI b = nI (a ^^^ b) := by
  apply Int32.toBitVec_inj.1
  show BitVec.ofNat 32 a ^^^ BitVec.ofNat 32 b = BitVec.ofNat 32 (a ^^^ b)
  apply BitVec.eq_of_getLsbD_eq
  intro i hi
  simp [hi]
theorem fx_tn (x : Int) : (Int32.ofInt x).toBitVec.toNat = (x % 4294967296).toNat := by
  show (BitVec.ofInt 32 x).toNat = _
  rw [BitVec.toNat_ofInt]
  rfl
theorem fx_inj {x y : Int32} (h : x.toBitVec.toNat = y.toBitVec.toNat) : x = y := Int32.toBitVec_inj.1 (BitVec.eq_of_toNat_eq h)
theorem fx_mask (x : Int) (k : Nat) (hk : k ≤ 31) : Int32.ofInt x &&& Int32.ofInt ((2 ^ k - 1 : Nat) : Int) = Int32.ofInt (x % (2 ^ k : Nat)) := by
  apply fx_inj
  rw [Int32.toBitVec_and, BitVec.toNat_and, fx_tn, fx_tn, fx_tn]
  have hp : (2 : Nat) ^ k ≤ 2 ^ 31 := Nat.pow_le_pow_right (by decide) hk
  have h2 : (2 : Nat) ^ 31 = 2147483648 := rfl
  have h1 : 0 < (2 : Nat) ^ k := Nat.two_pow_pos k
  have e1 : (((2 ^ k - 1 : Nat) : Int) % 4294967296).toNat = 2 ^ k - 1 := by omega
  rw [e1, Nat.and_two_pow_sub_one_eq_mod]
  obtain ⟨d, hd⟩ : ∃ d, (4294967296 : Nat) = 2 ^ k * d := ⟨2 ^ (32 - k), by rw [← Nat.pow_add, show k + (32 - k) = 32 by omega]⟩
  have e2 : x % 4294967296 % ((2 ^ k : Nat) : Int) = x % ((2 ^ k : Nat) : Int) := by
    have : (4294967296 : Int) = ((2 ^ k : Nat) : Int) * (d : Int) := by rw [← Int.natCast_mul, ← hd]; rfl
    rw [this]
    exact Int.emod_emod_of_dvd _ (Int.dvd_mul_right _ _)
  have n1 : 0 ≤ x % 4294967296 := Int.emod_nonneg _ (by decide)
  have n2 : 0 ≤ x % ((2 ^ k : Nat) : Int) := Int.emod_nonneg _ (by omega)
  have n3 : x % ((2 ^ k : Nat) : Int) < ((2 ^ k : Nat) : Int) := Int.emod_lt_of_pos _ (by omega)
  rw [Int.emod_eq_of_lt (a := x % ((2 ^ k : Nat) : Int)) n2 (by omega)]
  have e3 : (((x % 4294967296).toNat % 2 ^ k : Nat) : Int) = x % ((2 ^ k : Nat) : Int) := by
    rw [Int.natCast_emod, Int.toNat_of_nonneg n1, e2]
  omega
theorem fx_cl : ∀ n : Fin 32, ((Int32.ofInt (n.val : Int) &&& 31).toBitVec.smod 32).toNat = n.val := by decide +kernel
theorem fx_cu : ∀ n : Fin 32, (((Int32.ofInt (n.val : Int)).toUInt32 &&& Int32.toUInt32 31).toBitVec % 32).toNat = n.val := by decide +kernel
theorem fx_cl' {y : Int} (h : 0 ≤ y ∧ y < 32) : ((Int32.ofInt y &&& 31).toBitVec.smod 32).toNat = y.toNat := by
  have := fx_cl ⟨y.toNat, by omega⟩
  simpa [Int.toNat_of_nonneg h.1] using this
theorem fx_cu' {y : Int} (h : 0 ≤ y ∧ y < 32) : (((Int32.ofInt y).toUInt32 &&& Int32.toUInt32 31).toBitVec % 32).toNat = y.toNat := by
  have := fx_cu ⟨y.toNat, by omega⟩
  simpa [Int.toNat_of_nonneg h.1] using this
theorem fx_shl (x : Int) {y : Int} (h : 0 ≤ y ∧ y < 32) : Int32.ofInt x <<< (Int32.ofInt y &&& 31) = Int32.ofInt (x * (2 ^ y.toNat : Nat)) := by
  apply fx_inj
  rw [pk_shl _ _ _ (fx_cl' h), fx_tn, fx_tn]
  have n1 : 0 ≤ x % 4294967296 := Int.emod_nonneg _ (by decide)
  have n2 : 0 ≤ (x * ((2 ^ y.toNat : Nat) : Int)) % 4294967296 := Int.emod_nonneg _ (by decide)
  have e : ((((x % 4294967296).toNat * 2 ^ y.toNat) % 2 ^ 32 : Nat) : Int) = (x * ((2 ^ y.toNat : Nat) : Int)) % 4294967296 := by
    rw [Int.natCast_emod, Int.natCast_mul, Int.toNat_of_nonneg n1, show ((2 ^ 32 : Nat) : Int) = 4294967296 from rfl, Int.mul_emod, Int.emod_emod, ← Int.mul_emod]
  omega
theorem fx_shr {x y : Int} (hx : Rng x) (h : 0 ≤ y ∧ y < 32) : Int32.ofInt x >>> (Int32.ofInt y &&& 31) = Int32.ofInt (x / (2 ^ y.toNat : Nat)) := by
  apply Int32.toInt_inj.mp
  have hp : 0 < (2 : Nat) ^ y.toNat := Nat.two_pow_pos _
  rw [pk_shr _ _ _ (fx_cl' h), i32_toInt hx, Int.shiftRight_eq_div_pow]
  have hp1 : (1 : Int) ≤ ((2 ^ y.toNat : Nat) : Int) := by omega
  generalize ((2 ^ y.toNat : Nat) : Int) = P at hp1 ⊢
  have b1 : -2147483648 ≤ x / P := Int.le_ediv_of_mul_le (by omega) (by have := hx.1; omega)
  have b2 : x / P < 2147483648 := Int.ediv_lt_of_lt_mul (by omega) (by have := hx.2; omega)
  rw [i32_toInt ⟨b1, b2⟩]
theorem fx_ushr {x y : Int} (h : 0 ≤ y ∧ y < 32) : ((Int32.ofInt x).toUInt32 >>> ((Int32.ofInt y).toUInt32 &&& Int32.toUInt32 31)).toInt32 = Int32.ofInt ((x % 4294967296) / (2 ^ y.toNat : Nat)) := by
  apply fx_inj
  rw [pk_ushr _ _ _ (fx_cu' h), fx_tn, fx_tn]
  have hp : 0 < (2 : Nat) ^ y.toNat := Nat.two_pow_pos _
  have n1 : 0 ≤ x % 4294967296 := Int.emod_nonneg _ (by decide)
  have n2 : x % 4294967296 < 4294967296 := Int.emod_lt_of_pos _ (by decide)
  have e : (((x % 4294967296).toNat / 2 ^ y.toNat : Nat) : Int) = (x % 4294967296) / ((2 ^ y.toNat : Nat) : Int) := by
    rw [Int.natCast_ediv, Int.toNat_of_nonneg n1]
  have hd : (x % 4294967296).toNat / 2 ^ y.toNat ≤ (x % 4294967296).toNat := Nat.div_le_self _ _
  rw [← e]
  generalize (x % 4294967296).toNat / 2 ^ y.toNat = g at hd ⊢
  omega
theorem fx_neg1 (x : Int) : Int32.ofInt x ^^^ (-1) = Int32.ofInt (-x - 1) := by
  have h1 : Int32.ofInt x ^^^ (-1) = ~~~ (Int32.ofInt x) := by
    apply Int32.toBitVec_inj.1
    show (Int32.ofInt x).toBitVec ^^^ BitVec.allOnes 32 = ~~~ (Int32.ofInt x).toBitVec
    rw [BitVec.xor_allOnes]
  rw [h1]
  have h2 : ~~~ (Int32.ofInt x) = - Int32.ofInt x - 1 := by
    apply Int32.toBitVec_inj.1
    show ~~~ (Int32.ofInt x).toBitVec = - (Int32.ofInt x).toBitVec - 1#32
    rw [BitVec.neg_eq_not_add, BitVec.add_sub_cancel]
  rw [h2, Int32.ofInt_sub, Int32.ofInt_neg]
  rfl
theorem fx_andnot {a b : Nat} (ha : a < 2147483648) (hb : b < 2147483648) : Int32.ofInt (a : Int) &&& Int32.ofInt (-(b : Int) - 1) = Int32.ofInt ((a - (a &&& b) : Nat) : Int) := by
  rw [← fx_neg1, iNn, iNn, iNn]
  apply fx_inj
  have t1 : ∀ n, n < 2147483648 → (nI n).toBitVec.toNat = n := fun n h => pk_tn (by omega)
  have hab : a &&& b ≤ a := Nat.and_le_left
  rw [t1 (a - (a &&& b)) (by omega)]
  have e : nI b ^^^ (-1) = ~~~ (nI b) := by
    apply Int32.toBitVec_inj.1
    show (nI b).toBitVec ^^^ BitVec.allOnes 32 = ~~~ (nI b).toBitVec
    rw [BitVec.xor_allOnes]
  rw [e, Int32.toBitVec_and, Int32.toBitVec_not]
  have hs : (nI a).toBitVec &&& ~~~ (nI b).toBitVec = (nI a).toBitVec - ((nI a).toBitVec &&& (nI b).toBitVec) := by
    have h5 : ((nI a).toBitVec &&& (nI b).toBitVec) + ((nI a).toBitVec &&& ~~~ (nI b).toBitVec) = (nI a).toBitVec := by
      rw [BitVec.add_eq_or_of_and_eq_zero]
      · apply BitVec.eq_of_getLsbD_eq
        intro i hi
        simp [hi]
        cases (nI a).toBitVec[i] <;> cases (nI b).toBitVec[i] <;> rfl
      · apply BitVec.eq_of_getLsbD_eq
        intro i hi
        simp [hi]
        cases (nI a).toBitVec[i] <;> cases (nI b).toBitVec[i] <;> simp
    generalize (nI a).toBitVec &&& ~~~ (nI b).toBitVec = X at h5 ⊢
    generalize (nI a).toBitVec &&& (nI b).toBitVec = Y at h5 ⊢
    rw [← h5, BitVec.add_comm, BitVec.add_sub_cancel]
  rw [hs, BitVec.toNat_sub_of_le, BitVec.toNat_and, t1 a ha, t1 b hb]
  rw [BitVec.le_def, BitVec.toNat_and, t1 a ha, t1 b hb]
  exact hab
