/-! bits of small numbers -/
theorem shl_eq : ∀ m, m < 13 → (1 <<< (nI m &&& 31) : Int32).toInt = 2 ^ m := by decide +kernel
theorem nI_ot (x : Int32) (h : 0 ≤ x.toInt) : x = nI x.toInt.toNat := Int32.toInt_inj.mp (by rw [nI_toInt (by have := Int32.toInt_lt x; omega)]; omega)
theorem shl_le (x : Int32) (n : Nat) (h1 : 0 ≤ x.toInt) (h2 : x.toInt ≤ n) (hn : n ≤ 12) : 1 ≤ (1 <<< (x &&& 31) : Int32).toInt ∧ (1 <<< (x &&& 31) : Int32).toInt ≤ ((2 ^ n : Nat) : Int) := by
  have e := shl_eq x.toInt.toNat (by omega)
  rw [← nI_ot x h1] at e
  rw [e]
  have a1 : (2 : Nat) ^ x.toInt.toNat ≤ 2 ^ n := Nat.pow_le_pow_right (by decide) (by omega)
  have a2 : 1 ≤ (2 : Nat) ^ x.toInt.toNat := Nat.one_le_two_pow
  refine ⟨?_, ?_⟩
  · exact_mod_cast a2
  · exact_mod_cast a1
theorem and_bd (a b : Int32) (h : 0 ≤ b.toInt) : 0 ≤ (a &&& b).toInt ∧ (a &&& b).toInt ≤ b.toInt := by
  have hb : b.toInt = (b.toBitVec.toNat : Int) := by
    rw [← Int32.toInt_toBitVec] at h ⊢
    exact BitVec.toInt_eq_toNat_of_lt (by rw [BitVec.toInt_eq_toNat_cond] at h; split at h <;> omega)
  have h2 : (a &&& b).toBitVec.toNat ≤ b.toBitVec.toNat := by
    rw [Int32.toBitVec_and, BitVec.toNat_and]
    exact Nat.and_le_right
  have hlt : b.toInt < 2 ^ 31 := Int32.toInt_lt b
  have e : (a &&& b).toInt = ((a &&& b).toBitVec.toNat : Int) := by
    rw [← Int32.toInt_toBitVec]
    exact BitVec.toInt_eq_toNat_of_lt (by omega)
  omega
theorem bit_clr0 : ∀ p, p < 1024 → ∀ i, i < 10 → ((nI p >>> (nI i &&& 31)) &&& 1) = 0 → p + 2 ^ i < 1024 := by decide +kernel
theorem bit_set0 : ∀ p, p < 1024 → ∀ i, i < 10 → ((nI p >>> (nI i &&& 31)) &&& 1) = 1 → 2 ^ i ≤ p := by decide +kernel
theorem bit_clr (p i : Int32) (h1 : 0 ≤ p.toInt) (h2 : p.toInt < 1024) (h3 : 0 ≤ i.toInt) (h4 : i.toInt < 10) (h : ((p >>> (i &&& 31)) &&& 1) = 0) : 0 ≤ (p + (1 <<< (i &&& 31))).toInt ∧ (p + (1 <<< (i &&& 31))).toInt < 1024 := by
  have e := shl_eq i.toInt.toNat (by omega)
  rw [← nI_ot i h3] at e
  rw [nI_ot p h1, nI_ot i h3] at h
  have k := bit_clr0 p.toInt.toNat (by omega) i.toInt.toNat (by omega) h
  have k2 : ((2 ^ i.toInt.toNat : Nat) : Int) = 2 ^ i.toInt.toNat := by norm_cast
  have k3 : 1 ≤ (2 : Nat) ^ i.toInt.toNat := Nat.one_le_two_pow
  rw [ti_add (by rw [e]; omega) (by rw [e]; omega), e]
  omega
theorem bit_set (p i : Int32) (h1 : 0 ≤ p.toInt) (h2 : p.toInt < 1024) (h3 : 0 ≤ i.toInt) (h4 : i.toInt < 10) (h : ((p >>> (i &&& 31)) &&& 1) = 1) : 0 ≤ (p - (1 <<< (i &&& 31))).toInt ∧ (p - (1 <<< (i &&& 31))).toInt < 1024 := by
  have e := shl_eq i.toInt.toNat (by omega)
  rw [← nI_ot i h3] at e
  rw [nI_ot p h1, nI_ot i h3] at h
  have k := bit_set0 p.toInt.toNat (by omega) i.toInt.toNat (by omega) h
  have k2 : ((2 ^ i.toInt.toNat : Nat) : Int) = 2 ^ i.toInt.toNat := by norm_cast
  have k3 : 1 ≤ (2 : Nat) ^ i.toInt.toNat := Nat.one_le_two_pow
  rw [ti_sub (by rw [e]; omega) (by rw [e]; omega), e]
  omega
