/-! parts of a set, as numbers -/
theorem and_sp (a b : Nat) : a &&& b = 2 * (a / 2 &&& b / 2) + (if a % 2 = 1 ∧ b % 2 = 1 then 1 else 0) := by
  have h := Nat.div_add_mod (a &&& b) 2
  rw [Nat.and_div_two] at h
  by_cases c : a % 2 = 1 ∧ b % 2 = 1
  · rw [if_pos c]
    have := (Nat.and_mod_two_eq_one (a := a) (b := b)).mpr c
    omega
  · rw [if_neg c]
    have : ¬ (a &&& b) % 2 = 1 := fun e => c ((Nat.and_mod_two_eq_one (a := a) (b := b)).mp e)
    omega
theorem sub_hd {p s : Nat} (h : p &&& s = p) : p / 2 &&& s / 2 = p / 2 ∧ p % 2 ≤ s % 2 := by
  have e := and_sp p s
  rw [h] at e
  have hl : p / 2 &&& s / 2 ≤ p / 2 := Nat.and_le_left
  by_cases c : p % 2 = 1 ∧ s % 2 = 1
  · rw [if_pos c] at e; omega
  · rw [if_neg c] at e; omega
theorem sub_le {p s : Nat} (h : p &&& s = p) : p ≤ s := by rw [← h]; exact Nat.and_le_right
theorem and_sub (x s : Nat) : (x &&& s) &&& s = x &&& s := by rw [Nat.and_assoc, Nat.and_self]
theorem sb_low : ∀ (k s p : Nat), s < 2 ^ k → p &&& s = p → (2 ^ k - 1 - s + p) &&& s = p := by
  intro k
  induction k with
  | zero =>
    intro s p hs hp
    have : s = 0 := by simpa using hs
    subst this
    have := sub_le hp
    simp; omega
  | succ k ih =>
    intro s p hs hp
    obtain ⟨h1, h2⟩ := sub_hd hp
    have hle := sub_le hp
    have hpow : 2 ^ (k + 1) = 2 * 2 ^ k := by rw [Nat.pow_succ]; omega
    have e := ih (s / 2) (p / 2) (by omega) h1
    have hm1 : (2 ^ (k + 1) - 1 - s + p) / 2 = 2 ^ k - 1 - s / 2 + p / 2 := by omega
    rw [and_sp, hm1, e]
    by_cases c : (2 ^ (k + 1) - 1 - s + p) % 2 = 1 ∧ s % 2 = 1
    · rw [if_pos c]; omega
    · rw [if_neg c]; omega
theorem sb_nxt : ∀ (k s p : Nat), s < 2 ^ k → p &&& s = p → p < s → p < ((2 ^ k - s + p) &&& s) ∧ ∀ q, q &&& s = q → p < q → ((2 ^ k - s + p) &&& s) ≤ q := by
  intro k
  induction k with
  | zero => intro s p hs _ hlt; simp at hs; omega
  | succ k ih =>
    intro s p hs hp hlt
    obtain ⟨h1, h2⟩ := sub_hd hp
    have hpow : 2 ^ (k + 1) = 2 * 2 ^ k := by rw [Nat.pow_succ]; omega
    have hle2 := sub_le h1
    by_cases c : p % 2 = s % 2
    · obtain ⟨i1, i2⟩ := ih (s / 2) (p / 2) (by omega) h1 (by omega)
      have hm1 : (2 ^ (k + 1) - s + p) / 2 = 2 ^ k - s / 2 + p / 2 := by omega
      have hm2 : ¬ ((2 ^ (k + 1) - s + p) % 2 = 1 ∧ s % 2 = 1) := by omega
      rw [and_sp, hm1, if_neg hm2]
      refine ⟨by omega, fun q hq hpq => ?_⟩
      obtain ⟨q1, q2⟩ := sub_hd hq
      have := i2 (q / 2) q1 (by omega)
      omega
    · have hm1 : (2 ^ (k + 1) - s + p) / 2 = 2 ^ k - 1 - s / 2 + p / 2 := by omega
      have hm2 : (2 ^ (k + 1) - s + p) % 2 = 1 ∧ s % 2 = 1 := by omega
      rw [and_sp, hm1, if_pos hm2, sb_low k (s / 2) (p / 2) (by omega) h1]
      exact ⟨by omega, fun q _ hpq => by omega⟩
theorem sb_prv : ∀ (k u b : Nat), b < 2 ^ k → b &&& u = b → 0 < b → ((b - 1) &&& u) < b ∧ ∀ q, q &&& u = q → q < b → q ≤ ((b - 1) &&& u) := by
  intro k
  induction k with
  | zero => intro u b hb _ h0; simp at hb; omega
  | succ k ih =>
    intro u b hb hs h0
    obtain ⟨h1, h2⟩ := sub_hd hs
    have hpow : 2 ^ (k + 1) = 2 * 2 ^ k := by rw [Nat.pow_succ]; omega
    by_cases c : b % 2 = 1
    · have hm1 : (b - 1) / 2 = b / 2 := by omega
      have hm2 : ¬ ((b - 1) % 2 = 1 ∧ u % 2 = 1) := by omega
      rw [and_sp, hm1, h1, if_neg hm2]
      exact ⟨by omega, fun q _ hq => by omega⟩
    · obtain ⟨i1, i2⟩ := ih (u / 2) (b / 2) (by omega) h1 (by omega)
      have hm1 : (b - 1) / 2 = b / 2 - 1 := by omega
      rw [and_sp, hm1]
      by_cases d : (b - 1) % 2 = 1 ∧ u % 2 = 1
      · rw [if_pos d]
        refine ⟨by omega, fun q hq hqb => ?_⟩
        obtain ⟨q1, q2⟩ := sub_hd hq
        have := i2 (q / 2) q1 (by omega)
        omega
      · rw [if_neg d]
        refine ⟨by omega, fun q hq hqb => ?_⟩
        obtain ⟨q1, q2⟩ := sub_hd hq
        have := i2 (q / 2) q1 (by omega)
        omega
theorem nI_bv {n : Nat} (h : n < 2 ^ 32) : (nI n).toBitVec.toNat = n := by
  show (BitVec.ofNat 32 n).toNat = n
  rw [BitVec.toNat_ofNat]
  exact Nat.mod_eq_of_lt h
theorem i32_ext {a b : Int32} (h : a.toBitVec.toNat = b.toBitVec.toNat) : a = b := Int32.toBitVec_inj.mp (BitVec.eq_of_toNat_eq h)
theorem nI_and {a b : Nat} (ha : a < 2 ^ 32) (hb : b < 2 ^ 32) : nI a &&& nI b = nI (a &&& b) := by
  apply i32_ext
  rw [Int32.toBitVec_and, BitVec.toNat_and, nI_bv ha, nI_bv hb, nI_bv (Nat.lt_of_le_of_lt Nat.and_le_left ha)]
theorem nI_nxt {s p : Nat} (hs : s < 2 ^ 31) (hp : p < s) : (nI p - nI s) &&& nI s = nI ((2 ^ 32 - s + p) &&& s) := by
  apply i32_ext
  rw [Int32.toBitVec_and, BitVec.toNat_and, Int32.toBitVec_sub, BitVec.toNat_sub, nI_bv (by omega), nI_bv (by omega), nI_bv (Nat.lt_of_le_of_lt Nat.and_le_right (by omega)), Nat.mod_eq_of_lt (by omega)]
theorem nI_nxt0 (s : Nat) : (nI s - nI s) &&& nI s = 0 := by
  rw [Int32.sub_self, Int32.zero_and]
theorem nI_pr {b : Nat} (h : 0 < b) : nI b - 1 = nI (b - 1) := by
  obtain ⟨c, rfl⟩ : ∃ c, b = c + 1 := ⟨b - 1, by omega⟩
  rw [← nI_1, Int32.add_sub_cancel]
  rfl
