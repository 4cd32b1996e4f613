/-- p1: one call on a fresh object -/
def inR (a lo hi : Int32) : Bool := match decide (a < lo) with
  | true => false
  | false => match decide (hi < a) with
    | true => false
    | false => true
theorem within_eq (a lo hi : Int32) (s : Sg) : fX9_within a lo hi s = some (inR a lo hi, s) := by
  unfold fX9_within inR
  by_cases h1 : a < lo
  · simp [h1]
  · by_cases h2 : hi < a
    · simp [h1, h2]
    · simp [h1, h2]
theorem isIn_eq (a lo hi : Int32) (s : Sg) : fX10_isIn a lo hi s = some (inR a lo hi, s) := by
  unfold fX10_isIn inR
  by_cases h1 : a < lo
  · simp [h1]
  · by_cases h2 : hi < a
    · simp [h1, h2]
    · simp [h1, h2]
theorem inR_iff {a lo hi : Int32} : inR a lo hi = true ↔ lo.toInt ≤ a.toInt ∧ a.toInt ≤ hi.toInt := by
  unfold inR
  by_cases h1 : a < lo
  · simp [h1]; rw [Int32.lt_iff_toInt_lt] at h1; omega
  · by_cases h2 : hi < a
    · simp [h1, h2]; rw [Int32.lt_iff_toInt_lt] at h1 h2; omega
    · simp [h1, h2]; rw [Int32.lt_iff_toInt_lt] at h1 h2; omega
theorem in_nI {a : Int32} {N : Nat} (hN : N < 2 ^ 31) (h : inR a 0 (nI N) = true) : ∃ n, n < N + 1 ∧ a = nI n := by
  obtain ⟨h1, h2⟩ := inR_iff.mp h
  rw [nI_toInt hN] at h2
  have h0 : (0 : Int32).toInt = 0 := rfl
  rw [h0] at h1
  refine ⟨a.toInt.toNat, by omega, Int32.toInt_inj.mp ?_⟩
  rw [nI_toInt (by omega)]
  omega
theorem inR_none (a : Int32) : inR a 0 (0 - 1) = false := by
  cases h : inR a 0 (0 - 1) with
  | false => rfl
  | true =>
    obtain ⟨h1, h2⟩ := inR_iff.mp h
    have e1 : (0 : Int32).toInt = 0 := rfl
    have e2 : (0 - 1 : Int32).toInt = -1 := rfl
    omega
theorem some_of {α : Type} {f : Option α} (h : f.isSome = true) : ∃ x, f = some x := Option.isSome_iff_exists.mp h
theorem one_0 (a1 a2 a3 a4 a5 : Int32) : ∃ t, sp_0 a1 a2 a3 a4 a5 s0_ = some t := by
  unfold sp_0 fX9_beam fX10_beam
  simp only [within_eq, isIn_eq, bnd]
  cases inR a1 1 99 <;> cases inR a2 1 99 <;> cases inR a3 0 9999 <;> exact ⟨_, rfl⟩
theorem gsi_ne {σ : Sg} {k i j : Nat} {v : Int32} (h : j ≠ i) : gi (si σ k i v) k j = gi σ k j := by
  rw [gi_si, if_pos rfl]
  exact upd_ne h
theorem gsi_k {σ : Sg} {k k2 i j : Nat} {v : Int32} (h : k2 ≠ k) : gi (si σ k i v) k2 j = gi σ k2 j := by
  rw [gi_si, if_neg h]
theorem gsi_eq {σ : Sg} {k i : Nat} {v : Int32} : gi (si σ k i v) k i = v := by
  rw [gi_si, if_pos rfl]
  exact upd_self
theorem thing0 (a1 a2 : Int32) (σ : Sg) (h : gi σ 28 0 = 0) (h1 : inR a1 1 999 = true) (h2 : inR a2 0 9 = true) : ∃ t, fX10_thing a1 a2 σ = some (0, t) := by
  have e0 : ix 0 = 0 := rfl
  have e15 : ix (15 + 3 * 0) = 15 := by decide +kernel
  have e16 : ix (15 + 3 * 0 + 1) = 16 := by decide +kernel
  have e17 : ix (15 + 3 * 0 + 2) = 17 := by decide +kernel
  have b15 : inb 720 (15 + 3 * 0) = true := by decide +kernel
  have b16 : inb 720 (15 + 3 * 0 + 1) = true := by decide +kernel
  have b17 : inb 720 (15 + 3 * 0 + 2) = true := by decide +kernel
  have n12 : ¬ ((0 : Int32) = 12) := by decide +kernel
  have g1 : gi (si σ 28 15 a1) 28 0 = 0 := by rw [gsi_ne (by decide)]; exact h
  have g2 : gi (si (si σ 28 15 a1) 28 16 a2) 28 0 = 0 := by rw [gsi_ne (by decide)]; exact g1
  have g3 : gi (si (si (si σ 28 15 a1) 28 16 a2) 28 17 (-1)) 28 0 = 0 := by rw [gsi_ne (by decide)]; exact g2
  unfold fX10_thing
  simp only [isIn_eq, bnd, h1, h2, b2i, fX10_thingAt, e0, h, n12, if_false, bv, e15, b15, chk, g1, e16, b16, g2, e17, b17, g3, gsi_eq]
  exact ⟨_, rfl⟩
theorem one_1 (a1 a2 a3 a4 a5 : Int32) : ∃ t, sp_1 a1 a2 a3 a4 a5 s0_ = some t := by
  unfold sp_1 fX9_thing
  simp only [within_eq, bnd]
  cases h1 : inR a1 1 999 with
  | false =>
    simp only [b2i, if_true, fX10_thing, isIn_eq, bnd, h1]
    simp [chk]
  | true =>
    cases h2 : inR a2 0 9 with
    | false =>
      have n1 : ¬ ((1 : Int32) = 0) := by decide +kernel
      simp only [b2i, n1, if_false, if_true, fX10_thing, isIn_eq, bnd, h1, h2]
      simp [chk]
    | true =>
      have n1 : ¬ ((1 : Int32) = 0) := by decide +kernel
      have e1 : gi s0_ 1 6 = 0 := rfl
      have l12 : (0 : Int32) < 12 := by decide +kernel
      have b12 : inb 12 0 = true := by decide +kernel
      simp only [b2i, n1, if_false, e1, l12, if_true, bv, b12, chk]
      obtain ⟨t, ht⟩ := thing0 a1 a2 (si (si (si s0_ 9 (ix 0) a1) 10 (ix 0) a2) 1 6 (0 + 1)) rfl h1 h2
      rw [ht]
      simp [chk]
theorem one_2 (a1 a2 a3 a4 a5 : Int32) : ∃ t, sp_2 a1 a2 a3 a4 a5 s0_ = some t := by
  unfold sp_2 fX9_weather fX10_weather
  simp only [within_eq, isIn_eq, bnd]
  cases inR a1 0 23 <;> cases inR a2 0 9 <;> cases inR a3 (-9) 9 <;> exact ⟨_, rfl⟩
theorem one_4 (a1 a2 a3 a4 a5 : Int32) : ∃ t, sp_4 a1 a2 a3 a4 a5 s0_ = some t := by
  unfold sp_4 fX9_end fX10_end
  simp only [within_eq, isIn_eq, bnd]
  have e : gi s0_ 3 1 = 0 := rfl
  rw [e]
  cases h : inR a1 0 0 with
  | false =>
    have e2 : gi s0_ 27 4 = 0 := rfl
    simp only [b2i, if_true]
    rw [e2, h]
    simp [chk]
  | true =>
    have e2 : gi (si s0_ 3 1 a1) 27 4 = 0 := rfl
    simp only [b2i]
    simp only [bv]
    simp (decide := true) only [if_false]
    rw [e2, h]
    simp [chk]
theorem one_5 (a1 a2 a3 a4 a5 : Int32) : ∃ t, sp_5 a1 a2 a3 a4 a5 s0_ = some t := by
  unfold sp_5
  exact some_of (by decide +kernel)
theorem one_12 (a1 a2 a3 a4 a5 : Int32) : ∃ t, sp_12 a1 a2 a3 a4 a5 s0_ = some t := by
  unfold sp_12
  exact some_of (by decide +kernel)
theorem one_18 (a1 a2 a3 a4 a5 : Int32) : ∃ t, sp_18 a1 a2 a3 a4 a5 s0_ = some t := by
  unfold sp_18
  exact some_of (by decide +kernel)
theorem one_6 (a1 a2 a3 a4 a5 : Int32) : ∃ t, sp_6 a1 a2 a3 a4 a5 s0_ = some t := by
  unfold sp_6 fX9_fault fX10_fault
  by_cases h0 : a1 = 0
  · subst h0; exact ⟨_, rfl⟩
  · by_cases h1 : a1 = 1
    · subst h1; exact ⟨_, rfl⟩
    · simp only [h0, h1, if_false, bnd]; simp [chk]
theorem one_11 (a1 a2 a3 a4 a5 : Int32) : ∃ t, sp_11 a1 a2 a3 a4 a5 s0_ = some t := by
  unfold sp_11 fX9_played fX10_played fX9_isText
  have e1 : gi s0_ 1 11 = 0 := rfl
  have e2 : gi s0_ 28 (ix 7) = 0 := rfl
  simp only [within_eq, isIn_eq, bnd, e1, e2, inR_none, b2i, if_true]
  simp [chk]
theorem one_13 (a1 a2 a3 a4 a5 : Int32) : ∃ t, sp_13 a1 a2 a3 a4 a5 s0_ = some t := by
  unfold sp_13 fX9_of fX10_of fX10_isThing
  have e1 : gi s0_ 1 6 = 0 := rfl
  have e2 : gi s0_ 28 (ix 0) = 0 := rfl
  simp only [within_eq, isIn_eq, bnd, e1, e2, inR_none, b2i, if_true]
  simp [chk]
theorem one_8 (a1 a2 a3 a4 a5 : Int32) : ∃ t, sp_8 a1 a2 a3 a4 a5 s0_ = some t := by
  unfold sp_8 fX9_put fX10_put fX10_isThing fX9_lay
  have e1 : gi s0_ 1 6 = 0 := rfl
  have e2 : gi s0_ 28 (ix 0) = 0 := rfl
  simp only [within_eq, isIn_eq, bnd, e1, e2, inR_none, b2i, if_true]
  simp [chk]
theorem one_9 (a1 a2 a3 a4 a5 : Int32) : ∃ t, sp_9 a1 a2 a3 a4 a5 s0_ = some t := by
  unfold sp_9 fX9_take fX10_take fX10_isThing fX9_lift fX6_panOf
  have e1 : gi s0_ 1 6 = 0 := rfl
  have e2 : gi s0_ 28 (ix 0) = 0 := rfl
  simp only [within_eq, isIn_eq, bnd, e1, e2, inR_none, b2i, if_true]
  exact ⟨_, rfl⟩
