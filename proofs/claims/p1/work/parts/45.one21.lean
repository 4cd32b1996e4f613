theorem bal9 (a k : Int32) (h1 : inR a 1 999 = true) : fX9_balanced a k s0_ = some (-1, s0_) := by
  have n1 : ¬ ((1 : Int32) = 0) := by decide +kernel
  have e0 : fX0_addSums s0_ = some s0_ := rfl
  have e9 : fX0_find a s0_ = some (false, s0_) := by
    unfold fX0_find
    simp only [e0, bnv, bv]
    show fX0_find_11_b a _ (lo3 _ 999999999) 13 1 s0_ = _
    unfold fX0_find_11_b
    rw [if_pos (by decide +kernel)]
    exact if_pos (by decide +kernel)
  unfold fX9_balanced
  cases h3 : inR k 0 2 with
  | false => simp only [within_eq, bnd, h1, h3, b2i, n1, if_false, if_true]
  | true => simp only [within_eq, bnd, h1, h3, b2i, n1, if_false, e9, if_true]
theorem bal10 (a k : Int32) (h1 : inR a 1 999 = true) : fX10_balanced a k s0_ = fX10_balanced 1 k s0_ := by
  have h2 : inR 1 1 999 = true := by decide +kernel
  have ev : ((1 <<< ((gi s0_ 28 (ix 0)) &&& 31)) - 1 : Int32) = 0 := by decide +kernel
  have e : ∀ (a : Int32) (k_6 : Sg → Option (Int32 × Sg)) (σ : Sg), lo2 (fX10_balanced_120_b a 0 k_6) FU 1 σ = k_6 σ := by
    intro a k_6 σ
    show fX10_balanced_120_b a 0 k_6 (lo2 (fX10_balanced_120_b a 0 k_6) 999999999) 1 σ = k_6 σ
    unfold fX10_balanced_120_b
    exact if_pos (by decide +kernel)
  unfold fX10_balanced
  cases h3 : inR k 0 2 with
  | false =>
    have n1 : ¬ ((1 : Int32) = 0) := by decide +kernel
    simp only [isIn_eq, bnd, h1, h2, h3, b2i, n1, if_false, if_true]
  | true => simp only [isIn_eq, bnd, h1, h2, h3, bv, ev, e]
theorem one_21 (a1 a2 a3 a4 a5 : Int32) : ∃ t, sp_21 a1 a2 a3 a4 a5 s0_ = some t := by
  cases h1 : inR a1 1 999 with
  | false =>
    unfold sp_21 fX9_balanced fX10_balanced
    simp only [within_eq, isIn_eq, bnd, h1, b2i, if_true]
    simp [chk]
  | true =>
    unfold sp_21
    rw [bal9 a1 a2 h1]
    simp only [bnd]
    rw [bal10 a1 a2 h1]
    cases h2 : inR a2 0 2 with
    | false =>
      have n1 : ¬ ((1 : Int32) = 0) := by decide +kernel
      have h3 : inR 1 1 999 = true := by decide +kernel
      unfold fX10_balanced
      simp only [isIn_eq, bnd, h2, h3, b2i, n1, if_false, if_true]
      simp [chk]
    | true =>
      obtain ⟨k, hk, rfl⟩ := in_nI (N := 2) (by decide) h2
      have key : ∀ k, k < 3 → ((fX10_balanced 1 (nI k) s0_).map (fun q => q.1)) = some (-1) := by decide +kernel
      have k1 := key k hk
      cases e : fX10_balanced 1 (nI k) s0_ with
      | none => rw [e] at k1; cases k1
      | some q =>
        rw [e] at k1
        simp only [Option.map_some, Option.some.injEq] at k1
        simp only [k1]
        simp [chk]
