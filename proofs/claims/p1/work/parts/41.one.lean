theorem one_7 (a1 a2 a3 a4 a5 : Int32) : ∃ t, sp_7 a1 a2 a3 a4 a5 s0_ = some t := by
  by_cases h : a1 = -1
  · subst h
    exact some_of (by unfold sp_7; decide +kernel)
  · unfold sp_7 fX9_by fX10_by fX9_isText
    have e1 : gi s0_ 1 11 = 0 := rfl
    have e2 : gi s0_ 28 (ix 7) = 0 := rfl
    have e3 : inR a1 (-1) (0 - 1) = false := by
      cases h3 : inR a1 (-1) (0 - 1) with
      | false => rfl
      | true =>
        obtain ⟨g1, g2⟩ := inR_iff.mp h3
        have q1 : (-1 : Int32).toInt = -1 := rfl
        have q2 : (0 - 1 : Int32).toInt = -1 := rfl
        exact absurd (Int32.toInt_inj.mp (by omega)) h
    simp only [bv, h, if_false, within_eq, isIn_eq, bnd, e1, e2, e3, inR_none, b2i, if_true]
    simp [chk]
theorem one_10 (a1 a2 a3 a4 a5 : Int32) : ∃ t, sp_10 a1 a2 a3 a4 a5 s0_ = some t := by
  cases h : inR a1 0 99 with
  | false =>
    unfold sp_10 fX9_pass fX9_passHours fX10_pass
    simp only [within_eq, isIn_eq, bnd, h, b2i, if_true]
    simp [chk]
  | true =>
    obtain ⟨n, hn, rfl⟩ := in_nI (N := 99) (by decide) h
    have key : ∀ n, n < 100 → (sp_10 (nI n) 0 0 0 0 s0_).isSome = true := by decide +kernel
    have := key n hn
    unfold sp_10 at this ⊢
    exact some_of this
theorem one_14 (a1 a2 a3 a4 a5 : Int32) : ∃ t, sp_14 a1 a2 a3 a4 a5 s0_ = some t := by
  by_cases h0 : a1 = 0
  · subst h0; exact some_of (by unfold sp_14; decide +kernel)
  by_cases h1 : a1 = 1
  · subst h1; exact some_of (by unfold sp_14; decide +kernel)
  by_cases h2 : a1 = 2
  · subst h2; exact some_of (by unfold sp_14; decide +kernel)
  by_cases h3 : a1 = 3
  · subst h3; exact some_of (by unfold sp_14; decide +kernel)
  by_cases h4 : a1 = 4
  · subst h4; exact some_of (by unfold sp_14; decide +kernel)
  unfold sp_14 fX9_now fX10_now
  have k1 : (match fX9_weighWhatLies s0_ with
    | some q => bnv (fX10_nameNow q) fun s_1 => bnd (fX10_load 0 s_1) fun _ s_3 => bnd (fX10_load 1 s_3) fun _ s_5 => some s_5
    | none => none).isSome = true := by decide +kernel
  cases e1 : fX9_weighWhatLies s0_ with
  | none => rw [e1] at k1; cases k1
  | some q =>
    rw [e1] at k1
    dsimp only at k1
    simp only [bnv, h0, h1, h2, h3, h4, if_false, bnd]
    cases e2 : fX10_nameNow q with
    | none => rw [e2] at k1; cases k1
    | some q2 =>
      rw [e2] at k1
      simp only [bnv] at k1
      cases e3 : fX10_load 0 q2 with
      | none => rw [e3] at k1; cases k1
      | some q3 =>
        rw [e3] at k1
        simp only [bnd] at k1
        cases e4 : fX10_load 1 q3.2 with
        | none => rw [e4] at k1; cases k1
        | some q4 => simp [chk, e3, e4]
theorem xor_and (a : Int32) : a &&& (0 ^^^ (-1)) = a := by
  have : (0 ^^^ (-1) : Int32) = -1 := by decide +kernel
  rw [this]
  exact Int32.and_neg_one
theorem inR_00 {a : Int32} (h : ¬ a = 0) : inR a 0 0 = false := by
  cases h3 : inR a 0 0 with
  | false => rfl
  | true =>
    obtain ⟨g1, g2⟩ := inR_iff.mp h3
    have q1 : (0 : Int32).toInt = 0 := rfl
    exact absurd (Int32.toInt_inj.mp (by omega)) h
theorem loadable0 (a1 a2 : Int32) : fX9_isLoadable a1 a2 s0_ = some (decide (a1 = 0) && decide (a2 = 0), s0_) := by
  by_cases h1 : a1 = 0
  · subst h1
    by_cases h2 : a2 = 0
    · subst h2; rfl
    · unfold fX9_isLoadable
      have e1 : (0 : Int32) &&& (((1 <<< ((gi s0_ 1 6) &&& 31)) - 1) &&& (((gi s0_ 1 9) ||| (gi s0_ 1 10)) ^^^ (-1)) ^^^ (-1)) = 0 := by decide +kernel
      simp only [bv, e1, if_true, xor_and, h2, if_false]
      simp
  · unfold fX9_isLoadable
    have e1 : (((1 <<< ((gi s0_ 1 6) &&& 31)) - 1) &&& (((gi s0_ 1 9) ||| (gi s0_ 1 10)) ^^^ (-1)) : Int32) = 0 := by decide +kernel
    simp only [bv, e1, xor_and, h1, if_false]
    simp
theorem asked0 (a1 a2 : Int32) (h : ¬ (a1 = 0 ∧ a2 = 0)) : fX10_areAsked a1 a2 s0_ = some (false, s0_) := by
  have e0 : ((1 <<< ((gi s0_ 28 (ix 0)) &&& 31)) - 1 : Int32) = 0 := by decide +kernel
  by_cases h1 : a1 = 0
  · subst h1
    have h2 : ¬ a2 = 0 := fun e => h ⟨rfl, e⟩
    unfold fX10_areAsked
    have e3 : inR 0 0 0 = true := by decide +kernel
    cases e4 : inR a2 0 4095 with
    | false => simp only [isIn_eq, bnd, e0, e3, e4, b2i]; rfl
    | true =>
      have n1 : ¬ ((1 : Int32) = 0) := by decide +kernel
      simp only [isIn_eq, bnd, e0, e3, e4, b2i, n1, if_false, xor_and, h2]
  · unfold fX10_areAsked
    simp only [isIn_eq, bnd, e0, inR_00 h1, b2i, if_true]
theorem one_15 (a1 a2 a3 a4 a5 : Int32) : ∃ t, sp_15 a1 a2 a3 a4 a5 s0_ = some t := by
  by_cases h : a1 = 0 ∧ a2 = 0
  · obtain ⟨rfl, rfl⟩ := h
    exact some_of (by unfold sp_15; decide +kernel)
  · unfold sp_15 fX9_loadings fX10_loadings
    have e : (decide (a1 = 0) && decide (a2 = 0)) = false := by
      cases q : (decide (a1 = 0) && decide (a2 = 0)) with
      | false => rfl
      | true => simp at q; exact absurd q h
    simp only [loadable0, e, bnd, asked0 a1 a2 h, b2i, if_true]
    simp [chk]
