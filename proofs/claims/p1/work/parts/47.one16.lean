theorem one_16 (a1 a2 a3 a4 a5 : Int32) : ∃ t, sp_16 a1 a2 a3 a4 a5 s0_ = some t := by
  by_cases h : a1 = 0 ∧ a2 = 0
  · obtain ⟨rfl, rfl⟩ := h
    by_cases h3 : a3 = -1
    · subst h3
      exact some_of (by unfold sp_16; decide +kernel)
    · have w3 : inR a3 (-1) (0 - 1) = false := by
        cases q : inR a3 (-1) (0 - 1) with
        | false => rfl
        | true =>
          obtain ⟨g1, g2⟩ := inR_iff.mp q
          have q1 : (-1 : Int32).toInt = -1 := rfl
          have q2 : (0 - 1 : Int32).toInt = -1 := rfl
          exact absurd (Int32.toInt_inj.mp (by omega)) h3
      have n1 : ¬ ((1 : Int32) = 0) := by decide +kernel
      have bc : fJ6_bitCount_0f7a4 0 s0_ = some (0, s0_) := rfl
      have e9 : fX9_gentle 0 0 a3 s0_ = some (-1, s0_) := by
        unfold fX9_gentle
        simp only [loadable0, bnd, b2i, decide_true, Bool.and_self, n1, if_false, bc, within_eq, w3, if_true]
      have ka : ((fX10_areAsked 0 0 s0_).map (fun q => q.1)) = some true := by decide +kernel
      have kb : (match fX10_areAsked 0 0 s0_ with
        | some q => (bnv (fX10_findLoads 0 0 q.2) fun s_3 => bnv (fX10_findLeft s_3) fun s_4 => some s_4).map (fun s => (gi s 27 29, decide ((100000000 : Int32) ≤ gi s 41 0)))
        | none => none) = some (0, false) := by decide +kernel
      unfold sp_16
      simp only [e9, bnd]
      unfold fX10_gentle
      cases ea : fX10_areAsked 0 0 s0_ with
      | none => rw [ea] at ka; cases ka
      | some q =>
        rw [ea] at ka kb
        simp only [Option.map_some, Option.some.injEq] at ka
        simp only [bnd, ka, b2i, n1, if_false]
        by_cases h4 : (-1) ≤ a3
        · rw [if_pos h4]
          dsimp only at kb
          cases el : fX10_findLoads 0 0 q.2 with
          | none => rw [el] at kb; cases kb
          | some q2 =>
            rw [el] at kb
            simp only [bnv] at kb ⊢
            cases em : fX10_findLeft q2 with
            | none => rw [em] at kb; cases kb
            | some q3 =>
              rw [em] at kb
              simp only [Option.map_some, Option.some.injEq, Prod.mk.injEq, decide_eq_false_iff_not] at kb
              have h5 : ¬ a3 < 0 := by
                rw [Int32.lt_iff_toInt_lt]
                rw [Int32.le_iff_toInt_le] at h4
                have q1 : (-1 : Int32).toInt = -1 := rfl
                have q2 : (0 : Int32).toInt = 0 := rfl
                have : ¬ a3.toInt = -1 := fun e => h3 (Int32.toInt_inj.mp (by omega))
                omega
              have e0 : ix 0 = 0 := rfl
              simp only [e0, kb.2, if_false, kb.1, h5]
              simp [chk]
        · rw [if_neg h4]
          simp [chk]
  · unfold sp_16 fX9_gentle fX10_gentle
    have e : (decide (a1 = 0) && decide (a2 = 0)) = false := by
      cases q : (decide (a1 = 0) && decide (a2 = 0)) with
      | false => rfl
      | true => simp at q; exact absurd q h
    simp only [loadable0, e, bnd, asked0 a1 a2 h, b2i, if_true]
    simp [chk]
