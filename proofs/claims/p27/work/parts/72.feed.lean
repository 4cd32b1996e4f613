theorem tX10_feed (a1 a2 a3 a4 a5 : Int32) (s0 : Sg) (h0 : I10_ s0) : wp_ (fX10_feed a1 a2 a3 a4 a5 s0) (fun q => N10_ s0 q.2) := by
  have b : 0 ≤ (gi s0 27 4).toInt ∧ (gi s0 27 4).toInt ≤ 300 := h0 27 4
  have e20 : (20 : Int32).toInt = 20 := rfl
  have e300 : (300 : Int32).toInt = 300 := rfl
  by_cases hle : (gi s0 27 4).toInt + 20 ≤ 300
  · obtain ⟨t, e, g, w⟩ := feed10_ok a1 a2 a3 a4 a5 s0 (gi s0 27 4).toInt.toNat (nI_ot _ b.1) (by omega)
    rw [e]
    refine wp_some_i ⟨fun k j => ?_, fun k hk => funext fun j => w.1 k j (by omega) (by omega), by rw [w.2], funext fun j => w.1 30 j (by decide) (by omega)⟩
    by_cases h31 : k = 31
    · subst h31; exact trivial
    · by_cases h4 : k = 27 ∧ j = 4
      · obtain ⟨rfl, rfl⟩ := h4
        rw [g]
        show 0 ≤ (nI _).toInt ∧ (nI _).toInt ≤ 300
        rw [nI_toInt (by omega)]
        omega
      · rw [w.1 k j h31 h4]; exact h0 k j
  · unfold fX10_feed
    rw [if_neg (by rw [Int32.le_iff_toInt_le, ti_add (by omega) (by omega)]; omega)]
    exact wp_some_i (N10_.rf h0)
/-- weights, within the limits -/
theorem bd_45 (j : Nat) (v : Int) : Bd10_ 45 j v = True := rfl
theorem bd_47 (j : Nat) (v : Int) : Bd10_ 47 j v = True := rfl
