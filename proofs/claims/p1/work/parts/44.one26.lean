theorem enum_R {a : Int32} {N : Nat} (hN : N < 2 ^ 31) (h : ∀ n, n < N + 1 → a ≠ nI n) : inR a 0 (nI N) = false := by
  cases q : inR a 0 (nI N) with
  | false => rfl
  | true =>
    obtain ⟨n, hn, e⟩ := in_nI hN q
    exact absurd e (h n hn)
theorem one_26 (a1 a2 a3 a4 a5 : Int32) : ∃ t, sp_26 a1 a2 a3 a4 a5 s0_ = some t := by
  by_cases h : ∃ n, n < 14 ∧ a1 = nI n
  · obtain ⟨n, hn, rfl⟩ := h
    have key : ∀ n, n < 14 → (sp_26 (nI n) 0 0 0 0 s0_).isSome = true := by decide +kernel
    have := key n hn
    unfold sp_26 at this ⊢
    exact some_of this
  · have hh : ∀ n, n < 14 → a1 ≠ nI n := fun n hn e => h ⟨n, hn, e⟩
    have q0 : ¬ a1 = 0 := hh 0 (by decide)
    have q1 : ¬ a1 = 1 := hh 1 (by decide)
    have q2 : ¬ a1 = 2 := hh 2 (by decide)
    have q3 : ¬ a1 = 3 := hh 3 (by decide)
    have q4 : ¬ a1 = 4 := hh 4 (by decide)
    have q5 : ¬ a1 = 5 := hh 5 (by decide)
    have q6 : ¬ a1 = 6 := hh 6 (by decide)
    have q7 : ¬ a1 = 7 := hh 7 (by decide)
    have q8 : ¬ a1 = 8 := hh 8 (by decide)
    have q9 : ¬ a1 = 9 := hh 9 (by decide)
    have q10 : ¬ a1 = 10 := hh 10 (by decide)
    have q11 : ¬ a1 = 11 := hh 11 (by decide)
    have q12 : ¬ a1 = 12 := hh 12 (by decide)
    have q13 : ¬ a1 = 13 := hh 13 (by decide)
    have e : inR a1 0 10 = false := enum_R (N := 10) (by decide) (fun n hn => hh n (by omega))
    unfold sp_26 fX9_about fX10_about
    simp only [q0, q1, q2, q3, q4, q5, q6, q7, q8, q9, q10, q11, q12, q13, if_false, isIn_eq, bnd, e, b2i, if_true, bv]
    simp [chk]
