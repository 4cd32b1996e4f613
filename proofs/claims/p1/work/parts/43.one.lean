theorem img0 : ((fX9_image s0_).map (fun q => (q.1, gi q.2 28 0))) = some (0, 0) := by decide +kernel
theorem one_24 (a1 a2 a3 a4 a5 : Int32) : ∃ t, sp_24 a1 a2 a3 a4 a5 s0_ = some t := by
  unfold sp_24
  have h := img0
  cases e : fX9_image s0_ with
  | none => rw [e] at h; cases h
  | some q =>
    rw [e] at h
    simp only [Option.map_some, Option.some.injEq, Prod.mk.injEq] at h
    obtain ⟨t, e2, -, -, g, -⟩ := copy_i_ok 720 0 q.2 FU (by decide) (by decide)
    have e3 : fX10_image q.2 = some (gi t 28 0, t) := by
      unfold fX10_image fX10_copy_i
      rw [show (0 : Int32) = nI 0 from rfl, e2]
      rfl
    simp only [bnd, e3, h.1, g 28 (by decide), h.2]
    simp [chk]
theorem bck0 : ((fX9_back s0_).map (fun q => (q.1, gi q.2 29 0))) = some (0, 0) := by decide +kernel
theorem one_25 (a1 a2 a3 a4 a5 : Int32) : ∃ t, sp_25 a1 a2 a3 a4 a5 s0_ = some t := by
  unfold sp_25
  have h := bck0
  cases e : fX9_back s0_ with
  | none => rw [e] at h; cases h
  | some q =>
    rw [e] at h
    simp only [Option.map_some, Option.some.injEq, Prod.mk.injEq] at h
    obtain ⟨t, e2, g, -, -, -⟩ := copy_b_ok 720 0 q.2 FU (by decide) (by decide)
    have e3 : fX10_back q.2 = some (gi t 28 0, t) := by
      unfold fX10_back fX10_copy_b
      rw [show (0 : Int32) = nI 0 from rfl, e2]
      rfl
    simp only [bnd, e3, h.1, g 0 (by decide) (by decide), h.2]
    simp [chk]
theorem one_17 (a1 a2 a3 a4 a5 : Int32) : ∃ t, sp_17 a1 a2 a3 a4 a5 s0_ = some t := by
  have hp : fX9_isPan a1 s0_ = some (inR a1 0 1, s0_) := by
    unfold fX9_isPan
    by_cases h0 : a1 = 0
    · subst h0; rfl
    · by_cases h1 : a1 = 1
      · subst h1; rfl
      · rw [if_neg h0, if_neg h1]
        cases h : inR a1 0 1 with
        | false => rfl
        | true =>
          obtain ⟨n, hn, rfl⟩ := in_nI (N := 1) (by decide) h
          rcases (show n = 0 ∨ n = 1 by omega) with rfl | rfl
          · exact absurd rfl h0
          · exact absurd rfl h1
  cases h1 : inR a1 0 1 with
  | false =>
    unfold sp_17 fX9_reading fX10_reading
    simp only [hp, isIn_eq, bnd, h1, b2i, if_true]
    simp [chk]
  | true =>
    cases h2 : inR a2 0 2 with
    | false =>
      unfold sp_17 fX9_reading fX10_reading
      have n1 : ¬ ((1 : Int32) = 0) := by decide +kernel
      simp only [hp, within_eq, isIn_eq, bnd, h1, h2, b2i, n1, if_false, if_true]
      simp [chk]
    | true =>
      obtain ⟨n, hn, rfl⟩ := in_nI (N := 1) (by decide) h1
      obtain ⟨k, hk, rfl⟩ := in_nI (N := 2) (by decide) h2
      have key : ∀ n, n < 2 → ∀ k, k < 3 → (sp_17 (nI n) (nI k) 0 0 0 s0_).isSome = true := by decide +kernel
      have := key n hn k hk
      unfold sp_17 at this ⊢
      exact some_of this
theorem one_19 (a1 a2 a3 a4 a5 : Int32) : ∃ t, sp_19 a1 a2 a3 a4 a5 s0_ = some t := by
  cases h : inR a1 0 2 with
  | false =>
    unfold sp_19 fX9_span fX10_span
    simp only [within_eq, isIn_eq, bnd, h, b2i, if_true]
    simp [chk]
  | true =>
    obtain ⟨n, hn, rfl⟩ := in_nI (N := 2) (by decide) h
    have key : ∀ n, n < 3 → (sp_19 (nI n) 0 0 0 0 s0_).isSome = true := by decide +kernel
    have := key n hn
    unfold sp_19 at this ⊢
    exact some_of this
