theorem one_20 (a1 a2 a3 a4 a5 : Int32) : ∃ t, sp_20 a1 a2 a3 a4 a5 s0_ = some t := by
  cases h1 : inR a1 1 999 with
  | false =>
    unfold sp_20 fX9_bent fX10_bent
    rw [within_eq, h1, bnd_p, b2i_f, if_pos rfl, bnd_p, isIn_eq, h1, bnd_p, b2i_f, if_pos rfl, bnd_p]
    simp [chk]
  | true =>
    cases h2 : inR a2 0 1 with
    | false =>
      unfold sp_20 fX9_bent fX10_bent
      rw [within_eq, h1, bnd_p, b2i_t, if_neg one_n0, within_eq, h2, bnd_p, b2i_f, if_pos rfl, bnd_p, isIn_eq, h1, bnd_p, b2i_t, if_neg one_n0, isIn_eq, h2, bnd_p, b2i_f, if_pos rfl, bnd_p]
      simp [chk]
    | true =>
      obtain ⟨k, hk, rfl⟩ := in_nI (N := 1) (by decide) h2
      have key : ∀ k, k < 2 → ((fX9_bent 1 (nI k) s0_).map (fun q => gi q.2 28 10)) = some 0 := by decide +kernel
      have key2 : ∀ k, k < 2 → (sp_20 1 (nI k) 0 0 0 s0_).isSome = true := by decide +kernel
      have k1 := key k hk
      have k2 := key2 k hk
      unfold sp_20 at k2 ⊢
      rw [bent9 a1 _ h1]
      cases e : fX9_bent 1 (nI k) s0_ with
      | none => rw [e] at k1; cases k1
      | some q =>
        rw [e] at k1 k2
        simp only [Option.map_some, Option.some.injEq] at k1
        simp only [bnd] at k2 ⊢
        rw [bent10 a1 _ q.2 h1 k1]
        exact some_of k2
