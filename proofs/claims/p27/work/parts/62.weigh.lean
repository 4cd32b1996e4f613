/-- as G9_, and only the scales' own cells are written -/
def A9_ (s t : Sg) : Prop := I9_ t ∧ (∀ k, 27 ≤ k → k < 48 → gi t k = gi s k) ∧ t.2 = s.2 ∧ ∀ k, k ≠ 6 → k ≠ 19 → k ≠ 20 → gi t k = gi s k
theorem A9_.g {s t : Sg} (h : A9_ s t) : G9_ s t := ⟨h.1, h.2.1, h.2.2.1⟩
theorem A9_.rf {s : Sg} (h : I9_ s) : A9_ s s := ⟨h, fun _ _ _ => rfl, rfl, fun _ _ _ _ => rfl⟩
theorem A9_.tr {s t u : Sg} (h1 : A9_ s t) (h2 : A9_ t u) : A9_ s u := ⟨h2.1, (h1.g.tr h2.g).2.1, (h1.g.tr h2.g).2.2, fun k a b c => by rw [h2.2.2.2 k a b c, h1.2.2.2 k a b c]⟩
theorem A9_.si {s σ : Sg} (h : A9_ s σ) {k j : Nat} {v : Int32} (hk : k = 6 ∨ k = 19 ∨ k = 20) (hb : Bd9_ k j v.toInt) : A9_ s (si σ k j v) :=
  have g := G9_.si h.g (k := k) (j := j) (v := v) (by omega) hb
  ⟨g.1, g.2.1, g.2.2, fun k' a b c => by rw [gsi_f (by omega)]; exact h.2.2.2 k' a b c⟩
/-- as G9_, and only the orders' own rows 22, 23, 24 are written -/
def O9_ (s t : Sg) : Prop := I9_ t ∧ (∀ k, 27 ≤ k → k < 48 → gi t k = gi s k) ∧ t.2 = s.2 ∧ ∀ k, k ≠ 22 → k ≠ 23 → k ≠ 24 → gi t k = gi s k
theorem O9_.g {s t : Sg} (h : O9_ s t) : G9_ s t := ⟨h.1, h.2.1, h.2.2.1⟩
theorem O9_.rf {s : Sg} (h : I9_ s) : O9_ s s := ⟨h, fun _ _ _ => rfl, rfl, fun _ _ _ _ => rfl⟩
theorem O9_.tr {s t u : Sg} (h1 : O9_ s t) (h2 : O9_ t u) : O9_ s u := ⟨h2.1, (h1.g.tr h2.g).2.1, (h1.g.tr h2.g).2.2, fun k a b c => by rw [h2.2.2.2 k a b c, h1.2.2.2 k a b c]⟩
theorem O9_.si {s σ : Sg} (h : O9_ s σ) {k j : Nat} {v : Int32} (hk : k = 22 ∨ k = 23 ∨ k = 24) (hb : Bd9_ k j v.toInt) : O9_ s (si σ k j v) :=
  have g := G9_.si h.g (k := k) (j := j) (v := v) (by omega) hb
  ⟨g.1, g.2.1, g.2.2, fun k' a b c => by rw [gsi_f (by omega)]; exact h.2.2.2 k' a b c⟩
/-- as G9_, and only tokens, reader and scripts are written -/
def R9_ (s t : Sg) : Prop := I9_ t ∧ (∀ k, 27 ≤ k → k < 48 → gi t k = gi s k) ∧ t.2 = s.2 ∧ gi t 1 = gi s 1
theorem R9_.g {s t : Sg} (h : R9_ s t) : G9_ s t := ⟨h.1, h.2.1, h.2.2.1⟩
theorem R9_.rf {s : Sg} (h : I9_ s) : R9_ s s := ⟨h, fun _ _ _ => rfl, rfl, rfl⟩
theorem R9_.tr {s t u : Sg} (h1 : R9_ s t) (h2 : R9_ t u) : R9_ s u := ⟨h2.1, (h1.g.tr h2.g).2.1, (h1.g.tr h2.g).2.2, by rw [h2.2.2.2, h1.2.2.2]⟩
theorem R9_.si {s σ : Sg} (h : R9_ s σ) {k j : Nat} {v : Int32} (hk : (2 < k ∧ k < 27) ∨ 48 ≤ k) (hb : Bd9_ k j v.toInt) : R9_ s (si σ k j v) :=
  have g := G9_.si h.g (k := k) (j := j) (v := v) (by omega) hb
  ⟨g.1, g.2.1, g.2.2, by rw [gsi_f (by omega)]; exact h.2.2.2⟩
/-- the limits, and the model's cells -/
def H9_ (s t : Sg) : Prop := I9_ t ∧ ∀ k, 27 ≤ k → k < 48 → gi t k = gi s k
theorem G9_.h {s t : Sg} (h : G9_ s t) : H9_ s t := ⟨h.1, h.2.1⟩
theorem I9_.sr {σ : Sg} (h : I9_ σ) {k j v : Nat} (hv : okr_ v ∨ (k ≠ 1 ∧ k ≠ 2)) : I9_ (sr σ k j v) := by
  refine ⟨fun k' j' => by rw [gi_sr]; exact h.1 k' j', ?_, ?_⟩
  · rw [gr_sr]
    by_cases e : 1 = k
    · rw [if_pos e]
      by_cases ej : 13 = j
      · subst ej; rw [show va_up (gr σ k) 13 v 13 = v by simp [va_up]]; rcases hv with hv | hv
        · exact hv
        · omega
      · rw [show va_up (gr σ k) j v 13 = gr σ k 13 by simp [va_up, ej], ← e]; exact h.2.1
    · rw [if_neg e]; exact h.2.1
  · rw [gr_sr]
    by_cases e : 2 = k
    · rw [if_pos e]
      by_cases ej : 13 = j
      · subst ej; rw [show va_up (gr σ k) 13 v 13 = v by simp [va_up]]; rcases hv with hv | hv
        · exact hv
        · omega
      · rw [show va_up (gr σ k) j v 13 = gr σ k 13 by simp [va_up, ej], ← e]; exact h.2.2
    · rw [if_neg e]; exact h.2.2
