/-! the model's limits, by cell and slot -/
def Bd10a_ (j : Nat) (v : Int) : Prop := (j = 0 → 0 ≤ v ∧ v ≤ 12) ∧ (j = 7 → 0 ≤ v ∧ v ≤ 4) ∧ (j = 8 → -1 ≤ v ∧ v ≤ 3) ∧ (j = 9 → 0 ≤ v ∧ v ≤ 40) ∧ (j = 10 → 0 ≤ v ∧ v ≤ 10) ∧ (160 ≤ j ∧ (j - 160) % 14 = 1 → 0 ≤ v ∧ v ≤ 12)
def Bd10_ (k j : Nat) (v : Int) : Prop := match k with
  | 27 => match j with
    | 4 => 0 ≤ v ∧ v ≤ 300
    | 29 => 0 ≤ v ∧ v ≤ 12
    | _ => True
  | 28 => Bd10a_ j v
  | 29 => Bd10a_ j v
  | 30 => j % 680 = 0 → 0 ≤ v ∧ v ≤ 24
  | 35 => 0 ≤ v ∧ v ≤ 1
  | 38 => 0 ≤ v ∧ v ≤ 1
  | _ => True
def I10_ (σ : Sg) : Prop := ∀ k j, Bd10_ k j (gi σ k j).toInt
/-- from s to t: the limits hold, the class's cells and all references are as they were, the texts too -/
def N10_ (s t : Sg) : Prop := I10_ t ∧ (∀ k, k < 27 ∨ 48 ≤ k → gi t k = gi s k) ∧ t.2.2 = s.2.2 ∧ gi t 30 = gi s 30
theorem N10_.rf {s : Sg} (h : I10_ s) : N10_ s s := ⟨h, fun _ _ => rfl, rfl, rfl⟩
theorem N10_.tr {s t u : Sg} (h1 : N10_ s t) (h2 : N10_ t u) : N10_ s u := ⟨h2.1, fun k a => by rw [h2.2.1 k a, h1.2.1 k a], by rw [h2.2.2.1, h1.2.2.1], by rw [h2.2.2.2, h1.2.2.2]⟩
theorem I10_.si {σ : Sg} (h : I10_ σ) {k j : Nat} {v : Int32} (hb : Bd10_ k j v.toInt) : I10_ (si σ k j v) := by
  intro k' j'
  by_cases hk : k' = k
  · subst hk
    by_cases hj : j' = j
    · subst hj; rw [gsi_eq]; exact hb
    · rw [gsi_ne hj]; exact h k' j'
  · rw [gsi_k hk]; exact h k' j'
theorem N10_.si {s σ : Sg} (h : N10_ s σ) {k j : Nat} {v : Int32} (hk : 27 ≤ k ∧ k < 48 ∧ k ≠ 30) (hb : Bd10_ k j v.toInt) : N10_ s (si σ k j v) :=
  ⟨h.1.si hb, fun k' a => by rw [gsi_f (by omega)]; exact h.2.1 k' a, h.2.2.1, by rw [gsi_f (by omega)]; exact h.2.2.2⟩
theorem N10_.sl {s σ : Sg} (h : N10_ s σ) {k j : Nat} {v : Int64} : N10_ s (sl σ k j v) :=
  ⟨fun k' j' => h.1 k' j', fun k' a => h.2.1 k' a, h.2.2.1, h.2.2.2⟩
/-- what the model does leaves the class's limits -/
theorem N10_.i9 {s t : Sg} (h : N10_ s t) (h9 : I9_ s) : I9_ t := by
  have hr : ∀ k j, gr t k j = gr s k j := fun k j => congrFun (congrFun h.2.2.1 k) j
  refine ⟨fun k j => ?_, by rw [hr]; exact h9.2.1, by rw [hr]; exact h9.2.2⟩
  by_cases hk : k < 27 ∨ 48 ≤ k
  · rw [h.2.1 k hk]; exact h9.1 k j
  · unfold Bd9_
    split <;> first | omega | exact trivial
/-- what the class does leaves the model's limits -/
theorem H9_.i10 {s t : Sg} (h : H9_ s t) (h10 : I10_ s) : I10_ t := by
  intro k j
  by_cases hk : 27 ≤ k ∧ k < 48
  · rw [h.2 k hk.1 hk.2]; exact h10 k j
  · unfold Bd10_
    split <;> first | omega | exact trivial
theorem I10_0 : I10_ s0_ := by
  intro k j
  show Bd10_ k j (z_all k j).toInt
  have z28 : ∀ j, Bd10a_ j (z_28 j).toInt := by
    intro j
    by_cases h1 : j = 1
    · subst h1; exact ⟨by omega, by omega, by omega, by omega, by omega, by omega⟩
    by_cases h2 : j = 2
    · subst h2; exact ⟨by omega, by omega, by omega, by omega, by omega, by omega⟩
    by_cases h8 : j = 8
    · subst h8; exact ⟨by omega, by omega, fun _ => by decide +kernel, by omega, by omega, by omega⟩
    have e : z_28 j = 0 := by unfold z_28; rw [upd_ne h8, upd_ne h2, upd_ne h1]
    rw [e, show (0 : Int32).toInt = 0 from rfl]
    exact ⟨fun _ => by decide, fun _ => by decide, fun _ => by decide, fun _ => by decide, fun _ => by decide, fun _ => by decide⟩
  unfold Bd10_
  split
  · split <;> first | exact trivial | decide +kernel
  · exact z28 j
  · exact z28 j
  · intro _; show 0 ≤ (0 : Int32).toInt ∧ (0 : Int32).toInt ≤ 24; decide +kernel
  · show 0 ≤ (0 : Int32).toInt ∧ (0 : Int32).toInt ≤ 1; decide +kernel
  · show 0 ≤ (0 : Int32).toInt ∧ (0 : Int32).toInt ≤ 1; decide +kernel
  · exact trivial
