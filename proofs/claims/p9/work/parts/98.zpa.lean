/-- texts, tape and fault, of class and model -/
def pt_ (k j : Nat) : Bool := match k with
  | 1 => match j with
    | 11 => true
    | _ => false
  | 2 => match j with
    | 11 => true
    | _ => false
  | 3 => match j with
    | 1 => true
    | _ => false
  | 4 => match j with
    | 4 => true
    | 5 => true
    | _ => false
  | 17 => true
  | 27 => match j with
    | 4 => true
    | 5 => true
    | 6 => true
    | _ => false
  | 31 => true
  | _ => false
theorem pt_big {k j : Nat} (h : 48 ≤ k) : pt_ k j = false := by
  unfold pt_
  split <;> first | omega | rfl
def FT_ (s t : Sg) : Prop := ∀ k j, pt_ k j = true → gi t k j = gi s k j
theorem FT_.rf {s : Sg} : FT_ s s := fun _ _ _ => rfl
theorem FT_.tr {s t u : Sg} (h1 : FT_ s t) (h2 : FT_ t u) : FT_ s u := fun k j h => by rw [h2 k j h, h1 k j h]
theorem FT_.si {s t : Sg} {k j : Nat} {v : Int32} (h : FT_ s t) (hp : pt_ k j = false) : FT_ s (si t k j v) := fun k' j' h' => by
  by_cases hk : k' = k
  · subst hk
    by_cases hj : j' = j
    · subst hj; rw [hp] at h'; exact nomatch h'
    · rw [gsi_ne hj]; exact h k' j' h'
  · rw [gsi_k hk]; exact h k' j' h'
theorem FT_.sa {s t : Sg} {k : Nat} {f : Nat → Int32} (h : FT_ s t) (hp : ∀ j, pt_ k j = false) : FT_ s (sa t k f) := fun k' j' h' => by
  rw [gi_sa]
  by_cases hk : k' = k
  · subst hk; rw [hp j'] at h'; exact nomatch h'
  · rw [if_neg hk]; exact h k' j' h'
theorem FT_.sr {s t : Sg} {k j v : Nat} (h : FT_ s t) : FT_ s (sr t k j v) := fun k' j' h' => h k' j' h'
theorem FT_.sl {s t : Sg} {k j : Nat} {v : Int64} (h : FT_ s t) : FT_ s (sl t k j v) := fun k' j' h' => h k' j' h'
/-- tape and fault of the class -/
def pw_ (k j : Nat) : Bool := match k with
  | 3 => match j with
    | 1 => true
    | _ => false
  | 4 => match j with
    | 4 => true
    | 5 => true
    | _ => false
  | 17 => true
  | _ => false
theorem pw_big {k j : Nat} (h : 48 ≤ k) : pw_ k j = false := by
  unfold pw_
  split <;> first | omega | rfl
def FW_ (s t : Sg) : Prop := ∀ k j, pw_ k j = true → gi t k j = gi s k j
theorem FW_.rf {s : Sg} : FW_ s s := fun _ _ _ => rfl
theorem FW_.tr {s t u : Sg} (h1 : FW_ s t) (h2 : FW_ t u) : FW_ s u := fun k j h => by rw [h2 k j h, h1 k j h]
theorem FW_.si {s t : Sg} {k j : Nat} {v : Int32} (h : FW_ s t) (hp : pw_ k j = false) : FW_ s (si t k j v) := fun k' j' h' => by
  by_cases hk : k' = k
  · subst hk
    by_cases hj : j' = j
    · subst hj; rw [hp] at h'; exact nomatch h'
    · rw [gsi_ne hj]; exact h k' j' h'
  · rw [gsi_k hk]; exact h k' j' h'
theorem FW_.sa {s t : Sg} {k : Nat} {f : Nat → Int32} (h : FW_ s t) (hp : ∀ j, pw_ k j = false) : FW_ s (sa t k f) := fun k' j' h' => by
  rw [gi_sa]
  by_cases hk : k' = k
  · subst hk; rw [hp j'] at h'; exact nomatch h'
  · rw [if_neg hk]; exact h k' j' h'
theorem FW_.sr {s t : Sg} {k j v : Nat} (h : FW_ s t) : FW_ s (sr t k j v) := fun k' j' h' => h k' j' h'
theorem FW_.sl {s t : Sg} {k j : Nat} {v : Int64} (h : FW_ s t) : FW_ s (sl t k j v) := fun k' j' h' => h k' j' h'
