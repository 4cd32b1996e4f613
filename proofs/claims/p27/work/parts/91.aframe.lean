/-! frames: what a function leaves as it was, if it ends -/
def pf_ {β : Type} (f : Option β) (Q : β → Prop) : Prop := ∀ o, f = some o → Q o
theorem pf_some {β : Type} {o : β} {Q : β → Prop} (h : Q o) : pf_ (some o) Q := fun _ e => by injection e with e; rw [← e]; exact h
theorem pf_none {β : Type} {Q : β → Prop} : pf_ (none : Option β) Q := fun _ e => nomatch e
theorem pf_bnd {α β : Type} {f : Option (α × Sg)} {k : α → Sg → Option β} {P : α × Sg → Prop} {Q : β → Prop} (h : pf_ f P) (hk : ∀ r s, P (r, s) → pf_ (k r s) Q) : pf_ (bnd f k) Q := by
  cases f with
  | none => exact fun _ e => nomatch e
  | some q => exact hk q.1 q.2 (h q rfl)
theorem pf_bnv {β : Type} {f : Option Sg} {k : Sg → Option β} {P : Sg → Prop} {Q : β → Prop} (h : pf_ f P) (hk : ∀ s, P s → pf_ (k s) Q) : pf_ (bnv f k) Q := by
  cases f with
  | none => exact fun _ e => nomatch e
  | some q => exact hk q (h q rfl)
theorem pf_bv {α β : Type} {a : α} {k : α → Option β} {Q : β → Prop} (hk : ∀ x, x = a → pf_ (k x) Q) : pf_ (bv a k) Q := hk a rfl
theorem pf_jn {α β : Type} {a : α} {k : α → Option β} {Q : β → Prop} (K : α → Prop) (h1 : K a) (h2 : ∀ x, K x → pf_ (k x) Q) : pf_ (bv a k) Q := h2 a h1
theorem pf_chk {β : Type} {b : Bool} {f : Option β} {Q : β → Prop} (h : b = true → pf_ f Q) : pf_ (chk b f) Q := by
  cases b with
  | false => exact fun _ e => nomatch e
  | true => exact h rfl
theorem pf_if {β : Type} {c : Prop} [Decidable c] {f g : Option β} {Q : β → Prop} (h1 : pf_ f Q) (h2 : pf_ g Q) : pf_ (if c then f else g) Q := by
  by_cases h : c
  · rw [if_pos h]; exact h1
  · rw [if_neg h]; exact h2
theorem pf_wp {β : Type} {f : Option β} {P Q : β → Prop} (h1 : wp_ f P) (h2 : pf_ f Q) : wp_ f (fun o => P o ∧ Q o) := by
  cases f with
  | none => exact h1
  | some o => exact ⟨h1, h2 o rfl⟩
theorem pf_lo1 {α1 β : Type} {b : (α1 → Option β) → α1 → Option β} {Q : β → Prop} (I : α1 → Prop) (h : ∀ rec x1, I x1 → (∀ y1, I y1 → pf_ (rec y1) Q) → pf_ (b rec x1) Q) : ∀ n x1, I x1 → pf_ (lo1 b n x1) Q := by
  intro n
  induction n with
  | zero => intro x1 _ o e; exact nomatch e
  | succ n ih => intro x1 hx; exact h (lo1 b n) x1 hx ih
theorem pf_lo2 {α1 α2 β : Type} {b : (α1 → α2 → Option β) → α1 → α2 → Option β} {Q : β → Prop} (I : α1 → α2 → Prop) (h : ∀ rec x1 x2, I x1 x2 → (∀ y1 y2, I y1 y2 → pf_ (rec y1 y2) Q) → pf_ (b rec x1 x2) Q) : ∀ n x1 x2, I x1 x2 → pf_ (lo2 b n x1 x2) Q := by
  intro n
  induction n with
  | zero => intro x1 x2 _ o e; exact nomatch e
  | succ n ih => intro x1 x2 hx; exact h (lo2 b n) x1 x2 hx ih
theorem pf_lo3 {α1 α2 α3 β : Type} {b : (α1 → α2 → α3 → Option β) → α1 → α2 → α3 → Option β} {Q : β → Prop} (I : α1 → α2 → α3 → Prop) (h : ∀ rec x1 x2 x3, I x1 x2 x3 → (∀ y1 y2 y3, I y1 y2 y3 → pf_ (rec y1 y2 y3) Q) → pf_ (b rec x1 x2 x3) Q) : ∀ n x1 x2 x3, I x1 x2 x3 → pf_ (lo3 b n x1 x2 x3) Q := by
  intro n
  induction n with
  | zero => intro x1 x2 x3 _ o e; exact nomatch e
  | succ n ih => intro x1 x2 x3 hx; exact h (lo3 b n) x1 x2 x3 hx ih
theorem pf_lo4 {α1 α2 α3 α4 β : Type} {b : (α1 → α2 → α3 → α4 → Option β) → α1 → α2 → α3 → α4 → Option β} {Q : β → Prop} (I : α1 → α2 → α3 → α4 → Prop) (h : ∀ rec x1 x2 x3 x4, I x1 x2 x3 x4 → (∀ y1 y2 y3 y4, I y1 y2 y3 y4 → pf_ (rec y1 y2 y3 y4) Q) → pf_ (b rec x1 x2 x3 x4) Q) : ∀ n x1 x2 x3 x4, I x1 x2 x3 x4 → pf_ (lo4 b n x1 x2 x3 x4) Q := by
  intro n
  induction n with
  | zero => intro x1 x2 x3 x4 _ o e; exact nomatch e
  | succ n ih => intro x1 x2 x3 x4 hx; exact h (lo4 b n) x1 x2 x3 x4 hx ih
theorem pf_lo5 {α1 α2 α3 α4 α5 β : Type} {b : (α1 → α2 → α3 → α4 → α5 → Option β) → α1 → α2 → α3 → α4 → α5 → Option β} {Q : β → Prop} (I : α1 → α2 → α3 → α4 → α5 → Prop) (h : ∀ rec x1 x2 x3 x4 x5, I x1 x2 x3 x4 x5 → (∀ y1 y2 y3 y4 y5, I y1 y2 y3 y4 y5 → pf_ (rec y1 y2 y3 y4 y5) Q) → pf_ (b rec x1 x2 x3 x4 x5) Q) : ∀ n x1 x2 x3 x4 x5, I x1 x2 x3 x4 x5 → pf_ (lo5 b n x1 x2 x3 x4 x5) Q := by
  intro n
  induction n with
  | zero => intro x1 x2 x3 x4 x5 _ o e; exact nomatch e
  | succ n ih => intro x1 x2 x3 x4 x5 hx; exact h (lo5 b n) x1 x2 x3 x4 x5 hx ih
theorem pf_lo6 {α1 α2 α3 α4 α5 α6 β : Type} {b : (α1 → α2 → α3 → α4 → α5 → α6 → Option β) → α1 → α2 → α3 → α4 → α5 → α6 → Option β} {Q : β → Prop} (I : α1 → α2 → α3 → α4 → α5 → α6 → Prop) (h : ∀ rec x1 x2 x3 x4 x5 x6, I x1 x2 x3 x4 x5 x6 → (∀ y1 y2 y3 y4 y5 y6, I y1 y2 y3 y4 y5 y6 → pf_ (rec y1 y2 y3 y4 y5 y6) Q) → pf_ (b rec x1 x2 x3 x4 x5 x6) Q) : ∀ n x1 x2 x3 x4 x5 x6, I x1 x2 x3 x4 x5 x6 → pf_ (lo6 b n x1 x2 x3 x4 x5 x6) Q := by
  intro n
  induction n with
  | zero => intro x1 x2 x3 x4 x5 x6 _ o e; exact nomatch e
  | succ n ih => intro x1 x2 x3 x4 x5 x6 hx; exact h (lo6 b n) x1 x2 x3 x4 x5 x6 hx ih
/-- things, weights and readings of the class, and of its image -/
def pa_ (k j : Nat) : Bool := match k with
  | 1 => match j with
    | 6 => true
    | 17 => true
    | _ => false
  | 2 => true
  | 9 => true
  | 13 => true
  | _ => false
theorem pa_big {k j : Nat} (h : 48 ≤ k) : pa_ k j = false := by
  unfold pa_
  split <;> first | omega | rfl
def FA_ (s t : Sg) : Prop := ∀ k j, pa_ k j = true → gi t k j = gi s k j
theorem FA_.rf {s : Sg} : FA_ s s := fun _ _ _ => rfl
theorem FA_.tr {s t u : Sg} (h1 : FA_ s t) (h2 : FA_ t u) : FA_ s u := fun k j h => by rw [h2 k j h, h1 k j h]
theorem FA_.si {s t : Sg} {k j : Nat} {v : Int32} (h : FA_ s t) (hp : pa_ k j = false) : FA_ s (si t k j v) := fun k' j' h' => by
  by_cases hk : k' = k
  · subst hk
    by_cases hj : j' = j
    · subst hj; rw [hp] at h'; exact nomatch h'
    · rw [gsi_ne hj]; exact h k' j' h'
  · rw [gsi_k hk]; exact h k' j' h'
theorem FA_.sa {s t : Sg} {k : Nat} {f : Nat → Int32} (h : FA_ s t) (hp : ∀ j, pa_ k j = false) : FA_ s (sa t k f) := fun k' j' h' => by
  rw [gi_sa]
  by_cases hk : k' = k
  · subst hk; rw [hp j'] at h'; exact nomatch h'
  · rw [if_neg hk]; exact h k' j' h'
theorem FA_.sr {s t : Sg} {k j v : Nat} (h : FA_ s t) : FA_ s (sr t k j v) := fun k' j' h' => h k' j' h'
theorem FA_.sl {s t : Sg} {k j : Nat} {v : Int64} (h : FA_ s t) : FA_ s (sl t k j v) := fun k' j' h' => h k' j' h'
