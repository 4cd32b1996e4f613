/-! what a pure function does at the end, where it ends: the rules -/
def wp_ {β : Type} (f : Option β) (Q : β → Prop) : Prop := match f with
  | some o => Q o
  | none => False
theorem wp_some_i {β : Type} {o : β} {Q : β → Prop} (h : Q o) : wp_ (some o) Q := h
theorem wp_bnd_i {α β : Type} {f : Option (α × Sg)} {k : α → Sg → Option β} {P : α × Sg → Prop} {Q : β → Prop} (h : wp_ f P) (hk : ∀ r s, P (r, s) → wp_ (k r s) Q) : wp_ (bnd f k) Q := by
  cases f with
  | none => exact h
  | some q => exact hk q.1 q.2 h
theorem wp_bnv_i {β : Type} {f : Option Sg} {k : Sg → Option β} {P : Sg → Prop} {Q : β → Prop} (h : wp_ f P) (hk : ∀ s, P s → wp_ (k s) Q) : wp_ (bnv f k) Q := by
  cases f with
  | none => exact h
  | some q => exact hk q h
theorem wp_bv_i {α β : Type} {a : α} {k : α → Option β} {Q : β → Prop} (hk : ∀ x, x = a → wp_ (k x) Q) : wp_ (bv a k) Q := hk a rfl
theorem wp_jn {α β : Type} {a : α} {k : α → Option β} {Q : β → Prop} (K : α → Prop) (h1 : K a) (h2 : ∀ x, K x → wp_ (k x) Q) : wp_ (bv a k) Q := h2 a h1
theorem wp_chk_i {β : Type} {b : Bool} {f : Option β} {Q : β → Prop} (hb : b = true) (h : wp_ f Q) : wp_ (chk b f) Q := by
  subst hb
  exact h
theorem wp_if_i {β : Type} {c : Prop} [Decidable c] {f g : Option β} {Q : β → Prop} (h1 : c → wp_ f Q) (h2 : ¬ c → wp_ g Q) : wp_ (if c then f else g) Q := by
  by_cases h : c
  · rw [if_pos h]; exact h1 h
  · rw [if_neg h]; exact h2 h
theorem wp_mono {β : Type} {f : Option β} {P Q : β → Prop} (h : wp_ f P) (hq : ∀ o, P o → Q o) : wp_ f Q := by
  cases f with
  | none => exact h
  | some o => exact hq o h
theorem wp_ex {β : Type} {f : Option β} {Q : β → Prop} (h : wp_ f Q) : ∃ o, f = some o ∧ Q o := by
  cases f with
  | none => exact absurd h id
  | some o => exact ⟨o, rfl, h⟩
theorem ti_lo (x : Int32) : -2147483648 ≤ x.toInt := Int32.le_toInt x
theorem ti_hi (x : Int32) : x.toInt ≤ 2147483647 := by have := Int32.toInt_lt x; omega
theorem ti_add {x y : Int32} (h1 : -2147483648 ≤ x.toInt + y.toInt) (h2 : x.toInt + y.toInt ≤ 2147483647) : (x + y).toInt = x.toInt + y.toInt := by
  rw [Int32.toInt_add]
  exact Int.bmod_eq_of_le (by omega) (by omega)
theorem ti_sub {x y : Int32} (h1 : -2147483648 ≤ x.toInt - y.toInt) (h2 : x.toInt - y.toInt ≤ 2147483647) : (x - y).toInt = x.toInt - y.toInt := by
  rw [Int32.toInt_sub]
  exact Int.bmod_eq_of_le (by omega) (by omega)
theorem inb_ti {n : Nat} {x : Int32} (h1 : 0 ≤ x.toInt) (h2 : x.toInt < n) : inb n x = true := by
  unfold inb
  have : x.toNatClampNeg = x.toInt.toNat := rfl
  rw [Bool.and_eq_true, decide_eq_true_eq, decide_eq_true_eq, Int32.le_iff_toInt_le, this]
  have h0 : (0 : Int32).toInt = 0 := rfl
  omega
theorem le_ti {x y : Int32} (h : x ≤ y) : x.toInt ≤ y.toInt := Int32.le_iff_toInt_le.mp h
theorem nle_ti {x y : Int32} (h : ¬ x ≤ y) : y.toInt < x.toInt := by rw [Int32.le_iff_toInt_le] at h; omega
theorem lt_ti {x y : Int32} (h : x < y) : x.toInt < y.toInt := Int32.lt_iff_toInt_lt.mp h
theorem nlt_ti {x y : Int32} (h : ¬ x < y) : y.toInt ≤ x.toInt := by rw [Int32.lt_iff_toInt_lt] at h; omega
theorem eq_ti {x y : Int32} (h : x = y) : x.toInt = y.toInt := by rw [h]
theorem ne_ti {x y : Int32} (h : ¬ x = y) : ¬ x.toInt = y.toInt := fun e => h (Int32.toInt_inj.mp e)
/-- the class's own limits, by cell and slot -/
def BdS_ (j : Nat) (v : Int) : Prop := match j with
  | 6 => 0 ≤ v ∧ v ≤ 12
  | 11 => 0 ≤ v ∧ v ≤ 4
  | 15 => 0 ≤ v ∧ v ≤ 40
  | 17 => 0 ≤ v ∧ v ≤ 10
  | _ => True
def BdT_ (j : Nat) (v : Int) : Prop := match j with
  | 1 => 0 ≤ v ∧ v ≤ 300
  | 2 => 0 ≤ v ∧ v ≤ 36
  | 3 => 0 ≤ v ∧ v ≤ 301
  | 4 => 0 ≤ v ∧ v ≤ 301
  | 5 => v ≤ 10000
  | _ => True
def BdR_ (j : Nat) (v : Int) : Prop := match j with
  | 2 => 0 ≤ v ∧ v ≤ 29
  | 8 => 0 ≤ v ∧ v ≤ 1
  | _ => True
def BdC_ (j : Nat) (v : Int) : Prop := match j with
  | 1 => 0 ≤ v ∧ v ≤ 300
  | 2 => -1 ≤ v ∧ v ≤ 300
  | 3 => v ≤ 300
  | 4 => -1 ≤ v ∧ v ≤ 300
  | 5 => v ≤ 300
  | 9 => 0 ≤ v ∧ v ≤ 24
  | _ => True
def Bd9_ (k j : Nat) (v : Int) : Prop := match k with
  | 1 => BdS_ j v
  | 2 => BdS_ j v
  | 3 => BdT_ j v
  | 4 => BdR_ j v
  | 7 => match j with
    | 1 => 0 ≤ v ∧ v ≤ 10
    | _ => True
  | 18 => 0 ≤ v ∧ v ≤ 14
  | 48 => BdC_ j v
  | 53 => BdC_ j v
  | 58 => BdC_ j v
  | 63 => BdC_ j v
  | 49 => v ≤ 10010 ∨ 20000 ≤ v
  | 54 => v ≤ 10010 ∨ 20000 ≤ v
  | 59 => v ≤ 10010 ∨ 20000 ≤ v
  | 64 => v ≤ 10010 ∨ 20000 ≤ v
  | _ => True
def okr_ (r : Nat) : Prop := r = 0 ∨ isScr r = true
def I9_ (σ : Sg) : Prop := (∀ k j, Bd9_ k j (gi σ k j).toInt) ∧ okr_ (gr σ 1 13) ∧ okr_ (gr σ 2 13)
/-- from s to t: the limits hold, the model's cells are as they were, no reference and no long changed -/
def G9_ (s t : Sg) : Prop := I9_ t ∧ (∀ k, 27 ≤ k → k < 48 → gi t k = gi s k) ∧ t.2 = s.2
theorem G9_.rf {s : Sg} (h : I9_ s) : G9_ s s := ⟨h, fun _ _ _ => rfl, rfl⟩
theorem G9_.tr {s t u : Sg} (h1 : G9_ s t) (h2 : G9_ t u) : G9_ s u := ⟨h2.1, fun k a b => by rw [h2.2.1 k a b, h1.2.1 k a b], by rw [h2.2.2, h1.2.2]⟩
theorem I9_.si {σ : Sg} (h : I9_ σ) {k j : Nat} {v : Int32} (hb : Bd9_ k j v.toInt) : I9_ (si σ k j v) := by
  refine ⟨fun k' j' => ?_, h.2.1, h.2.2⟩
  by_cases hk : k' = k
  · subst hk
    by_cases hj : j' = j
    · subst hj; rw [gsi_eq]; exact hb
    · rw [gsi_ne hj]; exact h.1 k' j'
  · rw [gsi_k hk]; exact h.1 k' j'
theorem G9_.si {s σ : Sg} (h : G9_ s σ) {k j : Nat} {v : Int32} (hk : k < 27 ∨ 48 ≤ k) (hb : Bd9_ k j v.toInt) : G9_ s (si σ k j v) :=
  ⟨h.1.si hb, fun k' a b => by rw [gsi_f (by omega)]; exact h.2.1 k' a b, h.2.2⟩
theorem G9_.sa {s σ : Sg} (h : G9_ s σ) {k : Nat} {f : Nat → Int32} (hk : k < 27 ∨ 48 ≤ k) (hb : ∀ j, Bd9_ k j (f j).toInt) : G9_ s (sa σ k f) := by
  refine ⟨⟨fun k' j' => ?_, h.1.2.1, h.1.2.2⟩, fun k' a b => ?_, h.2.2⟩
  · rw [gi_sa]
    by_cases e : k' = k
    · rw [if_pos e, e]; exact hb j'
    · rw [if_neg e]; exact h.1.1 k' j'
  · rw [gi_sa, if_neg (by omega)]; exact h.2.1 k' a b
theorem scr_cases {q : Nat} (h : isScr q = true) : q = 48 ∨ q = 53 ∨ q = 58 ∨ q = 63 := by
  simp only [isScr, Bool.or_eq_true, beq_iff_eq] at h
  omega
theorem bd_scr {q : Nat} (h : isScr q = true) (j : Nat) (v : Int) : Bd9_ q j v = BdC_ j v := by
  rcases scr_cases h with rfl | rfl | rfl | rfl <;> rfl
theorem bd_code {q : Nat} (h : isScr q = true) (j : Nat) (v : Int) : Bd9_ (q + 1) j v = (v ≤ 10010 ∨ 20000 ≤ v) := by
  rcases scr_cases h with rfl | rfl | rfl | rfl <;> rfl
theorem bd_free {q : Nat} (h : isScr q = true) (d j : Nat) (hd : 2 ≤ d) (hd2 : d ≤ 4) (v : Int) : Bd9_ (q + d) j v = True := by
  rcases (show d = 2 ∨ d = 3 ∨ d = 4 by omega) with rfl | rfl | rfl <;> rcases scr_cases h with rfl | rfl | rfl | rfl <;> rfl
theorem bd_rd {q : Nat} (h : isRd q = true) (j : Nat) (v : Int) : Bd9_ q j v = True := by
  simp only [isRd, Bool.and_eq_true, decide_eq_true_eq] at h
  unfold Bd9_
  split <;> first | rfl | omega
theorem scr_of {x : Int32} (h1 : 0 ≤ x.toInt) (h2 : x.toInt < 4) : isScr (48 + 5 * ix x) = true := by
  have : ix x = x.toInt.toNat := rfl
  rw [this]
  rcases (show x.toInt = 0 ∨ x.toInt = 1 ∨ x.toInt = 2 ∨ x.toInt = 3 by omega) with e | e | e | e <;> rw [e] <;> rfl
theorem rd_of (b : Nat) (hb : b = 68 ∨ b = 78) {x : Int32} (h1 : 0 ≤ x.toInt) (h2 : x.toInt < 10) : isRd (b + 1 * ix x) = true := by
  have : ix x = x.toInt.toNat := rfl
  rw [this]
  simp only [isRd, Bool.and_eq_true, decide_eq_true_eq]
  omega
theorem lcmp_ne {a : Int64} (h : ¬ lg_cmp a 0 = 0) : (!(a == 0)) = true := by
  have : a ≠ 0 := fun e => h (by rw [e]; exact lcmp_rf 0)
  simp [this]
theorem b2t_ : (b2i true).toInt = 1 := rfl
theorem b2f_ : (b2i false).toInt = 0 := rfl
theorem b2i_bd (b : Bool) : 0 ≤ (b2i b).toInt ∧ (b2i b).toInt ≤ 1 := by cases b <;> decide +kernel
theorem bool_ti {x : Int32} (h : 0 ≤ x.toInt ∧ x.toInt ≤ 1) : (x == 0 || x == 1) = true := by
  have h0 : (0 : Int32).toInt = 0 := rfl
  have h1 : (1 : Int32).toInt = 1 := rfl
  rcases (show x.toInt = 0 ∨ x.toInt = 1 by omega) with e | e
  · have : x = 0 := Int32.toInt_inj.mp (by omega)
    subst this; rfl
  · have : x = 1 := Int32.toInt_inj.mp (by omega)
    subst this; rfl
