/-! what a law's code does to the depths of values and of truths -/
def dst_ (o v : Int) (p : Nat × Nat) : Option (Nat × Nat) :=
  if o ≤ 1 then (if o = 0 ∨ (0 ≤ v ∧ v < 11) then some (p.1 + 1, p.2) else none)
  else if o = 2 then (if 1 ≤ p.1 then some p else none)
  else if o < 10 then (if 2 ≤ p.1 then some (p.1 - 1, p.2) else none)
  else if o < 20 then (if 2 ≤ p.1 then some (p.1 - 2, p.2 + 1) else none)
  else if o = 20 then (if 1 ≤ p.2 then some p else none)
  else (if 2 ≤ p.2 then some (p.1, p.2 - 1) else none)
def dp_ (f : Nat → Int32) (b i : Nat) : Nat → Option (Nat × Nat)
  | 0 => some (0, 0)
  | n + 1 => match dp_ f b i n with
    | none => none
    | some p => dst_ (f (b + 2 * (i + n))).toInt (f (b + 2 * (i + n) + 1)).toInt p
theorem dp_snoc {f : Nat → Int32} {b i n : Nat} {p : Nat × Nat} (h : dp_ f b i n = some p) : dp_ f b i (n + 1) = dst_ (f (b + 2 * (i + n))).toInt (f (b + 2 * (i + n) + 1)).toInt p := by
  show (match dp_ f b i n with
    | none => none
    | some p => dst_ (f (b + 2 * (i + n))).toInt (f (b + 2 * (i + n) + 1)).toInt p) = _
  rw [h]
theorem dp_pre1 {f : Nat → Int32} {b i n : Nat} {p : Nat × Nat} (h : dp_ f b i (n + 1) = some p) : ∃ q, dp_ f b i n = some q ∧ dst_ (f (b + 2 * (i + n))).toInt (f (b + 2 * (i + n) + 1)).toInt q = some p := by
  cases hq : dp_ f b i n with
  | none =>
    have : dp_ f b i (n + 1) = none := by
      show (match dp_ f b i n with
        | none => none
        | some p => dst_ (f (b + 2 * (i + n))).toInt (f (b + 2 * (i + n) + 1)).toInt p) = _
      rw [hq]
    rw [this] at h
    cases h
  | some q => exact ⟨q, rfl, by rw [← dp_snoc hq]; exact h⟩
theorem dp_pre {f : Nat → Int32} {b i : Nat} (m : Nat) : ∀ (n : Nat) {p : Nat × Nat}, dp_ f b i (m + n) = some p → ∃ q, dp_ f b i m = some q := by
  intro n
  induction n with
  | zero => intro p h; exact ⟨p, h⟩
  | succ n ih =>
    intro p h
    obtain ⟨q, hq, _⟩ := dp_pre1 (n := m + n) h
    exact ih hq
theorem dst_le {o v : Int} {p q : Nat × Nat} (h : dst_ o v p = some q) : q.1 + q.2 ≤ p.1 + p.2 + 1 := by
  unfold dst_ at h
  repeat' split at h
  all_goals first | (cases h; done) | (injection h with h; subst h; first | omega | (simp only; omega))
theorem dp_le {f : Nat → Int32} {b i : Nat} : ∀ (n : Nat) {p : Nat × Nat}, dp_ f b i n = some p → p.1 + p.2 ≤ n := by
  intro n
  induction n with
  | zero => intro p h; cases h; exact Nat.le_refl 0
  | succ n ih =>
    intro p h
    obtain ⟨q, hq, hd⟩ := dp_pre1 h
    have := ih hq
    have := dst_le hd
    omega
theorem dp_frame {f g : Nat → Int32} {b i : Nat} : ∀ (n : Nat), (∀ j, b + 2 * i ≤ j → j < b + 2 * (i + n) → g j = f j) → dp_ g b i n = dp_ f b i n := by
  intro n
  induction n with
  | zero => intro _; rfl
  | succ n ih =>
    intro h
    have e := ih (fun j h1 h2 => h j h1 (by omega))
    show (match dp_ g b i n with
      | none => none
      | some p => dst_ (g (b + 2 * (i + n))).toInt (g (b + 2 * (i + n) + 1)).toInt p) = (match dp_ f b i n with
      | none => none
      | some p => dst_ (f (b + 2 * (i + n))).toInt (f (b + 2 * (i + n) + 1)).toInt p)
    rw [e, h (b + 2 * (i + n)) (by omega) (by omega), h (b + 2 * (i + n) + 1) (by omega) (by omega)]
/-- the pile: n items, b binary signs and p of minus and paren -/
def Pl_ (f : Nat → Int32) : Nat → Nat → Nat → Prop
  | 0, b, p => b = 0 ∧ p = 0
  | n + 1, b, p => ((3 ≤ (f n).toInt ∧ (f n).toInt ≤ 6) ∧ ∃ b', b = b' + 1 ∧ Pl_ f n b' p) ∨ (((f n).toInt = 2 ∨ (f n).toInt = 40) ∧ ∃ p', p = p' + 1 ∧ Pl_ f n b p')
theorem Pl_.sum {f : Nat → Int32} : ∀ {n b p : Nat}, Pl_ f n b p → b + p = n := by
  intro n
  induction n with
  | zero => rintro b p ⟨rfl, rfl⟩; rfl
  | succ n ih =>
    rintro b p (⟨_, b', rfl, h⟩ | ⟨_, p', rfl, h⟩)
    · have := ih h; omega
    · have := ih h; omega
theorem Pl_.fr {f g : Nat → Int32} : ∀ {n b p : Nat}, Pl_ f n b p → (∀ k, k < n → g k = f k) → Pl_ g n b p := by
  intro n
  induction n with
  | zero => intro b p h _; exact h
  | succ n ih =>
    rintro b p (⟨h1, b', rfl, h⟩ | ⟨h1, p', rfl, h⟩) hf
    · refine Or.inl ⟨?_, b', rfl, ih h (fun k hk => hf k (by omega))⟩
      rw [hf n (by omega)]; exact h1
    · refine Or.inr ⟨?_, p', rfl, ih h (fun k hk => hf k (by omega))⟩
      rw [hf n (by omega)]; exact h1
/-- what reading a clause may change -/
def RF_ (s t : Sg) : Prop := (∀ k, k ≠ 27 → k ≠ 30 → k ≠ 32 → gi t k = gi s k) ∧ (∀ j, j < 7 ∨ j = 12 ∨ 19 < j → gi t 27 j = gi s 27 j) ∧ t.2.2 = s.2.2
theorem RF_.rf {s : Sg} : RF_ s s := ⟨fun _ _ _ _ => rfl, fun _ _ => rfl, rfl⟩
theorem RF_.tr {s t u : Sg} (h1 : RF_ s t) (h2 : RF_ t u) : RF_ s u := ⟨fun k a b c => by rw [h2.1 k a b c, h1.1 k a b c], fun j hj => by rw [h2.2.1 j hj, h1.2.1 j hj], by rw [h2.2.2, h1.2.2]⟩
theorem NT_.r {s t : Sg} (h : NT_ s t) : RF_ s t := ⟨fun k a _ _ => h.1 k a, fun j hj => h.2.1 j (by omega), h.2.2⟩
theorem RF_.si {s t : Sg} {j : Nat} {v : Int32} (h : RF_ s t) (hj : 7 ≤ j ∧ j ≤ 19 ∧ j ≠ 12) : RF_ s (si t 27 j v) := ⟨fun k a b c => by rw [gsi_f a]; exact h.1 k a b c, fun i hi => by rw [gsi_ne (by omega)]; exact h.2.1 i hi, h.2.2⟩
theorem RFs0_ {s t : Sg} {k j : Nat} {v : Int32} (h : RF_ s t) (hk : k = 30 ∨ k = 32) : RF_ s (si t k j v) := ⟨fun k' a b c => by rw [gsi_f (by omega)]; exact h.1 k' a b c, fun i hi => by rw [gsi_k (by omega)]; exact h.2.1 i hi, h.2.2⟩
/-- texts but those behind the code so far -/
def TF_ (q i : Nat) (s t : Sg) : Prop := ∀ x, x < 680 * q + 75 + 2 * i ∨ 680 * q + 680 ≤ x → gi t 30 x = gi s 30 x
theorem TF_.tr {q i : Nat} {s t u : Sg} (h1 : TF_ q i s t) (h2 : TF_ q i t u) : TF_ q i s u := fun x hx => by rw [h2 x hx, h1 x hx]
/-- while a sum is read: i the first of the clause's code, D and T the depths ahead of the sum, o what is open ahead of it, wh 1 behind a ONE, B what may be written and piled -/
def SI_ (s : Sg) (q i D T o wh : Nat) (B : Int) (t : Sg) : Prop := ∃ w pl bn pr : Nat, RF_ s t ∧ TF_ q i s t ∧ (gi t 27 12).toInt = ((680 * q : Nat) : Int) ∧ (gi t 27 14).toInt = ((i + w : Nat) : Int) ∧ (gi t 27 17).toInt = (pl : Int) ∧ Pl_ (gi t 32) pl bn pr ∧ (gi t 27 18).toInt = ((o + pr : Nat) : Int) ∧ o + pr ≤ 8 ∧ dp_ (gi t 30) (680 * q + 75) i w = some (D + bn + wh, T) ∧ ((i + w + pl : Nat) : Int) ≤ B ∧ B ≤ 301
/-- the token and its place are the same -/
def ET_ (t u : Sg) : Prop := (∀ j, 7 ≤ j → j ≤ 10 → gi u 27 j = gi t 27 j) ∧ u.2 = t.2
theorem ET_.rf {t : Sg} : ET_ t t := ⟨fun _ _ _ => rfl, rfl⟩
theorem ET_.tr {s t u : Sg} (h1 : ET_ s t) (h2 : ET_ t u) : ET_ s u := ⟨fun j a b => by rw [h2.1 j a b, h1.1 j a b], by rw [h2.2, h1.2]⟩
theorem ET_.si {s t : Sg} {k j : Nat} {v : Int32} (h : ET_ s t) (hj : k ≠ 27 ∨ 10 < j) : ET_ s (si t k j v) := ⟨fun i a b => by
  by_cases hk : k = 27
  · subst hk; rw [gsi_ne (by omega)]; exact h.1 i a b
  · rw [gsi_k (fun e => hk e.symm)]; exact h.1 i a b, h.2⟩
theorem SI_.b {s t : Sg} {q i D T o wh : Nat} {B B' : Int} (h : SI_ s q i D T o wh B t) (h1 : B ≤ B') (h2 : B' ≤ 301) : SI_ s q i D T o wh B' t := by
  obtain ⟨w, pl, bn, pr, a1, a2, a3, a4, a5, a6, a7, a8, a9, a10, a11⟩ := h
  exact ⟨w, pl, bn, pr, a1, a2, a3, a4, a5, a6, a7, a8, a9, by omega, h2⟩
theorem SI_.nt {s t u : Sg} {q i D T o wh : Nat} {B : Int} (h : SI_ s q i D T o wh B t) (n : NT_ t u) : SI_ s q i D T o wh B u := by
  obtain ⟨w, pl, bn, pr, a1, a2, a3, a4, a5, a6, a7, a8, a9, a10, a11⟩ := h
  refine ⟨w, pl, bn, pr, a1.tr n.r, fun x hx => by rw [n.1 30 (by decide)]; exact a2 x hx, ?_, ?_, ?_, ?_, ?_, a8, ?_, a10, a11⟩
  · rw [n.2.1 12 (by decide)]; exact a3
  · rw [n.2.1 14 (by decide)]; exact a4
  · rw [n.2.1 17 (by decide)]; exact a5
  · rw [n.1 32 (by decide)]; exact a6
  · rw [n.2.1 18 (by decide)]; exact a7
  · rw [n.1 30 (by decide)]; exact a9
theorem SI_.wh19 {s t : Sg} {q i D T o wh : Nat} {B : Int} {v : Int32} (h : SI_ s q i D T o wh B t) : SI_ s q i D T o wh B (si t 27 19 v) := by
  obtain ⟨w, pl, bn, pr, a1, a2, a3, a4, a5, a6, a7, a8, a9, a10, a11⟩ := h
  refine ⟨w, pl, bn, pr, a1.si (by decide), fun x hx => by rw [gsi_k (by decide)]; exact a2 x hx, ?_, ?_, ?_, ?_, ?_, a8, ?_, a10, a11⟩
  · rw [gsi_ne (by decide)]; exact a3
  · rw [gsi_ne (by decide)]; exact a4
  · rw [gsi_ne (by decide)]; exact a5
  · rw [gsi_f (by decide)]; exact a6
  · rw [gsi_ne (by decide)]; exact a7
  · rw [gsi_f (by decide)]; exact a9
/-- the state behind emit -/
def em_ (s : Sg) (x : Nat) (a v : Int32) : Sg := si (si (si s 30 x a) 30 (x + 1) v) 27 14 (gi s 27 14 + 1)
theorem tm2_ {x : Int32} (h1 : -1000000 ≤ x.toInt) (h2 : x.toInt ≤ 1000000) : ((2 : Int32) * x).toInt = 2 * x.toInt := by
  rw [Int32.toInt_mul, show (2 : Int32).toInt = 2 from rfl]
  exact Int.bmod_eq_of_le (by omega) (by omega)
theorem emit_e {s : Sg} {q w : Nat} {a v : Int32} (hq : q < 4) (hw : w < 302) (h12 : (gi s 27 12).toInt = ((680 * q : Nat) : Int)) (h14 : (gi s 27 14).toInt = (w : Int)) : fX10_emit a v s = some (em_ s (680 * q + 75 + 2 * w) a v) := by
  have L75 : (75 : Int32).toInt = 75 := rfl
  have L1 : (1 : Int32).toInt = 1 := rfl
  have m := tm2_ (x := gi s 27 14) (by omega) (by omega)
  have e1 := ti_add (x := gi s 27 12) (y := 75) (by omega) (by omega)
  have e2 := ti_add (x := gi s 27 12 + 75) (y := 2 * gi s 27 14) (by omega) (by omega)
  have e3 := ti_add (x := gi s 27 12 + 75 + 2 * gi s 27 14) (y := 1) (by omega) (by omega)
  have x1 : ix (gi s 27 12 + 75 + 2 * gi s 27 14) = 680 * q + 75 + 2 * w := by
    show (gi s 27 12 + 75 + 2 * gi s 27 14).toInt.toNat = _
    omega
  have x2 : ix (gi s 27 12 + 75 + 2 * gi s 27 14 + 1) = 680 * q + 75 + 2 * w + 1 := by
    show (gi s 27 12 + 75 + 2 * gi s 27 14 + 1).toInt.toNat = _
    omega
  unfold fX10_emit em_
  simp only [bv, gsi_k (show 27 ≠ 30 by decide)]
  rw [inb_ti (by omega) (by omega), inb_ti (by omega) (by omega), x1, x2]
  rfl
theorem em_27 {s : Sg} {x j : Nat} {a v : Int32} (h : j ≠ 14) : gi (em_ s x a v) 27 j = gi s 27 j := by
  unfold em_; rw [gsi_ne h, gsi_k (by decide), gsi_k (by decide)]
theorem em_14 {s : Sg} {x w : Nat} {a v : Int32} (h : (gi s 27 14).toInt = (w : Int)) (hw : w < 302) : (gi (em_ s x a v) 27 14).toInt = ((w + 1 : Nat) : Int) := by
  unfold em_; rw [gsi_eq, ti_add (by rw [show (1 : Int32).toInt = 1 from rfl]; omega) (by rw [show (1 : Int32).toInt = 1 from rfl]; omega), show (1 : Int32).toInt = 1 from rfl]; omega
theorem em_32 {s : Sg} {x : Nat} {a v : Int32} : gi (em_ s x a v) 32 = gi s 32 := by
  unfold em_; rw [gsi_f (by decide), gsi_f (by decide), gsi_f (by decide)]
theorem em_30 {s : Sg} {x y : Nat} {a v : Int32} (h1 : y ≠ x) (h2 : y ≠ x + 1) : gi (em_ s x a v) 30 y = gi s 30 y := by
  unfold em_; rw [gsi_k (by decide), gsi_ne h2, gsi_ne h1]
theorem em_30a {s : Sg} {x : Nat} {a v : Int32} : gi (em_ s x a v) 30 x = a := by
  unfold em_; rw [gsi_k (by decide), gsi_ne (by omega), gsi_eq]
theorem em_30b {s : Sg} {x : Nat} {a v : Int32} : gi (em_ s x a v) 30 (x + 1) = v := by
  unfold em_; rw [gsi_k (by decide), gsi_eq]
theorem RF_.em {s t : Sg} {x : Nat} {a v : Int32} (h : RF_ s t) : RF_ s (em_ t x a v) := RF_.si (j := 14) (RFs0_ (RFs0_ h (Or.inl rfl)) (Or.inl rfl)) (by decide)
theorem ET_.em {s t : Sg} {x : Nat} {a v : Int32} (h : ET_ s t) : ET_ s (em_ t x a v) := ((h.si (Or.inl (by decide))).si (Or.inl (by decide))).si (j := 14) (by decide)
theorem TF_.em {q i w : Nat} {s t : Sg} {a v : Int32} (h : TF_ q i s t) (hw : i + w < 302) : TF_ q i s (em_ t (680 * q + 75 + 2 * (i + w)) a v) := fun x hx => by
  rw [em_30 (by omega) (by omega)]; exact h x hx
theorem dp_em {q i w : Nat} {t : Sg} {a v : Int32} {p p' : Nat × Nat} (h : dp_ (gi t 30) (680 * q + 75) i w = some p) (hd : dst_ a.toInt v.toInt p = some p') : dp_ (gi (em_ t (680 * q + 75 + 2 * (i + w)) a v) 30) (680 * q + 75) i (w + 1) = some p' := by
  have e : dp_ (gi (em_ t (680 * q + 75 + 2 * (i + w)) a v) 30) (680 * q + 75) i w = some p := by
    rw [dp_frame (f := gi t 30) w (fun j h1 h2 => em_30 (by omega) (by omega))]; exact h
  rw [dp_snoc e, em_30a, em_30b]
  exact hd
