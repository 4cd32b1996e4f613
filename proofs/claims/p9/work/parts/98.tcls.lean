/-! the class's reader: what waits -/
def bd_ (x : Nat) : Nat := [0, 1, 2, 3, 4, 4, 4, 4, 4, 4, 5, 5, 6, 6, 7].getD x 0
theorem tB_bd : ∀ x, x < 15 → tB.getD x 0 = nI (bd_ x) := by decide +kernel
theorem bd_le : ∀ x, x < 15 → bd_ x ≤ 7 := by decide
def Wl_ (f : Nat → Int32) : List Nat → Nat → Prop
  | [], m => m = 0
  | x :: W, m => ∃ m', m = m' + 1 ∧ f m' = nI x ∧ Wl_ f W m'
theorem Wl_len {f : Nat → Int32} : ∀ {W : List Nat} {m : Nat}, Wl_ f W m → m = W.length := by
  intro W
  induction W with
  | nil => intro m h; exact h
  | cons x W ih =>
    rintro m ⟨m', rfl, _, h⟩
    rw [ih h]; rfl
theorem Wl_fr {f g : Nat → Int32} : ∀ {W : List Nat} {m : Nat}, Wl_ f W m → (∀ i, i < m → g i = f i) → Wl_ g W m := by
  intro W
  induction W with
  | nil => intro m h _; exact h
  | cons x W ih =>
    rintro m ⟨m', rfl, e, h⟩ hg
    exact ⟨m', rfl, by rw [hg m' (by omega)]; exact e, ih h (fun i hi => hg i (by omega))⟩
def dw_ (l : Nat) : List Nat → List Nat
  | [] => []
  | x :: W => if bd_ x < l then x :: W else dw_ l W
def nn_ (l : Nat) : List Nat → Nat
  | [] => 0
  | x :: W => if bd_ x < l then 0 else (if x = 14 ∨ x = 3 then 1 else 0) + nn_ l W
/-- the pile of the sum above the base: t what is on top: 0 a bracket or the base, 1 a minus, 2 + or -, 3 * or / -/
def Sh_ (base : List Nat) : List Nat → List Bool → Nat → Prop
  | [], S, t => base = [] ∧ S = [] ∧ t = 0
  | x :: W, S, t => (x = 0 ∧ t = 0 ∧ ∃ S' t', S = true :: S' ∧ Sh_ base W S' t') ∨ (x = 14 ∧ t = 1 ∧ ∃ S' t', S = false :: S' ∧ Sh_ base W S' t') ∨ ((x = 10 ∨ x = 11) ∧ t = 2 ∧ Sh_ base W S 0) ∨ ((x = 12 ∨ x = 13) ∧ t = 3 ∧ ∃ t', (t' = 0 ∨ t' = 2) ∧ Sh_ base W S t') ∨ ((1 ≤ x ∧ x ≤ 9) ∧ x :: W = base ∧ S = [] ∧ t = 0)
theorem Sh_base {base : List Nat} (h : ∀ x, x ∈ base → 1 ≤ x ∧ x ≤ 9) : Sh_ base base [] 0 := by
  cases base with
  | nil => exact ⟨rfl, rfl, rfl⟩
  | cons x W => exact Or.inr (Or.inr (Or.inr (Or.inr ⟨h x List.mem_cons_self, rfl, rfl, rfl⟩)))
theorem Sh_pop {base : List Nat} : ∀ {W : List Nat} {S : List Bool} {t : Nat}, Sh_ base W S t → t ≠ 1 → popN_ S = S := by
  intro W
  induction W with
  | nil => rintro S t ⟨_, rfl, _⟩ _; rfl
  | cons x W ih =>
    rintro S t (⟨_, _, S', t', rfl, _⟩ | ⟨_, rfl, _⟩ | ⟨_, _, h⟩ | ⟨_, _, t', ht', h⟩ | ⟨_, _, rfl, _⟩) ht
    · rfl
    · exact absurd rfl ht
    · exact ih h (by decide)
    · exact ih h (by omega)
    · rfl
/-- behind an operand: the minuses on top wait alone -/
theorem Sh_due {base : List Nat} : ∀ {W : List Nat} {S : List Bool} {t : Nat}, Sh_ base W S t → ∃ k W1 t1, W = List.replicate k 14 ++ W1 ∧ Sh_ base W1 (popN_ S) t1 ∧ t1 ≠ 1 ∧ S.length = k + (popN_ S).length ∧ S.count true = (popN_ S).count true := by
  intro W
  induction W with
  | nil =>
    intro S t h
    obtain ⟨h1, rfl, rfl⟩ := id h
    exact ⟨0, [], 0, rfl, h, by decide, rfl, rfl⟩
  | cons x W ih =>
    intro S t h
    by_cases ht : t = 1
    · rcases h with ⟨_, h0, _⟩ | ⟨rfl, _, S', t', rfl, h⟩ | ⟨_, h0, _⟩ | ⟨_, h0, _⟩ | ⟨_, _, _, h0⟩
      · omega
      · obtain ⟨k, W1, t1, e1, e2, e3, e4, e5⟩ := ih h
        refine ⟨k + 1, W1, t1, by rw [e1]; rfl, e2, e3, ?_, ?_⟩
        · show S'.length + 1 = k + 1 + (popN_ S').length
          omega
        · show (false :: S').count true = (popN_ S').count true
          rw [List.count_cons_of_ne (by decide)]; exact e5
      · omega
      · omega
      · omega
    · have e := Sh_pop h ht
      exact ⟨0, x :: W, t, rfl, by rw [e]; exact h, ht, by rw [e]; omega, by rw [e]⟩
theorem dw_rep {l k : Nat} {W : List Nat} (h : l ≤ 7) : dw_ l (List.replicate k 14 ++ W) = dw_ l W ∧ nn_ l (List.replicate k 14 ++ W) = k + nn_ l W := by
  induction k with
  | zero => exact ⟨rfl, by simp⟩
  | succ k ih =>
    have e : bd_ 14 = 7 := rfl
    refine ⟨?_, ?_⟩
    · show (if bd_ 14 < l then _ else dw_ l (List.replicate k 14 ++ W)) = _
      rw [if_neg (by omega)]; exact ih.1
    · show (if bd_ 14 < l then 0 else (if 14 = 14 ∨ 14 = 3 then 1 else 0) + nn_ l (List.replicate k 14 ++ W)) = _
      rw [if_neg (by omega), if_pos (Or.inl rfl), ih.2]; omega
/-- what a + or - leaves, and a * or / -/
theorem dw_5 {base : List Nat} : ∀ {W : List Nat} {S : List Bool} {t : Nat}, Sh_ base W S t → t ≠ 1 → Sh_ base (dw_ 5 W) S 0 ∧ nn_ 5 W = 0 := by
  intro W
  induction W with
  | nil => intro S t h _; obtain ⟨a, b, c⟩ := id h; exact ⟨⟨a, b, rfl⟩, rfl⟩
  | cons x W ih =>
    intro S t h ht
    rcases id h with ⟨rfl, rfl, _⟩ | ⟨_, rfl, _⟩ | ⟨hx, _, h'⟩ | ⟨hx, _, t', ht', h'⟩ | ⟨hx, e, e2, rfl⟩
    · show Sh_ base (if bd_ 0 < 5 then 0 :: W else _) S 0 ∧ (if bd_ 0 < 5 then 0 else _) = 0
      rw [if_pos (by decide), if_pos (by decide)]; exact ⟨h, rfl⟩
    · exact absurd rfl ht
    · obtain ⟨i1, i2⟩ := ih h' (by decide)
      have hb : ¬ bd_ x < 5 := by rcases hx with rfl | rfl <;> decide
      show Sh_ base (if bd_ x < 5 then x :: W else dw_ 5 W) S 0 ∧ (if bd_ x < 5 then 0 else (if x = 14 ∨ x = 3 then 1 else 0) + nn_ 5 W) = 0
      rw [if_neg hb, if_neg hb, if_neg (by omega)]; exact ⟨i1, by omega⟩
    · obtain ⟨i1, i2⟩ := ih h' (by omega)
      have hb : ¬ bd_ x < 5 := by rcases hx with rfl | rfl <;> decide
      show Sh_ base (if bd_ x < 5 then x :: W else dw_ 5 W) S 0 ∧ (if bd_ x < 5 then 0 else (if x = 14 ∨ x = 3 then 1 else 0) + nn_ 5 W) = 0
      rw [if_neg hb, if_neg hb, if_neg (by omega)]; exact ⟨i1, by omega⟩
    · have hb : bd_ x < 5 := by
        have : ∀ x, 1 ≤ x → x ≤ 9 → bd_ x < 5 := by
          intro x h1 h2
          have : ∀ x, x < 10 → bd_ x < 5 := by decide
          exact this x (by omega)
        exact this x hx.1 hx.2
      show Sh_ base (if bd_ x < 5 then x :: W else dw_ 5 W) S 0 ∧ (if bd_ x < 5 then 0 else _) = 0
      rw [if_pos hb, if_pos hb]; exact ⟨h, rfl⟩
theorem dw_6 {base : List Nat} : ∀ {W : List Nat} {S : List Bool} {t : Nat}, Sh_ base W S t → t ≠ 1 → (∃ t', (t' = 0 ∨ t' = 2) ∧ Sh_ base (dw_ 6 W) S t') ∧ nn_ 6 W = 0 := by
  intro W
  induction W with
  | nil => intro S t h _; obtain ⟨a, b, c⟩ := id h; exact ⟨⟨0, Or.inl rfl, a, b, rfl⟩, rfl⟩
  | cons x W ih =>
    intro S t h ht
    rcases id h with ⟨rfl, rfl, _⟩ | ⟨_, rfl, _⟩ | ⟨hx, rfl, h'⟩ | ⟨hx, _, t', ht', h'⟩ | ⟨hx, e, e2, rfl⟩
    · show (∃ t', (t' = 0 ∨ t' = 2) ∧ Sh_ base (if bd_ 0 < 6 then 0 :: W else _) S t') ∧ (if bd_ 0 < 6 then 0 else _) = 0
      rw [if_pos (by decide), if_pos (by decide)]; exact ⟨⟨0, Or.inl rfl, h⟩, rfl⟩
    · exact absurd rfl ht
    · have hb : bd_ x < 6 := by rcases hx with rfl | rfl <;> decide
      show (∃ t', (t' = 0 ∨ t' = 2) ∧ Sh_ base (if bd_ x < 6 then x :: W else _) S t') ∧ (if bd_ x < 6 then 0 else _) = 0
      rw [if_pos hb, if_pos hb]; exact ⟨⟨2, Or.inr rfl, h⟩, rfl⟩
    · obtain ⟨i1, i2⟩ := ih h' (by omega)
      have hb : ¬ bd_ x < 6 := by rcases hx with rfl | rfl <;> decide
      show (∃ t', (t' = 0 ∨ t' = 2) ∧ Sh_ base (if bd_ x < 6 then x :: W else dw_ 6 W) S t') ∧ (if bd_ x < 6 then 0 else (if x = 14 ∨ x = 3 then 1 else 0) + nn_ 6 W) = 0
      rw [if_neg hb, if_neg hb, if_neg (by omega)]; exact ⟨i1, by omega⟩
    · have hb : bd_ x < 6 := by
        have : ∀ x, x < 10 → bd_ x < 6 := by decide
        exact this x (by omega)
      show (∃ t', (t' = 0 ∨ t' = 2) ∧ Sh_ base (if bd_ x < 6 then x :: W else _) S t') ∧ (if bd_ x < 6 then 0 else _) = 0
      rw [if_pos hb, if_pos hb]; exact ⟨⟨0, Or.inl rfl, h⟩, rfl⟩
/-- what a closing bracket leaves -/
theorem dw_close {base : List Nat} {S : List Bool} : ∀ {W : List Nat} {t : Nat}, Sh_ base W (true :: S) t → t ≠ 1 → ∃ W' t', dw_ 1 W = 0 :: W' ∧ Sh_ base W' S t' ∧ nn_ 1 W = 0 := by
  intro W
  induction W with
  | nil => rintro t ⟨_, e, _⟩ _; exact nomatch e
  | cons x W ih =>
    intro t h ht
    rcases h with ⟨rfl, rfl, S', t', e, h'⟩ | ⟨_, rfl, _⟩ | ⟨hx, _, h'⟩ | ⟨hx, _, t', ht', h'⟩ | ⟨_, _, e, _⟩
    · injection e with _ e
      subst e
      refine ⟨W, t', ?_, h', ?_⟩
      · show (if bd_ 0 < 1 then 0 :: W else _) = _
        rw [if_pos (by decide)]
      · show (if bd_ 0 < 1 then 0 else _) = 0
        rw [if_pos (by decide)]
    · exact absurd rfl ht
    · obtain ⟨W', t', i1, i2, i3⟩ := ih h' (by decide)
      have hb : ¬ bd_ x < 1 := by rcases hx with rfl | rfl <;> decide
      refine ⟨W', t', ?_, i2, ?_⟩
      · show (if bd_ x < 1 then _ else dw_ 1 W) = _
        rw [if_neg hb]; exact i1
      · show (if bd_ x < 1 then 0 else (if x = 14 ∨ x = 3 then 1 else 0) + nn_ 1 W) = 0
        rw [if_neg hb, if_neg (by omega)]; omega
    · obtain ⟨W', t'', i1, i2, i3⟩ := ih h' (by omega)
      have hb : ¬ bd_ x < 1 := by rcases hx with rfl | rfl <;> decide
      refine ⟨W', t'', ?_, i2, ?_⟩
      · show (if bd_ x < 1 then _ else dw_ 1 W) = _
        rw [if_neg hb]; exact i1
      · show (if bd_ x < 1 then 0 else (if x = 14 ∨ x = 3 then 1 else 0) + nn_ 1 W) = 0
        rw [if_neg hb, if_neg (by omega)]; omega
    · exact nomatch e
/-- a sum that is whole is dropped down to its base -/
theorem dw_down {base : List Nat} {l : Nat} (hl : l ≤ 4) (hl1 : 1 ≤ l) : ∀ {W : List Nat} {t : Nat}, Sh_ base W [] t → t ≠ 1 → dw_ l W = dw_ l base ∧ nn_ l W = nn_ l base := by
  intro W
  induction W with
  | nil => rintro t ⟨rfl, _, _⟩ _; exact ⟨rfl, rfl⟩
  | cons x W ih =>
    intro t h ht
    rcases h with ⟨_, _, S', t', e, _⟩ | ⟨_, rfl, _⟩ | ⟨hx, _, h'⟩ | ⟨hx, _, t', ht', h'⟩ | ⟨_, e, _, _⟩
    · exact nomatch e
    · exact absurd rfl ht
    · obtain ⟨i1, i2⟩ := ih h' (by decide)
      have hb : ¬ bd_ x < l := by
        have : bd_ x = 5 := by rcases hx with rfl | rfl <;> rfl
        omega
      refine ⟨?_, ?_⟩
      · show (if bd_ x < l then _ else dw_ l W) = _
        rw [if_neg hb]; exact i1
      · show (if bd_ x < l then 0 else (if x = 14 ∨ x = 3 then 1 else 0) + nn_ l W) = _
        rw [if_neg hb, if_neg (by omega), i2]; omega
    · obtain ⟨i1, i2⟩ := ih h' (by omega)
      have hb : ¬ bd_ x < l := by
        have : bd_ x = 6 := by rcases hx with rfl | rfl <;> rfl
        omega
      refine ⟨?_, ?_⟩
      · show (if bd_ x < l then _ else dw_ l W) = _
        rw [if_neg hb]; exact i1
      · show (if bd_ x < l then 0 else (if x = 14 ∨ x = 3 then 1 else 0) + nn_ l W) = _
        rw [if_neg hb, if_neg (by omega), i2]; omega
    · rw [e]; exact ⟨rfl, rfl⟩
/-- the base: a relation, the nots, an and, an or -/
def Ba_ (base : List Nat) (rel : Bool) (nots : Nat) : Prop := ∃ R ao : List Nat, base = R ++ (List.replicate nots 3 ++ ao) ∧ ((rel = false ∧ R = []) ∨ (rel = true ∧ ∃ c, 4 ≤ c ∧ c ≤ 9 ∧ R = [c])) ∧ (ao = [] ∨ ao = [2] ∨ ao = [1] ∨ ao = [2, 1])
theorem Ba_mem {base : List Nat} {rel : Bool} {nots : Nat} (h : Ba_ base rel nots) : ∀ x, x ∈ base → 1 ≤ x ∧ x ≤ 9 := by
  obtain ⟨R, ao, rfl, hR, ha⟩ := h
  intro x hx
  rw [List.mem_append, List.mem_append] at hx
  rcases hx with hx | hx | hx
  · rcases hR with ⟨_, rfl⟩ | ⟨_, c, c1, c2, rfl⟩
    · exact absurd hx (by simp)
    · rw [List.mem_singleton] at hx
      omega
  · have := (List.mem_replicate.mp hx).2
    omega
  · rcases ha with rfl | rfl | rfl | rfl <;> simp at hx <;> omega
theorem Ba_len {base : List Nat} {rel : Bool} {nots : Nat} (h : Ba_ base rel nots) : base.length ≤ nots + 3 := by
  obtain ⟨R, ao, rfl, hR, ha⟩ := h
  have h1 : R.length ≤ 1 := by
    rcases hR with ⟨_, rfl⟩ | ⟨_, c, _, _, rfl⟩
    · exact Nat.zero_le _
    · exact Nat.le_refl _
  have h2 : ao.length ≤ 2 := by rcases ha with rfl | rfl | rfl | rfl <;> decide
  rw [List.length_append, List.length_append, List.length_replicate]
  omega
theorem dw_nots {l nots : Nat} {ao : List Nat} (h : l ≤ 3) : dw_ l (List.replicate nots 3 ++ ao) = dw_ l ao ∧ nn_ l (List.replicate nots 3 ++ ao) = nots + nn_ l ao := by
  induction nots with
  | zero => exact ⟨rfl, by simp⟩
  | succ k ih =>
    have e : bd_ 3 = 3 := rfl
    refine ⟨?_, ?_⟩
    · show (if bd_ 3 < l then _ else dw_ l (List.replicate k 3 ++ ao)) = _
      rw [if_neg (by omega)]; exact ih.1
    · show (if bd_ 3 < l then 0 else (if 3 = 14 ∨ 3 = 3 then 1 else 0) + nn_ l (List.replicate k 3 ++ ao)) = _
      rw [if_neg (by omega), if_pos (Or.inr rfl), ih.2]; omega
theorem dw_rel {base : List Nat} {rel : Bool} {nots l : Nat} (h : Ba_ base rel nots) (hl : l = 1 ∨ l = 2) : nn_ l base = nots ∧ (l = 1 → dw_ l base = []) ∧ (l = 2 → dw_ l base = [] ∨ dw_ l base = [1]) := by
  obtain ⟨R, ao, rfl, hR, ha⟩ := h
  have e1 : dw_ l (R ++ (List.replicate nots 3 ++ ao)) = dw_ l (List.replicate nots 3 ++ ao) ∧ nn_ l (R ++ (List.replicate nots 3 ++ ao)) = nn_ l (List.replicate nots 3 ++ ao) := by
    rcases hR with ⟨_, rfl⟩ | ⟨_, c, c1, c2, rfl⟩
    · exact ⟨rfl, rfl⟩
    · have hb : bd_ c = 4 := by
        have : ∀ c, c < 10 → 4 ≤ c → bd_ c = 4 := by decide
        exact this c (by omega) c1
      refine ⟨?_, ?_⟩
      · show (if bd_ c < l then _ else dw_ l (List.replicate nots 3 ++ ao)) = _
        rw [if_neg (by omega)]
      · show (if bd_ c < l then 0 else (if c = 14 ∨ c = 3 then 1 else 0) + nn_ l (List.replicate nots 3 ++ ao)) = _
        rw [if_neg (by omega), if_neg (by omega)]; omega
  obtain ⟨d1, d2⟩ := dw_nots (l := l) (nots := nots) (ao := ao) (by omega)
  rw [e1.1, e1.2, d1, d2]
  rcases hl with rfl | rfl <;> rcases ha with rfl | rfl | rfl | rfl <;> refine ⟨?_, ?_, ?_⟩ <;> simp [dw_, nn_, bd_]
theorem dw_4 {base : List Nat} {nots : Nat} (h : Ba_ base false nots) : dw_ 4 base = base ∧ nn_ 4 base = 0 := by
  cases base with
  | nil => exact ⟨rfl, rfl⟩
  | cons x W =>
    have hb : bd_ x < 4 := by
      obtain ⟨R, ao, e, hR, ha⟩ := h
      rcases hR with ⟨_, rfl⟩ | ⟨e', _⟩
      · have hx : x ∈ List.replicate nots 3 ++ ao := by
          have : x ∈ x :: W := List.mem_cons_self
          rw [e] at this
          exact this
        rw [List.mem_append] at hx
        rcases hx with hx | hx
        · rw [(List.mem_replicate.mp hx).2]; decide
        · rcases ha with rfl | rfl | rfl | rfl <;> simp at hx
          · subst hx; decide
          · subst hx; decide
          · rcases hx with rfl | rfl <;> decide
      · exact nomatch e'
    refine ⟨?_, ?_⟩
    · show (if bd_ x < 4 then x :: W else _) = _
      rw [if_pos hb]
    · show (if bd_ x < 4 then 0 else _) = 0
      rw [if_pos hb]
/-- there is room for all that waits -/
theorem Sh_room {base : List Nat} : ∀ {W : List Nat} {S : List Bool} {t : Nat}, Sh_ base W S t → W.length + (if t = 0 then 2 else if t = 2 then 1 else 0) ≤ base.length + S.length + 2 * (S.count true + 1) := by
  intro W
  induction W with
  | nil => rintro S t ⟨rfl, rfl, rfl⟩; simp
  | cons x W ih =>
    rintro S t (⟨_, rfl, S', t', rfl, h⟩ | ⟨_, rfl, S', t', rfl, h⟩ | ⟨_, rfl, h⟩ | ⟨_, rfl, t', ht', h⟩ | ⟨_, e, rfl, rfl⟩)
    · have := ih h
      rw [if_pos rfl, List.count_cons_self, List.length_cons, List.length_cons]
      have h0 : W.length ≤ base.length + S'.length + 2 * (S'.count true + 1) := by omega
      omega
    · have := ih h
      rw [if_neg (by decide), if_neg (by decide), List.count_cons_of_ne (by decide), List.length_cons, List.length_cons]
      have h0 : W.length ≤ base.length + S'.length + 2 * (S'.count true + 1) := by omega
      omega
    · have := ih h
      rw [if_pos rfl] at this
      rw [if_neg (by decide), if_pos rfl, List.length_cons]
      omega
    · have := ih h
      rw [if_neg (by decide), if_neg (by decide), List.length_cons]
      rcases ht' with rfl | rfl
      · rw [if_pos rfl] at this; omega
      · rw [if_neg (by decide), if_pos rfl] at this; omega
    · rw [if_pos rfl, e]
      simp
theorem cnt_le (S : List Bool) : S.count true ≤ S.length := List.count_le_length
