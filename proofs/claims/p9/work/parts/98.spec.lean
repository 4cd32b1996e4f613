/-! how a text is read: tokens alone -/
def opf_ (asks : Bool) (kd nm : Nat) : Nat := if kd = 17 then (if nm ≤ 9999 then 0 else 2) else if 26 ≤ kd then (if kd < 29 ∨ decide (33 ≤ kd) = asks then 0 else 5) else 1
def popN_ : List Bool → List Bool
  | [] => []
  | false :: S => popN_ S
  | true :: S => true :: S
/-- a law, as far as it is read: a relation stood, an ask begins, an operand is due, what is open (true a bracket), how many nots -/
abbrev LSt_ : Type := Bool × Bool × Bool × List Bool × Nat
def lst_ (asks : Bool) (A : LSt_) (kd st nx nm : Nat) : (Nat × Nat) ⊕ (LSt_ × Nat) := match A with
  | (rel, ab, true, S, nots) =>
    if kd = 0 ∨ kd = 11 then (if S.length + nots = 8 then .inl (3, st) else .inr ((rel, false, true, decide (kd = 0) :: S, nots), nx))
    else if kd = 3 ∧ ab = true then (if S.length + nots = 8 then .inl (3, st) else .inr ((rel, true, true, S, nots + 1), nx))
    else if opf_ asks kd nm = 0 then .inr ((rel, false, false, popN_ S, nots), nx)
    else .inl (opf_ asks kd nm, st)
  | (rel, ab, false, S, nots) =>
    if 10 ≤ kd ∧ kd ≤ 13 then .inr ((rel, ab, true, S, nots), nx)
    else if kd = 15 ∧ S ≠ [] then .inr ((rel, ab, false, popN_ S.tail, nots), nx)
    else if 4 ≤ kd ∧ kd ≤ 9 ∧ asks = true ∧ S = [] ∧ rel = false then .inr ((true, ab, true, [], nots), nx)
    else if (kd = 2 ∨ kd = 1) ∧ S = [] ∧ rel = true then .inr ((false, true, true, [], 0), nx)
    else if kd = 16 ∧ S = [] ∧ rel = asks then .inl (0, nx)
    else .inl (1, st)
def RunL_ (B : Nat → Int) (asks : Bool) : Nat → LSt_ → Nat → Nat × Nat → Prop
  | 0, _, _, _ => False
  | f + 1, A, p, r => ∃ kd st nx nm, Tk_ B p kd st nx nm ∧ (match lst_ asks A kd st nx nm with
    | .inl x => r = x
    | .inr y => RunL_ B asks f y.1 y.2 r)
theorem opf_nm {asks : Bool} {kd nm nm' : Nat} (h : kd = 17 → nm = nm') : opf_ asks kd nm = opf_ asks kd nm' := by
  unfold opf_
  by_cases e : kd = 17
  · rw [h e]
  · rw [if_neg e, if_neg e]
theorem lst_nm {asks : Bool} {A : LSt_} {kd st nx nm nm' : Nat} (h : kd = 17 → nm = nm') : lst_ asks A kd st nx nm = lst_ asks A kd st nx nm' := by
  obtain ⟨rel, ab, due, S, nots⟩ := A
  cases due with
  | true => show (if _ then _ else _) = (if _ then _ else _); rw [opf_nm h]
  | false => rfl
theorem Tk_nm {B : Nat → Int} {p kd st nx nm kd' st' nx' nm' : Nat} (h : Tk_ B p kd st nx nm) (h' : Tk_ B p kd' st' nx' nm') : kd = kd' ∧ st = st' ∧ nx = nx' ∧ (kd = 17 → nm = nm') := by
  obtain ⟨a, b, c, d⟩ := Tk_det h h'
  refine ⟨a, b, c, fun e => d e ?_⟩
  subst e
  exact (Tk_17 h).1
theorem RunL_det {B : Nat → Int} {asks : Bool} : ∀ f f' A p r r', RunL_ B asks f A p r → RunL_ B asks f' A p r' → r = r' := by
  intro f
  induction f with
  | zero => intro f' A p r r' h; exact absurd h id
  | succ f ih =>
    intro f' A p r r' h h'
    cases f' with
    | zero => exact absurd h' id
    | succ f' =>
      obtain ⟨kd, st, nx, nm, t, h⟩ := h
      obtain ⟨kd', st', nx', nm', t', h'⟩ := h'
      obtain ⟨rfl, rfl, rfl, hn⟩ := Tk_nm t t'
      rw [lst_nm hn] at h
      cases hl : lst_ asks A kd st nx nm' with
      | inl x =>
        rw [hl] at h h'
        rw [h, h']
      | inr y =>
        rw [hl] at h h'
        exact ih f' y.1 y.2 r r' h h'
/-- every answer of a run from (A', p') is one from (A, p) -/
def Le_ (B : Nat → Int) (asks : Bool) (A : LSt_) (p : Nat) (A' : LSt_) (p' : Nat) : Prop := ∀ r, (∃ f, RunL_ B asks f A' p' r) → ∃ f, RunL_ B asks f A p r
theorem Le_rf {B : Nat → Int} {asks : Bool} {A : LSt_} {p : Nat} : Le_ B asks A p A p := fun _ h => h
theorem Le_tr {B : Nat → Int} {asks : Bool} {A A' A'' : LSt_} {p p' p'' : Nat} (h : Le_ B asks A p A' p') (h' : Le_ B asks A' p' A'' p'') : Le_ B asks A p A'' p'' := fun r hr => h r (h' r hr)
theorem Le_st {B : Nat → Int} {asks : Bool} {A A' : LSt_} {p p' kd st nx nm : Nat} (t : Tk_ B p kd st nx nm) (h : lst_ asks A kd st nx nm = .inr (A', p')) : Le_ B asks A p A' p' := fun r ⟨f, hf⟩ => ⟨f + 1, kd, st, nx, nm, t, by rw [h]; exact hf⟩
theorem Run_fin {B : Nat → Int} {asks : Bool} {A : LSt_} {p kd st nx nm : Nat} {x : Nat × Nat} (t : Tk_ B p kd st nx nm) (h : lst_ asks A kd st nx nm = .inl x) : ∃ f, RunL_ B asks f A p x := ⟨1, kd, st, nx, nm, t, by rw [h]⟩
/-! clauses -/
def Num_ (B : Nat → Int) (most p : Nat) (x : Nat × Nat) : Prop := ∃ kd st nx nm, Tk_ B p kd st nx nm ∧ x = (if kd = 17 then (if nm ≤ most then (0, nx) else (2, st)) else (1, st))
def Kd_ (B : Nat → Int) (k p : Nat) (x : Nat × Nat) : Prop := ∃ kd st nx nm, Tk_ B p kd st nx nm ∧ x = (if kd = k then (0, nx) else (1, st))
def sq_ (P : Nat × Nat → Prop) (Q : Nat → Nat × Nat → Prop) (x : Nat × Nat) : Prop := ∃ y, P y ∧ ((y.1 = 0 → Q y.2 x) ∧ (y.1 ≠ 0 → x = y))
def un_ (P : Nat × Nat → Prop) : Prop := ∀ x y, P x → P y → x = y
theorem Num_un (B : Nat → Int) (most p : Nat) : un_ (Num_ B most p) := by
  rintro x y ⟨kd, st, nx, nm, t, rfl⟩ ⟨kd', st', nx', nm', t', rfl⟩
  obtain ⟨rfl, rfl, rfl, hn⟩ := Tk_nm t t'
  by_cases e : kd = 17
  · rw [hn e]
  · rw [if_neg e, if_neg e]
theorem Kd_un (B : Nat → Int) (k p : Nat) : un_ (Kd_ B k p) := by
  rintro x y ⟨kd, st, nx, nm, t, rfl⟩ ⟨kd', st', nx', nm', t', rfl⟩
  obtain ⟨rfl, rfl, rfl, hn⟩ := Tk_nm t t'
  rfl
theorem sq_un {P : Nat × Nat → Prop} {Q : Nat → Nat × Nat → Prop} (h1 : un_ P) (h2 : ∀ p, un_ (Q p)) : un_ (sq_ P Q) := by
  rintro x y ⟨a, ha, a1, a2⟩ ⟨b, hb, b1, b2⟩
  have e := h1 a b ha hb
  subst e
  by_cases h : a.1 = 0
  · exact h2 a.2 x y (a1 h) (b1 h)
  · rw [a2 h, b2 h]
/-- the body of a clause of kind kd, from p on: its fault and place, or 0 and its end -/
def Cl_ (B : Nat → Int) (kd p : Nat) (x : Nat × Nat) : Prop :=
  if kd = 19 then ∃ f, RunL_ B false f (false, false, true, [], 0) p x
  else if kd = 20 then ∃ f, RunL_ B true f (false, true, true, [], 0) p x
  else if kd = 21 then sq_ (Num_ B 11 p) (fun p1 => sq_ (Kd_ B 18 p1) (fun p2 => sq_ (Num_ B 1 p2) (fun p3 => Kd_ B 16 p3))) x
  else sq_ (Num_ B (if kd = 23 then 99 else 11) p) (fun p1 => Kd_ B 16 p1) x
theorem Cl_un (B : Nat → Int) (kd p : Nat) : un_ (Cl_ B kd p) := by
  intro x y hx hy
  unfold Cl_ at hx hy
  by_cases h19 : kd = 19
  · rw [if_pos h19] at hx hy
    obtain ⟨f, hf⟩ := hx
    obtain ⟨f', hf'⟩ := hy
    exact RunL_det f f' _ _ _ _ hf hf'
  rw [if_neg h19] at hx hy
  by_cases h20 : kd = 20
  · rw [if_pos h20] at hx hy
    obtain ⟨f, hf⟩ := hx
    obtain ⟨f', hf'⟩ := hy
    exact RunL_det f f' _ _ _ _ hf hf'
  rw [if_neg h20] at hx hy
  by_cases h21 : kd = 21
  · rw [if_pos h21] at hx hy
    exact sq_un (Num_un _ _ _) (fun p1 => sq_un (Kd_un _ _ _) (fun p2 => sq_un (Num_un _ _ _) (fun p3 => Kd_un _ _ _))) x y hx hy
  · rw [if_neg h21] at hx hy
    exact sq_un (Num_un _ _ _) (fun p1 => Kd_un _ _ _) x y hx hy
def hf_ (c : Nat) (ob os : Bool) (kd : Nat) : Nat := if kd < 19 ∨ 23 < kd then 1 else if (kd = 19 ∧ ob = true) ∨ (kd = 20 ∧ os = true) then 4 else if c = 24 then 6 else 0
def RunT_ (B : Nat → Int) : Nat → Nat × Bool × Bool → Nat → Nat × Nat → Prop
  | 0, _, _, _ => False
  | f + 1, T, p, r => ∃ kd st nx nm, Tk_ B p kd st nx nm ∧ ((kd = 24 → r = (0, 0)) ∧ (kd ≠ 24 → hf_ T.1 T.2.1 T.2.2 kd ≠ 0 → r = (hf_ T.1 T.2.1 T.2.2 kd, st)) ∧ (kd ≠ 24 → hf_ T.1 T.2.1 T.2.2 kd = 0 → ∃ x, Cl_ B kd nx x ∧ (x.1 ≠ 0 → r = x) ∧ (x.1 = 0 → RunT_ B f (T.1 + 1, T.2.1 || decide (kd = 19), T.2.2 || decide (kd = 20)) x.2 r)))
theorem RunT_det {B : Nat → Int} : ∀ f f' T p r r', RunT_ B f T p r → RunT_ B f' T p r' → r = r' := by
  intro f
  induction f with
  | zero => intro f' T p r r' h; exact absurd h id
  | succ f ih =>
    intro f' T p r r' h h'
    cases f' with
    | zero => exact absurd h' id
    | succ f' =>
      obtain ⟨kd, st, nx, nm, t, a1, a2, a3⟩ := h
      obtain ⟨kd', st', nx', nm', t', b1, b2, b3⟩ := h'
      obtain ⟨rfl, rfl, rfl, hn⟩ := Tk_nm t t'
      by_cases h24 : kd = 24
      · rw [a1 h24, b1 h24]
      · by_cases hh : hf_ T.1 T.2.1 T.2.2 kd = 0
        · obtain ⟨x, x1, x2, x3⟩ := a3 h24 hh
          obtain ⟨y, y1, y2, y3⟩ := b3 h24 hh
          have e := Cl_un B kd nx x y x1 y1
          subst e
          by_cases hx : x.1 = 0
          · exact ih f' _ _ r r' (x3 hx) (y3 hx)
          · rw [x2 hx, y2 hx]
        · rw [a2 h24 hh, b2 h24 hh]
def LeT_ (B : Nat → Int) (T : Nat × Bool × Bool) (p : Nat) (T' : Nat × Bool × Bool) (p' : Nat) : Prop := ∀ r, (∃ f, RunT_ B f T' p' r) → ∃ f, RunT_ B f T p r
