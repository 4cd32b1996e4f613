/-! the class's reader: clauses -/
theorem sgk_24 (c d : Int) : sgk_ c d ≠ 24 := by
  unfold sgk_
  repeat' split
  all_goals decide
theorem wkr_24 (f : Nat → Bool) : ∀ k, wkr_ f k ≠ 24 := by
  intro k
  induction k with
  | zero => show (25 : Nat) ≠ 24; decide
  | succ k ih =>
    show (if f (19 - k) = true then kds_.getD (19 - k) 25 else wkr_ f k) ≠ 24
    by_cases h : f (19 - k) = true
    · rw [if_pos h]
      have : ∀ j, j < 20 → kds_.getD j 25 ≠ 24 := by decide
      exact this _ (by omega)
    · rw [if_neg h]; exact ih
theorem wkr_lt (f : Nat → Bool) : ∀ k, wkr_ f k < 40 := by
  intro k
  induction k with
  | zero => show (25 : Nat) < 40; decide
  | succ k ih =>
    show (if f (19 - k) = true then kds_.getD (19 - k) 25 else wkr_ f k) < 40
    by_cases h : f (19 - k) = true
    · rw [if_pos h]
      have : ∀ j, j < 20 → kds_.getD j 25 < 40 := by decide
      exact this _ (by omega)
    · rw [if_neg h]; exact ih
theorem Tk_adv {B : Nat → Int} {p kd st nx nm : Nat} (h : Tk_ B p kd st nx nm) : p ≤ st ∧ st ≤ nx ∧ (kd ≠ 24 → st < nx) ∧ kd < 40 := by
  refine ⟨h.1, ?_⟩
  rcases h.2.2.2 with ⟨_, c2, c3⟩ | ⟨_, c2, _, _, c5⟩ | ⟨_, c2, _, _, c5, _⟩ | ⟨_, _, _, c4, c5⟩
  · exact ⟨by omega, fun e => absurd c2 e, by omega⟩
  · exact ⟨by omega, fun _ => c2, by rw [c5]; exact wkr_lt _ _⟩
  · exact ⟨by omega, fun _ => c2, by omega⟩
  · have := sgk_lt (B st) (B (st + 1))
    refine ⟨?_, fun _ => ?_, by omega⟩
    · split at c5 <;> omega
    · split at c5 <;> omega
theorem Tk_nml {B : Nat → Int} {p kd st nx nm : Nat} (h : Tk_ B p kd st nx nm) (e : kd = 17) : nm ≤ 10000 := by
  subst e
  rw [(Tk_17 h).2]
  exact val_le _ _ _
theorem lst_acc {asks : Bool} {A : LSt_} {kd st nx nm : Nat} {x : Nat × Nat} (h : lst_ asks A kd st nx nm = .inl x) : (x.1 = 0 → kd = 16 ∧ x.2 = nx) ∧ (x.1 ≠ 0 → x.2 = st) ∧ x.1 < 10 := by
  obtain ⟨rel, ab, due, S, nots⟩ := A
  cases due with
  | true =>
    have l_ : lst_ asks (rel, ab, true, S, nots) kd st nx nm = (if kd = 0 ∨ kd = 11 then (if S.length + nots = 8 then .inl (3, st) else .inr ((rel, false, true, decide (kd = 0) :: S, nots), nx)) else if kd = 3 ∧ ab = true then (if S.length + nots = 8 then .inl (3, st) else .inr ((rel, true, true, S, nots + 1), nx)) else if opf_ asks kd nm = 0 then .inr ((rel, false, false, popN_ S, nots), nx) else .inl (opf_ asks kd nm, st)) := rfl
    rw [l_] at h
    have ho := opf_lt asks kd nm
    by_cases c1 : kd = 0 ∨ kd = 11
    · rw [if_pos c1] at h
      by_cases c2 : S.length + nots = 8
      · rw [if_pos c2] at h
        injection h with h
        subst h
        exact ⟨fun e => absurd e (show ¬ (3 : Nat) = 0 by decide), fun _ => rfl, (show (3 : Nat) < 10 by decide)⟩
      · rw [if_neg c2] at h; exact nomatch h
    · rw [if_neg c1] at h
      by_cases c2 : kd = 3 ∧ ab = true
      · rw [if_pos c2] at h
        by_cases c3 : S.length + nots = 8
        · rw [if_pos c3] at h
          injection h with h
          subst h
          exact ⟨fun e => absurd e (show ¬ (3 : Nat) = 0 by decide), fun _ => rfl, (show (3 : Nat) < 10 by decide)⟩
        · rw [if_neg c3] at h; exact nomatch h
      · rw [if_neg c2] at h
        by_cases c3 : opf_ asks kd nm = 0
        · rw [if_pos c3] at h; exact nomatch h
        · rw [if_neg c3] at h
          injection h with h
          subst h
          exact ⟨fun e => absurd e c3, fun _ => rfl, ho⟩
  | false =>
    have l_ : lst_ asks (rel, ab, false, S, nots) kd st nx nm = (if 10 ≤ kd ∧ kd ≤ 13 then .inr ((rel, ab, true, S, nots), nx) else if kd = 15 ∧ S ≠ [] then .inr ((rel, ab, false, popN_ S.tail, nots), nx) else if 4 ≤ kd ∧ kd ≤ 9 ∧ asks = true ∧ S = [] ∧ rel = false then .inr ((true, ab, true, [], nots), nx) else if (kd = 2 ∨ kd = 1) ∧ S = [] ∧ rel = true then .inr ((false, true, true, [], 0), nx) else if kd = 16 ∧ S = [] ∧ rel = asks then .inl (0, nx) else .inl (1, st)) := rfl
    rw [l_] at h
    by_cases c1 : 10 ≤ kd ∧ kd ≤ 13
    · rw [if_pos c1] at h; exact nomatch h
    rw [if_neg c1] at h
    by_cases c2 : kd = 15 ∧ S ≠ []
    · rw [if_pos c2] at h; exact nomatch h
    rw [if_neg c2] at h
    by_cases c3 : 4 ≤ kd ∧ kd ≤ 9 ∧ asks = true ∧ S = [] ∧ rel = false
    · rw [if_pos c3] at h; exact nomatch h
    rw [if_neg c3] at h
    by_cases c4 : (kd = 2 ∨ kd = 1) ∧ S = [] ∧ rel = true
    · rw [if_pos c4] at h; exact nomatch h
    rw [if_neg c4] at h
    by_cases c5 : kd = 16 ∧ S = [] ∧ rel = asks
    · rw [if_pos c5] at h
      injection h with h
      subst h
      exact ⟨fun _ => ⟨c5.1, rfl⟩, fun e => absurd rfl e, (show (0 : Nat) < 10 by decide)⟩
    · rw [if_neg c5] at h
      injection h with h
      subst h
      exact ⟨fun e => absurd e (show ¬ (1 : Nat) = 0 by decide), fun _ => rfl, (show (1 : Nat) < 10 by decide)⟩
theorem lst_go {asks : Bool} {A : LSt_} {kd st nx nm : Nat} {y : LSt_ × Nat} (h : lst_ asks A kd st nx nm = .inr y) : y.2 = nx ∧ kd ≠ 24 := by
  obtain ⟨rel, ab, due, S, nots⟩ := A
  cases due with
  | true =>
    have l_ : lst_ asks (rel, ab, true, S, nots) kd st nx nm = (if kd = 0 ∨ kd = 11 then (if S.length + nots = 8 then .inl (3, st) else .inr ((rel, false, true, decide (kd = 0) :: S, nots), nx)) else if kd = 3 ∧ ab = true then (if S.length + nots = 8 then .inl (3, st) else .inr ((rel, true, true, S, nots + 1), nx)) else if opf_ asks kd nm = 0 then .inr ((rel, false, false, popN_ S, nots), nx) else .inl (opf_ asks kd nm, st)) := rfl
    rw [l_] at h
    by_cases c1 : kd = 0 ∨ kd = 11
    · rw [if_pos c1] at h
      by_cases c2 : S.length + nots = 8
      · rw [if_pos c2] at h; exact nomatch h
      · rw [if_neg c2] at h; injection h with h; subst h; exact ⟨rfl, by omega⟩
    · rw [if_neg c1] at h
      by_cases c2 : kd = 3 ∧ ab = true
      · rw [if_pos c2] at h
        by_cases c3 : S.length + nots = 8
        · rw [if_pos c3] at h; exact nomatch h
        · rw [if_neg c3] at h; injection h with h; subst h; exact ⟨rfl, by omega⟩
      · rw [if_neg c2] at h
        by_cases c3 : opf_ asks kd nm = 0
        · rw [if_pos c3] at h
          injection h with h
          subst h
          refine ⟨rfl, fun e => ?_⟩
          subst e
          unfold opf_ at c3
          rw [if_neg (by decide), if_neg (by decide)] at c3
          exact absurd c3 (by decide)
        · rw [if_neg c3] at h; exact nomatch h
  | false =>
    have l_ : lst_ asks (rel, ab, false, S, nots) kd st nx nm = (if 10 ≤ kd ∧ kd ≤ 13 then .inr ((rel, ab, true, S, nots), nx) else if kd = 15 ∧ S ≠ [] then .inr ((rel, ab, false, popN_ S.tail, nots), nx) else if 4 ≤ kd ∧ kd ≤ 9 ∧ asks = true ∧ S = [] ∧ rel = false then .inr ((true, ab, true, [], nots), nx) else if (kd = 2 ∨ kd = 1) ∧ S = [] ∧ rel = true then .inr ((false, true, true, [], 0), nx) else if kd = 16 ∧ S = [] ∧ rel = asks then .inl (0, nx) else .inl (1, st)) := rfl
    rw [l_] at h
    by_cases c1 : 10 ≤ kd ∧ kd ≤ 13
    · rw [if_pos c1] at h; injection h with h; subst h; exact ⟨rfl, by omega⟩
    rw [if_neg c1] at h
    by_cases c2 : kd = 15 ∧ S ≠ []
    · rw [if_pos c2] at h; injection h with h; subst h; exact ⟨rfl, by omega⟩
    rw [if_neg c2] at h
    by_cases c3 : 4 ≤ kd ∧ kd ≤ 9 ∧ asks = true ∧ S = [] ∧ rel = false
    · rw [if_pos c3] at h; injection h with h; subst h; exact ⟨rfl, by omega⟩
    rw [if_neg c3] at h
    by_cases c4 : (kd = 2 ∨ kd = 1) ∧ S = [] ∧ rel = true
    · rw [if_pos c4] at h; injection h with h; subst h; exact ⟨rfl, by omega⟩
    rw [if_neg c4] at h
    by_cases c5 : kd = 16 ∧ S = [] ∧ rel = asks
    · rw [if_pos c5] at h; exact nomatch h
    · rw [if_neg c5] at h; exact nomatch h
theorem CL_.af {asks rel ab due : Bool} {S : List Bool} {nots q : Nat} {u v : Sg} (h : CL_ asks rel ab due S nots q u) (a : AF_ u v) : CL_ asks rel ab due S nots q v := by
  have e4 := a.1 4 (by decide)
  have e18 := a.1 18 (by decide)
  have eg : ∀ k j, gr v k j = gr u k j := fun k j => by unfold gr; rw [a.2.2]
  unfold CL_
  rw [e4, e18, eg]
  exact h
theorem pf_and {β : Type} {f : Option β} {P Q : β → Prop} (h1 : pf_ f P) (h2 : pf_ f Q) : pf_ f (fun o => P o ∧ Q o) := fun o e => ⟨h1 o e, h2 o e⟩
/-- the end of a part of the class's reading -/
def Po_ (B : Nat → Int) (n : Nat) (x : Nat × Nat) (v : Sg) : Prop := (x.1 = 0 → gi v 4 4 = 0 ∧ x.2 ≤ n ∧ Ct_ B n x.2 v) ∧ (x.1 ≠ 0 → gi v 4 4 = nI x.1 ∧ gi v 4 5 = nI x.2) ∧ x.1 < 10
/-- the loop of a law -/
theorem lawLoop_v {B : Nat → Int} {n q p0 : Nat} {asks : Bool} {A0 : LSt_} {u0 : Sg} {k16 : Sg → Option Sg} {Q : Sg → Prop} (hq : isScr q = true) (hp : TPc_ B n u0) (hp0 : p0 ≤ n) (h0 : CL_ asks A0.1 A0.2.1 A0.2.2.1 A0.2.2.2.1 A0.2.2.2.2 q u0) (h34 : gi u0 3 4 = nI p0)
    (hk : ∀ v x, LF_ q u0 v → gi v 4 8 = gi u0 4 8 → (∃ f, RunL_ B asks f A0 p0 x) → (x.1 = 0 → gi v 4 4 = 0 ∧ gi v 3 2 = nI 16 ∧ gi v 3 4 = nI x.2 ∧ x.2 ≤ n) → (x.1 ≠ 0 → gi v 4 4 = nI x.1 ∧ gi v 4 5 = nI x.2) → x.1 < 10 → pf_ (k16 v) Q) : pf_ (lo2 (fX2_readLaw_63_b k16) FU 0 u0) Q := by
  have q48 : 48 ≤ q := by rcases scr_cases hq with h | h | h | h <;> omega
  have hn := hp.2.1
  refine pf_lo2 (fun (x3 : Int32) v => LF_ q u0 v ∧ gi v 4 8 = gi u0 4 8 ∧ ((∃ i A p, x3 = nI i ∧ CL_ asks A.1 A.2.1 A.2.2.1 A.2.2.2.1 A.2.2.2.2 q v ∧ gi v 3 4 = nI p ∧ p ≤ n ∧ i ≤ p ∧ Le_ B asks A0 p0 A p) ∨ (∃ x, (∃ f, RunL_ B asks f A0 p0 x) ∧ (x.1 = 0 → gi v 4 4 = 0 ∧ gi v 4 12 = 1 ∧ gi v 3 2 = nI 16 ∧ gi v 3 4 = nI x.2 ∧ x.2 ≤ n) ∧ (x.1 ≠ 0 → gi v 4 4 = nI x.1 ∧ gi v 4 5 = nI x.2) ∧ x.1 < 10))) ?_ FU 0 u0 ⟨LF_.rf, rfl, Or.inl ⟨0, A0, p0, rfl, h0, h34, hp0, Nat.zero_le _, Le_rf⟩⟩
  rintro rec x3 v ⟨lv, v8, hv⟩ hr
  unfold fX2_readLaw_63_b
  rcases hv with ⟨i, A, p, rfl, hc, v34, hpn, hip, hle⟩ | ⟨x, hx, x1, x2, x3'⟩
  · obtain ⟨rel, ab, due, S, nots⟩ := A
    refine pf_ifi (show 300 < nI i ↔ 300 < i from nI_lti (a := 300) (by omega) (by omega)) (fun e => by omega) (fun _ => ?_)
    have c4 : gi v 4 4 = 0 := hc.2.1
    have c12 : gi v 4 12 = 0 := hc.2.2.1
    rw [if_pos c4, if_pos c12]
    refine pf_bnv (advance9_v (lv.tp q48 hp) v34 hpn) (fun w hw => ?_)
    obtain ⟨aw, kd, st, nx, nm, tk, hnx, w2, w3, w4, w5⟩ := hw
    obtain ⟨t1, t2, t3, t4⟩ := Tk_adv tk
    have hcw := hc.af aw
    have lw := lv.af q48 aw
    have w8 : gi w 4 8 = gi u0 4 8 := by rw [aw.1 4 (by decide)]; exact v8
    have next : ∀ z, LF_ q w z → gi z 4 8 = gi w 4 8 → gi z 3 = gi w 3 → CR_ asks q z (lst_ asks (rel, ab, due, S, nots) kd st nx nm) → pf_ (bv (nI i + 1) fun v_42 => rec v_42 z) Q := by
      intro z lz z8 z3 cr
      refine pf_bv (fun y ey => ?_)
      rw [nI_1] at ey
      subst ey
      refine hr _ z ⟨lw.tr lz, by rw [z8, w8], ?_⟩
      cases hl : lst_ asks (rel, ab, due, S, nots) kd st nx nm with
      | inl x =>
        rw [hl] at cr
        obtain ⟨y1, y2, y3⟩ := lst_acc hl
        refine Or.inr ⟨x, hle x (Run_fin tk hl), fun e => ?_, fun e => cr.2 e, y3⟩
        obtain ⟨k16', e2⟩ := y1 e
        refine ⟨(cr.1 e).1, (cr.1 e).2, by rw [z3, w2, k16'], by rw [z3, w4, e2], by omega⟩
      | inr y =>
        rw [hl] at cr
        obtain ⟨y1, y2⟩ := lst_go hl
        have := t3 y2
        exact Or.inl ⟨i + 1, y.1, y.2, rfl, cr, by rw [z3, w4, y1], by omega, by omega, Le_tr hle (Le_st tk hl)⟩
    refine pf_jn (fun kk => ∀ z, LF_ q w z → gi z 4 8 = gi w 4 8 → gi z 3 = gi w 3 → CR_ asks q z (lst_ asks (rel, ab, due, S, nots) kd st nx nm) → pf_ (kk z) Q) next (fun k41 hk41 => ?_)
    have w9 : gi w 4 9 = b2i due := hcw.2.2.2.2.2.2.1
    rw [w9]
    cases due with
    | false =>
      refine pf_ifc (fun _ => ?_) (fun e => absurd rfl e)
      exact pf_bnv (pf_and (readOperation_v (nx := nx) (nm := nm) hq hcw t4 w2 w3) (ye_fX2_readOperation w)) (fun z hz => hk41 z hz.1.1 (hz.2 4 8 rfl) hz.1.2.1 hz.1.2.2)
    | true =>
      refine pf_ifc (fun e => absurd e (by decide +kernel)) (fun _ => ?_)
      by_cases e17 : kd = 17
      · exact pf_bnv (pf_and (readOperand_v (nx := nx) (nm := nm) hq hcw t4 w2 w3 w5 (Tk_nml tk e17)) (ye_fX2_readOperand w)) (fun z hz => hk41 z hz.1.1 (hz.2 4 8 rfl) hz.1.2.1 hz.1.2.2)
      · refine pf_bnv (pf_and (readOperand_v (nx := nx) (nm := 0) hq hcw t4 w2 w3 (fun e => absurd e e17) (by decide)) (ye_fX2_readOperand w)) (fun z hz => hk41 z hz.1.1 (hz.2 4 8 rfl) hz.1.2.1 ?_)
        rw [lst_nm (nm' := 0) (fun e => absurd e e17)]
        exact hz.1.2.2
  · have go : pf_ (k16 v) Q := hk v x lv v8 hx (fun e => ⟨(x1 e).1, (x1 e).2.2.1, (x1 e).2.2.2.1, (x1 e).2.2.2.2⟩) x2 x3'
    refine pf_if go ?_
    by_cases e : x.1 = 0
    · obtain ⟨a, b, _⟩ := x1 e
      rw [if_pos a, if_neg (by rw [b]; decide +kernel)]
      exact go
    · obtain ⟨a, _⟩ := x2 e
      rw [if_neg (fun e' => by rw [a] at e'; exact e ((nI_eqi (b := 0) (by omega) (by omega)).mp e'))]
      exact go
