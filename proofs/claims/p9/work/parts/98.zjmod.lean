/-! the model's reader: a sum -/
theorem Sh_nil {W : List Nat} (h : Sh_ [] W [] 0) : W = [] := by
  cases W with
  | nil => rfl
  | cons x W =>
    rcases h with ⟨_, _, _, _, e, _⟩ | ⟨_, _, _, _, e, _⟩ | ⟨_, e, _⟩ | ⟨_, e, _⟩ | ⟨_, e, _⟩
    · exact nomatch e
    · exact nomatch e
    · exact absurd e (by decide)
    · exact absurd e (by decide)
    · exact nomatch e
theorem lst_due {asks rel ab : Bool} {S : List Bool} {nots kd st nx nm : Nat} {w : LSt_ × Nat} (n3 : ¬ (kd = 3 ∧ ab = true)) (h : lst_ asks (rel, ab, true, S, nots) kd st nx nm = .inr w) : w.1.1 = rel ∧ w.1.2.1 = false ∧ w.1.2.2.2.2 = nots := by
  have l_ : lst_ asks (rel, ab, true, S, nots) kd st nx nm = (if kd = 0 ∨ kd = 11 then (if S.length + nots = 8 then .inl (3, st) else .inr ((rel, false, true, decide (kd = 0) :: S, nots), nx)) else if kd = 3 ∧ ab = true then (if S.length + nots = 8 then .inl (3, st) else .inr ((rel, true, true, S, nots + 1), nx)) else if opf_ asks kd nm = 0 then .inr ((rel, false, false, popN_ S, nots), nx) else .inl (opf_ asks kd nm, st)) := rfl
  rw [l_, if_neg n3] at h
  by_cases c1 : kd = 0 ∨ kd = 11
  · rw [if_pos c1] at h
    by_cases c2 : S.length + nots = 8
    · rw [if_pos c2] at h; exact nomatch h
    · rw [if_neg c2] at h; injection h with h; subst h; exact ⟨rfl, rfl, rfl⟩
  · rw [if_neg c1] at h
    by_cases c2 : opf_ asks kd nm = 0
    · rw [if_pos c2] at h; injection h with h; subst h; exact ⟨rfl, rfl, rfl⟩
    · rw [if_neg c2] at h; exact nomatch h
theorem lst_beh {asks rel ab : Bool} {S : List Bool} {nots kd st nx nm : Nat} {w : LSt_ × Nat} (hgo : (10 ≤ kd ∧ kd ≤ 13) ∨ (kd = 15 ∧ S ≠ [])) (h : lst_ asks (rel, ab, false, S, nots) kd st nx nm = .inr w) : w.1.1 = rel ∧ w.1.2.1 = ab ∧ w.1.2.2.2.2 = nots := by
  have l_ : lst_ asks (rel, ab, false, S, nots) kd st nx nm = (if 10 ≤ kd ∧ kd ≤ 13 then .inr ((rel, ab, true, S, nots), nx) else if kd = 15 ∧ S ≠ [] then .inr ((rel, ab, false, popN_ S.tail, nots), nx) else if 4 ≤ kd ∧ kd ≤ 9 ∧ asks = true ∧ S = [] ∧ rel = false then .inr ((true, ab, true, [], nots), nx) else if (kd = 2 ∨ kd = 1) ∧ S = [] ∧ rel = true then .inr ((false, true, true, [], 0), nx) else if kd = 16 ∧ S = [] ∧ rel = asks then .inl (0, nx) else .inl (1, st)) := rfl
  rw [l_] at h
  by_cases c1 : 10 ≤ kd ∧ kd ≤ 13
  · rw [if_pos c1] at h; injection h with h; subst h; exact ⟨rfl, rfl, rfl⟩
  · rw [if_neg c1, if_pos (hgo.elim (fun e => absurd e c1) id)] at h
    injection h with h; subst h; exact ⟨rfl, rfl, rfl⟩
/-- the end of a part of the model's reading: a fault -/
def Ft_ (r : Int32) (v : Sg) (P : Nat × Nat → Prop) : Prop := ∃ x, P x ∧ r = nI x.1 ∧ x.1 ≠ 0 ∧ x.1 < 10 ∧ gi v 27 8 = nI x.2
theorem summed_v {B : Nat → Int} {n p0 nots : Nat} {asks rel ab : Bool} {u : Sg} (hp : TPm_ B n u) (h20 : gi u 27 20 = b2i asks) (h18 : gi u 27 18 = nI nots) (h8 : nots ≤ 8) (ht : Mt_ B n p0 u) (hab : ab = true → ∀ kd st nx nm, Tk_ B p0 kd st nx nm → kd ≠ 3) : pf_ (fX10_summed u) (fun r => MF_ u r.2 ∧ ((∃ p', r.1 = 0 ∧ Le_ B asks (rel, ab, true, [], nots) p0 (rel, false, false, [], nots) p' ∧ Mt_ B n p' r.2 ∧ (∀ kd st nx nm, Tk_ B p' kd st nx nm → ¬ (10 ≤ kd ∧ kd ≤ 13)) ∧ gi r.2 27 18 = nI nots) ∨ Ft_ r.1 r.2 (fun x => ∃ f, RunL_ B asks f (rel, ab, true, [], nots) p0 x))) := by
  generalize hQ : (fun r : Int32 × Sg => MF_ u r.2 ∧ ((∃ p', r.1 = 0 ∧ Le_ B asks (rel, ab, true, [], nots) p0 (rel, false, false, [], nots) p' ∧ Mt_ B n p' r.2 ∧ (∀ kd st nx nm, Tk_ B p' kd st nx nm → ¬ (10 ≤ kd ∧ kd ≤ 13)) ∧ gi r.2 27 18 = nI nots) ∨ Ft_ r.1 r.2 (fun x => ∃ f, RunL_ B asks f (rel, ab, true, [], nots) p0 x))) = Q
  unfold fX10_summed
  refine pf_bv (fun s1 e1 => pf_bv (fun s2 e2 => ?_))
  have g2 : MG_ u s2 := by rw [e2, e1]; exact ⟨fun k x _ _ => by rw [gsi_f x, gsi_f x], fun j _ y _ z => by rw [gsi_ne z, gsi_ne y], rfl⟩
  have pm2 : PM_ true [] nots s2 := ⟨by rw [e2, gsi_eq]; rfl, by rw [e2, gsi_ne (by decide), e1, gsi_ne (by decide), h18]; congr 1; exact (Nat.zero_add _).symm, by show 0 + nots ≤ 8; omega, [], 0, 0, ⟨rfl, rfl, rfl⟩, (fun e => (nomatch e)), rfl, by rw [e2, gsi_ne (by decide), e1, gsi_eq]; rfl⟩
  clear e2 e1
  refine pf_jn (fun kk => ∀ z S p, MF_ u z → PM_ false S nots z → Mt_ B n p z → Le_ B asks (rel, ab, true, [], nots) p0 (rel, false, false, S, nots) p → (∀ kd st nx nm, Tk_ B p kd st nx nm → ¬ ((10 ≤ kd ∧ kd ≤ 13) ∨ (kd = 15 ∧ S ≠ []))) → pf_ (kk z) Q) ?_ (fun k4 hk4 => ?_)
  · intro z S p gz pz mz le ng
    try dsimp only
    obtain ⟨p19, p18, p8, W, t, m, pS, pt, pW, p17⟩ := pz
    have pt := pt rfl
    refine pf_bnv (settle10_v (a := 3) (Or.inl rfl) pS pt pW p17 (Sh_m pS pW (by omega))) (fun y hy => ?_)
    obtain ⟨g6, f6, W', t', m', b1, b2, _, b4, b5, b6⟩ := hy
    have b2 := b2 rfl
    subst b2
    have m1 := Sh_m b1 b4 (by omega)
    have my := g6.mt mz
    rw [b5]
    refine pf_ifi (show nI m' ≤ 0 ↔ m' ≤ 0 from nI_lei (b := 0) (by omega) (by omega)) (fun e => pf_some ?_) (fun e => pf_some ?_)
    · have eW : W' = [] := by
        have := Wl_len b4
        rw [List.length_map] at this
        exact List.eq_nil_of_length_eq_zero (by omega)
      rw [eW] at b1
      have eS : S = [] := b1.2.1
      subst eS
      rw [← hQ]
      refine ⟨gz.tr g6.mf, Or.inl ⟨p, rfl, le, my, fun kd st nx nm tk h => ng kd st nx nm tk (Or.inl h), ?_⟩⟩
      show gi y 27 18 = nI nots
      rw [f6 18 (by decide) (by decide), p18]
      congr 1
      exact Nat.zero_add _
    · have nS : S ≠ [] := fun eS => by
        subst eS
        have := Sh_nil b1
        subst this
        have e0 : m' = 0 := b4
        omega
      obtain ⟨kd, st, nx, nm, tk, hnx, t8, t7, mk⟩ := my
      have ng := ng kd st nx nm tk
      have l_ : lst_ asks (rel, false, false, S, nots) kd st nx nm = (if 10 ≤ kd ∧ kd ≤ 13 then .inr ((rel, false, true, S, nots), nx) else if kd = 15 ∧ S ≠ [] then .inr ((rel, false, false, popN_ S.tail, nots), nx) else if 4 ≤ kd ∧ kd ≤ 9 ∧ asks = true ∧ S = [] ∧ rel = false then .inr ((true, false, true, [], nots), nx) else if (kd = 2 ∨ kd = 1) ∧ S = [] ∧ rel = true then .inr ((false, true, true, [], 0), nx) else if kd = 16 ∧ S = [] ∧ rel = asks then .inl (0, nx) else .inl (1, st)) := rfl
      rw [if_neg (fun h => ng (Or.inl h)), if_neg (fun h => ng (Or.inr h)), if_neg (fun h => nS h.2.2.2.1), if_neg (fun h => nS h.2.1), if_neg (fun h => nS h.2.1)] at l_
      rw [← hQ]
      exact ⟨gz.tr g6.mf, Or.inr ⟨(1, st), le _ (Run_fin tk l_), rfl, (show (1 : Nat) ≠ 0 by decide), (show (1 : Nat) < 10 by decide), t8⟩⟩
  refine pf_lo1 (fun v => MF_ u v ∧ ∃ ab' due S p, PM_ due S nots v ∧ Mt_ B n p v ∧ (ab' = true → due = true ∧ ∀ kd st nx nm, Tk_ B p kd st nx nm → kd ≠ 3) ∧ Le_ B asks (rel, ab, true, [], nots) p0 (rel, ab', due, S, nots) p) ?_ FU s2 ⟨g2.mf, ab, true, [], p0, pm2, g2.mt ht, fun e => ⟨rfl, hab e⟩, Le_rf⟩
  rintro rec v ⟨gv, ab', due, S, p, pv, mv, hab', le⟩ hr
  unfold fX10_summed_10_b
  have pv19 : gi v 27 19 = b2i (!due) := pv.1
  have tv := gv.tp hp
  have v20 : gi v 27 20 = b2i asks := by rw [gv.2.1 20 (by decide) (by decide) (by decide) (by decide) (by decide)]; exact h20
  obtain ⟨kd, st, nx, nm, tk, hnx, t8, t7, mk⟩ := id mv
  have hk := Tk_37 tk
  refine pf_jn (fun kk => (due = false → (10 ≤ kd ∧ kd ≤ 13) ∨ (kd = 15 ∧ S ≠ [])) → pf_ (kk v) Q) (fun hgo => ?_) (fun k8 hk8 => ?_)
  · try dsimp only
    refine pf_jn (fun kk => ∀ y z, MF_ v z → MR_ B n y z (lst_ asks (rel, ab', due, S, nots) kd st nx nm) → pf_ (kk y z) Q) (fun y z gz mr => ?_) (fun k11 hk11 => ?_)
    · try dsimp only
      cases hl : lst_ asks (rel, ab', due, S, nots) kd st nx nm with
      | inl x =>
        rw [hl] at mr
        obtain ⟨e, x0, x10, e8⟩ := mr
        rw [if_neg (fun e' => by rw [e] at e'; exact x0 ((nI_eqi (b := 0) (by omega) (by omega)).mp e'))]
        refine pf_some ?_
        rw [← hQ]
        exact ⟨gv.tr gz, Or.inr ⟨x, le x (Run_fin tk hl), e, x0, x10, e8⟩⟩
      | inr w =>
        rw [hl] at mr
        obtain ⟨e, pm, mt⟩ := mr
        rw [if_pos e]
        have sh : w.1.1 = rel ∧ w.1.2.1 = false ∧ w.1.2.2.2.2 = nots := by
          cases due with
          | true => exact lst_due (fun h => (hab' h.2).2 kd st nx nm tk h.1) hl
          | false =>
            have eab : ab' = false := by
              cases ab' with
              | false => rfl
              | true => exact nomatch (hab' rfl).1
            have := lst_beh (hgo rfl) hl
            rw [eab] at this
            exact this
        obtain ⟨⟨r1, a1, d1, S1, n1⟩, p1⟩ := w
        obtain ⟨q1, q2, q3⟩ := sh
        dsimp only at q1 q2 q3 pm mt
        subst q1 q2 q3
        exact hr z ⟨gv.tr gz, false, d1, S1, p1, pm, mt, fun e => (nomatch e), Le_tr le (Le_st tk hl)⟩
    · rw [pv19]
      cases due with
      | true =>
        rw [if_pos (show b2i (!true) = 0 from rfl)]
        exact pf_bnd (beginOne_v tv hnx t8 t7 mk hk v20 pv (fun e => (hab' e).2 kd st nx nm tk)) (fun y z h => hk11 y z h.1 h.2)
      | false =>
        rw [if_neg (show ¬ b2i (!false) = 0 by decide +kernel)]
        exact pf_bnd (behindOne_v tv hnx t7 mk hk pv (hgo rfl)) (fun y z h => hk11 y z h.1 h.2)
  · rw [pv19]
    cases due with
    | true =>
      rw [if_pos (show b2i (!true) = 0 from rfl)]
      exact hk8 (fun e => nomatch e)
    | false =>
      rw [if_neg (show ¬ b2i (!false) = 0 by decide +kernel)]
      refine pf_bnd (goesOn_v mk hk pv) (fun b z h => ?_)
      obtain ⟨ez, hb⟩ := h
      dsimp only at ez hb
      rw [ez]
      have eab : ab' = false := by
        cases ab' with
        | false => rfl
        | true => exact nomatch (hab' rfl).1
      cases b with
      | false =>
        rw [if_pos bF0_]
        rw [eab] at le
        refine hk4 v S p gv pv mv le (fun kd' st' nx' nm' tk' h => ?_)
        obtain ⟨e, _⟩ := Tk_nm tk' tk
        rw [e] at h
        exact nomatch hb.mpr h
      | true =>
        rw [if_neg bT0_]
        exact hk8 (fun _ => hb.mp rfl)
