/-! the model's reader: behind an operand, and a sum -/
theorem behindOne_v {B : Nat → Int} {n kd st nx nm nots : Nat} {asks rel ab : Bool} {S : List Bool} {u : Sg} (hp : TPm_ B n u) (hnx : nx ≤ n) (h7 : gi u 27 7 = nI nx) (hm : MK_ kd nm u) (hk : kd < 37) (hs : PM_ false S nots u) (hgo : (10 ≤ kd ∧ kd ≤ 13) ∨ (kd = 15 ∧ S ≠ [])) : pf_ (fX10_behindOne u) (fun r => MF_ u r.2 ∧ MR_ B n r.1 r.2 (lst_ asks (rel, ab, false, S, nots) kd st nx nm)) := by
  have l_ : lst_ asks (rel, ab, false, S, nots) kd st nx nm = (if 10 ≤ kd ∧ kd ≤ 13 then .inr ((rel, ab, true, S, nots), nx) else if kd = 15 ∧ S ≠ [] then .inr ((rel, ab, false, popN_ S.tail, nots), nx) else if 4 ≤ kd ∧ kd ≤ 9 ∧ asks = true ∧ S = [] ∧ rel = false then .inr ((true, ab, true, [], nots), nx) else if (kd = 2 ∨ kd = 1) ∧ S = [] ∧ rel = true then .inr ((false, true, true, [], 0), nx) else if kd = 16 ∧ S = [] ∧ rel = asks then .inl (0, nx) else .inl (1, st)) := rfl
  obtain ⟨s43, s45, s42, s47, s41, s59, s40, s1, s0⟩ := MK_sg hm (show kd < 40 by omega)
  obtain ⟨p19, p18, p8, W, t, m, pS, pt, pW, p17⟩ := hs
  have pt := pt rfl
  have hm1 := Sh_m pS pW (by omega)
  generalize hQ : (fun r : Int32 × Sg => MF_ u r.2 ∧ MR_ B n r.1 r.2 (lst_ asks (rel, ab, false, S, nots) kd st nx nm)) = Q
  unfold fX10_behindOne
  refine pf_bv (fun v1 e1 => ?_)
  rw [← e1] at s43 s45 s42 s47
  clear e1
  -- the next token, and done
  refine pf_jn (fun kk => ∀ z, MG_ u z → (∀ A', lst_ asks (rel, ab, false, S, nots) kd st nx nm = .inr (A', nx) → PM_ A'.2.2.1 A'.2.2.2.1 A'.2.2.2.2 z) → pf_ (kk z) Q) ?_ (fun k3 hk3 => ?_)
  · intro z gz hz
    try dsimp only
    refine pf_bnv (next10_v (gz.mf.tp hp) (by rw [gz.2.1 7 (by decide) (by decide) (by decide) (by decide)]; exact h7) hnx) (fun y hy => pf_some ?_)
    rw [← hQ]
    refine ⟨gz.mf.tr hy.1.mf, ?_⟩
    rcases hgo with h | h
    · rw [l_, if_pos h] at hz ⊢
      exact ⟨rfl, hy.1.pm (hz _ rfl), hy.2⟩
    · rw [l_, if_neg (by omega), if_pos h] at hz ⊢
      exact ⟨rfl, hy.1.pm (hz _ rfl), hy.2⟩
  -- a sign pushed: 3, 4 (x = 10, 11) or 5, 6 (x = 12, 13)
  have sign : ∀ (a x t2 : Nat) (W' : List Nat) (m' : Nat) (s6 : Sg), (10 ≤ kd ∧ kd ≤ 13) → MG_ u s6 → (∀ j, j ≠ 14 → j ≠ 17 → gi s6 27 j = gi u 27 j) → Wl_ (gi s6 32) (W'.map cm_) m' → gi s6 27 17 = nI m' → m' < 1000 → Sh_ [] (x :: W') S t2 → pf_ (bnv (fX10_push (nI (cm_ x)) s6) fun s9 => bv (si s9 27 19 (b2i false)) fun s10 => k3 s10) Q := by
    intro a x t2 W' m' s6 hkd g6 f6 w6 h6 hm6 sh
    refine pf_bnv (push10_v (m := m') h6 (by omega)) (fun s9 h9 => ?_)
    obtain ⟨a1, a2, a3, a4, a5⟩ := h9
    refine pf_bv (fun s10 e10 => hk3 s10 ((g6.tr a1).tr (by rw [e10]; exact ⟨fun k x _ _ => by rw [gsi_f x], fun j _ _ _ y => by rw [gsi_ne y], rfl⟩)) (fun A' eA => ?_))
    rw [l_, if_pos hkd] at eA
    injection eA with eA
    injection eA with eA _
    subst eA
    show PM_ true S nots s10
    refine ⟨by rw [e10, gsi_eq]; rfl, by rw [e10, gsi_ne (by decide), a5 18 (by decide), f6 18 (by decide) (by decide)]; exact p18, p8, x :: W', t2, m' + 1, sh, (fun e => (nomatch e)), ⟨m', rfl, by rw [e10, gsi_k (by decide)]; exact a3, ?_⟩, by rw [e10, gsi_ne (by decide)]; exact a2⟩
    exact Wl_fr w6 (fun i hi => by rw [e10, gsi_k (by decide), a4 i (by omega)])
  refine pf_jn (fun kk => (kd = 10 ∨ kd = 11) → pf_ kk Q) (fun hkd => ?_) (fun k5 hk5 => ?_)
  · refine pf_bnv (settle10_v (a := 3) (Or.inl rfl) pS pt pW p17 hm1) (fun s6 h6 => ?_)
    obtain ⟨g6, f6, W', t', m', b1, b2, _, b4, b5, b6⟩ := h6
    have b2 := b2 rfl
    subst b2
    refine pf_jn (fun kk => ∀ x, (x = 10 ∨ x = 11) → pf_ (kk (nI (cm_ x))) Q) (fun x hx => ?_) (fun k8 hk8 => pf_ifi s43 (fun _ => hk8 10 (Or.inl rfl)) (fun _ => hk8 11 (Or.inr rfl)))
    try dsimp only
    exact sign 3 x 2 W' m' s6 (by omega) g6 f6 b4 b5 (by omega) (Or.inr (Or.inr (Or.inl ⟨hx, rfl, b1⟩)))
  · refine pf_ifi s43 (fun e => hk5 (Or.inl e)) (fun n10 => pf_ifi s45 (fun e => hk5 (Or.inr e)) (fun n11 => ?_))
    refine pf_jn (fun kk => (kd = 12 ∨ kd = 13) → pf_ kk Q) (fun hkd => ?_) (fun k11 hk11 => ?_)
    · refine pf_bnv (settle10_v (a := 5) (Or.inr rfl) pS pt pW p17 hm1) (fun s6 h6 => ?_)
      obtain ⟨g6, f6, W', t', m', b1, _, b3, b4, b5, b6⟩ := h6
      refine pf_jn (fun kk => ∀ x, (x = 12 ∨ x = 13) → pf_ (kk (nI (cm_ x))) Q) (fun x hx => ?_) (fun k8 hk8 => pf_ifi s42 (fun _ => hk8 12 (Or.inl rfl)) (fun _ => hk8 13 (Or.inr rfl)))
      try dsimp only
      exact sign 5 x 3 W' m' s6 (by omega) g6 f6 b4 b5 (by omega) (Or.inr (Or.inr (Or.inr (Or.inl ⟨hx, rfl, t', b3, b1⟩))))
    · refine pf_ifi s42 (fun e => hk11 (Or.inl e)) (fun n12 => pf_ifi s47 (fun e => hk11 (Or.inr e)) (fun n13 => ?_))
      have h15 : kd = 15 ∧ S ≠ [] := by
        rcases hgo with h | h
        · omega
        · exact h
      obtain ⟨S2, eS⟩ := popN_hd (Sh_pop pS pt) h15.2
      refine pf_bnv (settle10_v (a := 3) (Or.inl rfl) pS pt pW p17 hm1) (fun s6 h6 => ?_)
      obtain ⟨g6, f6, W', t', m', b1, b2, _, b4, b5, b6⟩ := h6
      have b2 := b2 rfl
      subst b2
      -- the bracket is on top
      have top : ∃ W2 t2 m2, m' = m2 + 1 ∧ Sh_ [] W2 S2 t2 ∧ Wl_ (gi s6 32) (W2.map cm_) m2 := by
        cases W' with
        | nil => exact absurd b1.2.1 h15.2
        | cons x W2 =>
          obtain ⟨m2, e2, _, w2⟩ := b4
          rcases b1 with ⟨_, _, S', t2, e, hs⟩ | ⟨_, et, _⟩ | ⟨_, et, _⟩ | ⟨_, et, _⟩ | ⟨_, e, _⟩
          · rw [eS] at e
            injection e with _ e
            subst e
            exact ⟨W2, t2, m2, e2, hs, w2⟩
          · exact absurd et (by decide)
          · exact absurd et (by decide)
          · exact absurd et (by decide)
          · exact nomatch e
      obtain ⟨W2, t2, m2, e2, hs2, w2⟩ := top
      have lS : S.length = S2.length + 1 := by rw [eS]; rfl
      refine pf_bv (fun s18 e18 => pf_bv (fun s19 e19 => ?_))
      rw [b5, e2, nI_pr (by omega), show m2 + 1 - 1 = m2 by omega] at e18
      have h1818 : gi s18 27 18 = nI (S.length + nots) := by rw [e18, gsi_ne (by decide), f6 18 (by decide) (by decide)]; exact p18
      rw [h1818, nI_pr (by omega), show S.length + nots - 1 = S2.length + nots by omega] at e19
      have g19 : MG_ s6 s19 := by rw [e19, e18]; exact ⟨fun k x _ _ => by rw [gsi_f x, gsi_f x], fun j _ y z _ => by rw [gsi_ne z, gsi_ne y], rfl⟩
      refine pf_bnv (whole10_v (nots := nots) (m := m2) hs2 (by rw [e19, gsi_f (by decide), e18, gsi_f (by decide)]; exact w2) (by rw [e19, gsi_ne (by decide), e18, gsi_eq]) (by omega) (by rw [e19, gsi_eq]) (by omega)) (fun z hz => ?_)
      obtain ⟨z1, z2, z3, z4, W3, t3, m3, z5, z6, z7, z8, _⟩ := hz
      refine hk3 z ((g6.tr g19).tr z1) (fun A' eA => ?_)
      rw [l_, if_neg (by omega), if_pos h15] at eA
      injection eA with eA
      injection eA with eA _
      subst eA
      rw [eS]
      exact ⟨z2, z3, by show (popN_ S2).length + nots ≤ 8; omega, W3, t3, m3, z5, fun _ => z6, z7, z8⟩
theorem Wl_ex {f : Nat → Int32} {y : Nat} (hy : y < 100) : ∀ {L : List Nat} {m : Nat}, Wl_ f L m → (∀ x, x ∈ L → x < 100) → ((∃ i, i < m ∧ f i = nI y) ↔ y ∈ L) := by
  intro L
  induction L with
  | nil =>
    intro m h _
    have e : m = 0 := h
    exact ⟨fun ⟨i, hi, _⟩ => by omega, fun h => absurd h (by simp)⟩
  | cons x L ih =>
    rintro m ⟨m', rfl, hx, h⟩ hl
    have i1 := ih h (fun z hz => hl z (List.mem_cons_of_mem _ hz))
    have hx1 := hl x List.mem_cons_self
    constructor
    · rintro ⟨i, hi, e⟩
      by_cases c : i = m'
      · rw [c, hx] at e
        have := (nI_eqi (by omega) (by omega)).mp e
        rw [this]
        exact List.mem_cons_self
      · exact List.mem_cons_of_mem _ (i1.mp ⟨i, by omega, e⟩)
    · intro h'
      rcases List.mem_cons.mp h' with e | e
      · exact ⟨m', by omega, by rw [hx, e]⟩
      · obtain ⟨i, hi, e'⟩ := i1.mpr e
        exact ⟨i, by omega, e'⟩
theorem Sh_brk : ∀ {W : List Nat} {S : List Bool} {t : Nat}, Sh_ [] W S t → ((0 ∈ W ↔ true ∈ S) ∧ ∀ x, x ∈ W → x = 0 ∨ (10 ≤ x ∧ x ≤ 14)) := by
  intro W
  induction W with
  | nil => rintro S t ⟨_, rfl, _⟩; exact ⟨by simp, fun x hx => absurd hx (by simp)⟩
  | cons x W ih =>
    intro S t h
    have tl : ∀ {S' t'}, Sh_ [] W S' t' → (x = 0 ∨ (10 ≤ x ∧ x ≤ 14)) → ∀ y, y ∈ x :: W → y = 0 ∨ (10 ≤ y ∧ y ≤ 14) := fun h' hx y hy => by
      rcases List.mem_cons.mp hy with e | e
      · rw [e]; exact hx
      · exact (ih h').2 y e
    have ne0 : ∀ {S' t'}, Sh_ [] W S' t' → x ≠ 0 → (0 ∈ x :: W ↔ true ∈ S') := fun h' hx => by
      rw [List.mem_cons, (ih h').1]
      exact ⟨fun h => h.elim (fun e => absurd e.symm hx) id, Or.inr⟩
    rcases h with ⟨e, _, S', t', rfl, h'⟩ | ⟨e, _, S', t', rfl, h'⟩ | ⟨e, _, h'⟩ | ⟨e, _, t', _, h'⟩ | ⟨_, e, _⟩
    · exact ⟨⟨fun _ => List.mem_cons_self, fun _ => by rw [e]; exact List.mem_cons_self⟩, tl h' (Or.inl e)⟩
    · refine ⟨?_, tl h' (by omega)⟩
      rw [ne0 h' (by omega), List.mem_cons]
      exact ⟨Or.inr, fun h => h.elim (fun e => nomatch e) id⟩
    · exact ⟨ne0 h' (by omega), tl h' (by omega)⟩
    · exact ⟨ne0 h' (by omega), tl h' (by omega)⟩
    · exact nomatch e
theorem hasParen_v {m : Nat} {s : Sg} (h17 : gi s 27 17 = nI m) (hm : m < 1000) : pf_ (fX10_hasParen s) (fun r => r.2 = s ∧ (r.1 = true ↔ ∃ i, i < m ∧ gi s 32 i = nI 40)) := by
  generalize hQ : (fun r : Bool × Sg => r.2 = s ∧ (r.1 = true ↔ ∃ i, i < m ∧ gi s 32 i = nI 40)) = Q
  unfold fX10_hasParen
  refine pf_lo1 (fun (x : Int32) => ∃ i, x = nI i ∧ i ≤ m ∧ ∀ j, j < i → gi s 32 j ≠ nI 40) ?_ FU 0 ⟨0, rfl, Nat.zero_le _, fun j hj => by omega⟩
  rintro rec x ⟨i, rfl, hi, hj⟩ hr
  unfold fX10_hasParen_2_b
  rw [h17, ix_nI (show i < 2 ^ 31 by omega)]
  refine pf_ifi (nI_lei (by omega) (by omega)) (fun e => pf_some ?_) (fun e => pf_chk (fun _ => pf_ifc (fun h => pf_some ?_) (fun h => ?_)))
  · rw [← hQ]
    exact ⟨rfl, fun e' => (nomatch e'), fun ⟨j, j1, j2⟩ => absurd j2 (hj j (by omega))⟩
  · rw [← hQ]
    exact ⟨rfl, fun _ => ⟨i, by omega, h⟩, fun _ => rfl⟩
  · rw [nI_1]
    refine pf_bv (fun y ey => ?_)
    rw [ey]
    refine hr _ ⟨i + 1, rfl, by omega, fun j hj' => ?_⟩
    by_cases c : j = i
    · rw [c]; exact h
    · exact hj j (by omega)
theorem goesOn_v {kd nm nots : Nat} {S : List Bool} {u : Sg} (hm : MK_ kd nm u) (hk : kd < 37) (hs : PM_ false S nots u) : pf_ (fX10_goesOn u) (fun r => r.2 = u ∧ (r.1 = true ↔ (10 ≤ kd ∧ kd ≤ 13) ∨ (kd = 15 ∧ S ≠ []))) := by
  obtain ⟨s43, s45, s42, s47, s41, s59, s40, s1, s0⟩ := MK_sg hm (show kd < 40 by omega)
  obtain ⟨p19, p18, p8, W, t, m, pS, pt, pW, p17⟩ := hs
  have hm1 := Sh_m pS pW (by omega)
  generalize hQ : (fun r : Bool × Sg => r.2 = u ∧ (r.1 = true ↔ (10 ≤ kd ∧ kd ≤ 13) ∨ (kd = 15 ∧ S ≠ []))) = Q
  have yes : ((10 ≤ kd ∧ kd ≤ 13) ∨ (kd = 15 ∧ S ≠ [])) → pf_ (some (true, u)) Q := fun h => pf_some (by rw [← hQ]; exact ⟨rfl, fun _ => h, fun _ => rfl⟩)
  have no : ¬ ((10 ≤ kd ∧ kd ≤ 13) ∨ (kd = 15 ∧ S ≠ [])) → pf_ (some (false, u)) Q := fun h => pf_some (by rw [← hQ]; exact ⟨rfl, fun e => (nomatch e), fun e => absurd e h⟩)
  unfold fX10_goesOn
  refine pf_ifi s43 (fun e => yes (Or.inl (by omega))) (fun e1 => pf_ifi s45 (fun e => yes (Or.inl (by omega))) (fun e2 => pf_ifi s42 (fun e => yes (Or.inl (by omega))) (fun e3 => pf_ifi s47 (fun e => yes (Or.inl (by omega))) (fun e4 => pf_ifi s41 (fun e => ?_) (fun e5 => no (by omega))))))
  refine pf_bnd (hasParen_v p17 hm1) (fun b s2 h2 => ?_)
  obtain ⟨es, hb⟩ := h2
  dsimp only at es hb
  rw [es]
  have hb' : b = true ↔ S ≠ [] := by
    obtain ⟨k1, k2⟩ := Sh_brk pS
    rw [hb, Wl_ex (by decide) pW (fun x hx => ?_)]
    · constructor
      · intro h e'
        rw [List.mem_map] at h
        obtain ⟨x, hx, ex⟩ := h
        have x0 : x = 0 := by
          rcases k2 x hx with e | e
          · exact e
          · exfalso
            unfold cm_ at ex
            split at ex
            · omega
            · split at ex <;> omega
        rw [x0] at hx
        have := k1.mp hx
        rw [e'] at this
        exact absurd this (by simp)
      · intro h
        obtain ⟨S', e'⟩ := popN_hd (Sh_pop pS (pt rfl)) h
        rw [List.mem_map]
        exact ⟨0, k1.mpr (by rw [e']; exact List.mem_cons_self), rfl⟩
    · rw [List.mem_map] at hx
      obtain ⟨y, hy, ey⟩ := hx
      rw [← ey]
      unfold cm_
      rcases k2 y hy with e | e
      · rw [if_pos e]; decide
      · split
        · decide
        · split <;> omega
  cases b with
  | false =>
    rw [if_pos bF0_]
    exact no (fun h => h.elim (fun h => by omega) (fun h => nomatch hb'.mpr h.2))
  | true =>
    rw [if_neg bT0_]
    exact yes (Or.inr ⟨e, hb'.mp rfl⟩)
