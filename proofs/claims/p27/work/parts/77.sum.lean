theorem hasParen_x {t : Sg} (h : (gi t 27 17).toInt ≤ 160) : ∃ b, fX10_hasParen t = some (b, t) ∧ (b = true → ∃ k : Nat, (k : Int) < (gi t 27 17).toInt ∧ gi t 32 k = 40) := by
  have L1 : (1 : Int32).toInt = 1 := rfl
  have hw : wp_ (fX10_hasParen t) (fun q => q.2 = t ∧ (q.1 = true → ∃ k : Nat, (k : Int) < (gi t 27 17).toInt ∧ gi t 32 k = 40)) := by
    generalize hQ : (fun q : Bool × Sg => q.2 = t ∧ (q.1 = true → ∃ k : Nat, (k : Int) < (gi t 27 17).toInt ∧ gi t 32 k = 40)) = Q
    unfold fX10_hasParen
    refine lo1_i (fun x : Int32 => 0 ≤ x.toInt ∧ x.toInt ≤ 160) (fun x => (161 - x.toInt).toNat) ?_ FU 0 (by decide +kernel) (show (161 - (0 : Int32).toInt).toNat < 1000000000 by decide +kernel)
    rintro rec x ⟨hx, hx2⟩ hr
    unfold fX10_hasParen_2_b
    refine wp_if_i (fun _ => wp_some_i (by rw [← hQ]; exact ⟨rfl, fun e => nomatch e⟩)) (fun hlt => ?_)
    have hlt' := nle_ti hlt
    refine wp_chk_i (inb_ti hx (by omega)) (wp_if_i (fun h40 => wp_some_i ?_) (fun _ => ?_))
    · rw [← hQ]
      exact ⟨rfl, fun _ => ⟨ix x, by show ((x.toInt.toNat : Nat) : Int) < _; omega, h40⟩⟩
    · refine wp_bv_i (fun v ev => ?_)
      have e := ti_add (x := x) (y := 1) (by omega) (by omega)
      rw [← ev] at e
      exact hr v ⟨by omega, by omega⟩ (by omega)
  obtain ⟨⟨b, u⟩, e, h1, h2⟩ := wp_ex hw
  dsimp only at h1
  subst h1
  exact ⟨b, e, h2⟩
theorem goesOn_x {t : Sg} (h : (gi t 27 17).toInt ≤ 160) : ∃ b, fX10_goesOn t = some (b, t) ∧ (b = true → gi t 27 9 = 43 ∨ gi t 27 9 = 45 ∨ gi t 27 9 = 42 ∨ gi t 27 9 = 47 ∨ (gi t 27 9 = 41 ∧ ∃ k : Nat, (k : Int) < (gi t 27 17).toInt ∧ gi t 32 k = 40)) := by
  unfold fX10_goesOn
  by_cases h43 : gi t 27 9 = 43
  · rw [if_pos h43]; exact ⟨_, rfl, fun _ => Or.inl h43⟩
  rw [if_neg h43]
  by_cases h45 : gi t 27 9 = 45
  · rw [if_pos h45]; exact ⟨_, rfl, fun _ => Or.inr (Or.inl h45)⟩
  rw [if_neg h45]
  by_cases h42 : gi t 27 9 = 42
  · rw [if_pos h42]; exact ⟨_, rfl, fun _ => Or.inr (Or.inr (Or.inl h42))⟩
  rw [if_neg h42]
  by_cases h47 : gi t 27 9 = 47
  · rw [if_pos h47]; exact ⟨_, rfl, fun _ => Or.inr (Or.inr (Or.inr (Or.inl h47)))⟩
  rw [if_neg h47]
  by_cases h41 : gi t 27 9 = 41
  · rw [if_pos h41]
    obtain ⟨b, e, hb⟩ := hasParen_x h
    rw [e]
    cases b with
    | true => exact ⟨true, rfl, fun _ => Or.inr (Or.inr (Or.inr (Or.inr ⟨h41, hb rfl⟩)))⟩
    | false => exact ⟨false, rfl, fun e => nomatch e⟩
  · rw [if_neg h41]; exact ⟨_, rfl, fun e => nomatch e⟩
/-- a binary sign is piled -/
theorem SI_.pu {s t : Sg} {q i D T o : Nat} {B : Int} {y : Int32} (h : SI_ s q i D T o 1 B t) (hB : B ≤ 300) (hy : 3 ≤ y.toInt ∧ y.toInt ≤ 6) : ∃ u, fX10_push y t = some u ∧ SI_ s q i D T o 0 (B + 1) u ∧ ET_ t u := by
  obtain ⟨w, pl, bn, pr, a1, a2, a3, a4, a5, a6, a7, a8, a9, a10, a11⟩ := h
  obtain ⟨b1, b2⟩ := pl_lt (s := s) a6 a8 a9 a10 a11
  have L1 : (1 : Int32).toInt = 1 := rfl
  have e17 := ti_add (x := gi t 27 17) (y := 1) (by omega) (by omega)
  refine ⟨_, push_e (pl := pl) a5 (by omega), ⟨w, pl + 1, bn + 1, pr, ?_, ?_, ?_, ?_, ?_, ?_, ?_, a8, ?_, by omega, by omega⟩, ?_⟩
  · exact RF_.si (RFs0_ a1 (Or.inr rfl)) (by decide)
  · intro x hx; rw [gsi_k (by decide), gsi_k (by decide)]; exact a2 x hx
  · rw [gsi_ne (by decide), gsi_k (by decide)]; exact a3
  · rw [gsi_ne (by decide), gsi_k (by decide)]; exact a4
  · rw [gsi_eq, e17]; omega
  · refine Or.inl ⟨by rw [gsi_k (by decide), gsi_eq]; exact hy, bn, rfl, a6.fr (fun k hk => ?_)⟩
    rw [gsi_k (by decide), gsi_ne (by omega)]
  · rw [gsi_ne (by decide), gsi_k (by decide)]; exact a7
  · rw [gsi_f (by decide), gsi_f (by decide)]; exact a9
  · exact (ET_.rf.si (Or.inl (by decide))).si (by decide)
theorem behindOne_ok {s t : Sg} {q i D T o X : Nat} (hq : q < 4) (h : SI_ s q i D T o 1 ((gi t 27 8).toInt - X) t) (hk : TK_ t) (h19 : gi t 27 19 = 1) (h9 : gi t 27 9 = 43 ∨ gi t 27 9 = 45 ∨ gi t 27 9 = 42 ∨ gi t 27 9 = 47 ∨ (gi t 27 9 = 41 ∧ ∃ k : Nat, (k : Int) < (gi t 27 17).toInt ∧ gi t 32 k = 40)) : wp_ (fX10_behindOne t) (PO_ s q i D T o X t) := by
  generalize hQ : PO_ s q i D T o X t = Q
  have L0 : (0 : Int32).toInt = 0 := rfl
  have L1 : (1 : Int32).toInt = 1 := rfl
  obtain ⟨k1, k2, k3, k4, k5, k6⟩ := id hk
  have ne9 : gi t 27 9 ≠ 0 := by
    rcases h9 with e | e | e | e | ⟨e, _⟩ <;> rw [e] <;> decide +kernel
  unfold fX10_behindOne
  refine wp_bv_i (fun v1 ev1 => ?_)
  rw [← ev1] at h9
  refine wp_jn (fun k => ∀ u, ((gi u 27 19 = 0 ∧ SI_ s q i D T o 0 ((gi t 27 8).toInt - X + 1) u) ∨ (gi u 27 19 = 1 ∧ SI_ s q i D T o 1 ((gi t 27 8).toInt - X + 1) u)) → ET_ t u → wp_ (k u) Q) ?_ (fun k3 hk3 => ?_)
  · intro u hu he
    rcases hu with ⟨u19, hu⟩ | ⟨u19, hu⟩
    · have e4 : gi u 27 4 = gi t 27 4 := by rw [hu.r.1.2.1 4 (by decide), h.r.1.2.1 4 (by decide)]
      refine wp_bnv_i (nt_si (X := X) hu (hk.et he e4) (by rw [he.1 9 (by decide) (by decide)]; exact ne9) (by rw [he.1 8 (by decide) (by decide)]; omega)) (fun w hw => ?_)
      obtain ⟨w1, w2, w3, w4, w5⟩ := hw
      refine wp_some_i ?_
      rw [← hQ]
      rw [he.1 8 (by decide) (by decide)] at w3
      exact ⟨w1.r.1, w1.r.2, fun _ => ⟨⟨w2, Or.inl ⟨by rw [w4]; exact u19, w1⟩⟩, w3⟩⟩
    · have e4 : gi u 27 4 = gi t 27 4 := by rw [hu.r.1.2.1 4 (by decide), h.r.1.2.1 4 (by decide)]
      refine wp_bnv_i (nt_si (X := X) hu (hk.et he e4) (by rw [he.1 9 (by decide) (by decide)]; exact ne9) (by rw [he.1 8 (by decide) (by decide)]; omega)) (fun w hw => ?_)
      obtain ⟨w1, w2, w3, w4, w5⟩ := hw
      refine wp_some_i ?_
      rw [← hQ]
      rw [he.1 8 (by decide) (by decide)] at w3
      exact ⟨w1.r.1, w1.r.2, fun _ => ⟨⟨w2, Or.inr ⟨by rw [w4]; exact u19, w1⟩⟩, w3⟩⟩
  · refine wp_jn (fun k => wp_ k Q) ?_ (fun k5' hk5 => ?_)
    · refine wp_bnv_i (settle_ok (a1 := 3) hq (by decide +kernel) h) (fun u hu => ?_)
      obtain ⟨u1, u2, u3, u4, u5, u6⟩ := hu
      refine wp_jn (fun k => ∀ y : Int32, (3 ≤ y.toInt ∧ y.toInt ≤ 6) → wp_ (k y) Q) ?_ (fun k8 hk8 => wp_if_i (fun _ => hk8 3 (by decide +kernel)) (fun _ => hk8 4 (by decide +kernel)))
      intro y hy
      obtain ⟨v, ev, v2, v3⟩ := u1.pu (by omega) hy
      refine wp_bnv_e ev (wp_bv_i (fun w ew => ?_))
      subst ew
      exact hk3 _ (Or.inl ⟨gsi_eq, v2.wh19⟩) ((u3.tr v3).si (by decide))
    · refine wp_if_i (fun _ => hk5) (fun n43 => wp_if_i (fun _ => hk5) (fun n45 => ?_))
      refine wp_jn (fun k => wp_ k Q) ?_ (fun k11 hk11 => ?_)
      · refine wp_bnv_i (settle_ok (a1 := 5) hq (by decide +kernel) h) (fun u hu => ?_)
        obtain ⟨u1, u2, u3, u4, u5, u6⟩ := hu
        refine wp_jn (fun k => ∀ y : Int32, (3 ≤ y.toInt ∧ y.toInt ≤ 6) → wp_ (k y) Q) ?_ (fun k8 hk8 => wp_if_i (fun _ => hk8 5 (by decide +kernel)) (fun _ => hk8 6 (by decide +kernel)))
        intro y hy
        obtain ⟨v, ev, v2, v3⟩ := u1.pu (by omega) hy
        refine wp_bnv_e ev (wp_bv_i (fun w ew => ?_))
        subst ew
        exact hk3 _ (Or.inl ⟨gsi_eq, v2.wh19⟩) ((u3.tr v3).si (by decide))
      · refine wp_if_i (fun _ => hk11) (fun n42 => wp_if_i (fun _ => hk11) (fun n47 => ?_))
        rcases h9 with e | e | e | e | ⟨e, kk, hk40, hk41⟩
        · exact absurd e n43
        · exact absurd e n45
        · exact absurd e n42
        · exact absurd e n47
        refine wp_bnv_i (settle_ok (a1 := 3) hq (by decide +kernel) h) (fun u hu => ?_)
        obtain ⟨u1, u2, u3, u4, u5, u6⟩ := hu
        have hkp := u5 kk hk40 hk41
        obtain ⟨w, pl, bn, pr, a1, a2, a3, a4, a5, a6, a7, a8, a9, a10, a11⟩ := u1
        cases pl with
        | zero => omega
        | succ pl =>
          rcases a6 with ⟨c1, _⟩ | ⟨_, pr', rfl, a6⟩
          · exact absurd c1 (u6 rfl pl (by omega))
          have e17 := ti_sub (x := gi u 27 17) (y := 1) (by omega) (by omega)
          have e18 := ti_sub (x := gi u 27 18) (y := 1) (by omega) (by omega)
          refine wp_bv_i (fun x1 ex1 => wp_bv_i (fun x2 ex2 => ?_))
          have g18 : gi x2 27 18 = gi u 27 18 - 1 := by rw [ex2, gsi_eq, ex1, gsi_ne (by decide)]
          have g17 : gi x2 27 17 = gi u 27 17 - 1 := by rw [ex2, gsi_ne (by decide), ex1, gsi_eq]
          have gj : ∀ j, j ≠ 17 → j ≠ 18 → gi x2 27 j = gi u 27 j := fun j h1 h2 => by rw [ex2, gsi_ne h2, ex1, gsi_ne h1]
          have gk : ∀ k, k ≠ 27 → gi x2 k = gi u k := fun k hk => by rw [ex2, gsi_f hk, ex1, gsi_f hk]
          have r2 : RF_ s x2 := by rw [ex2, ex1]; exact (a1.si (by decide)).si (by decide)
          have t2 : ET_ t x2 := by rw [ex2, ex1]; exact (u3.si (by decide)).si (by decide)
          have hx2 : SI_ s q i D T o 1 ((gi t 27 8).toInt - X + 1) x2 := by
            refine ⟨w, pl, bn, pr', r2, fun x hx => by rw [gk 30 (by decide)]; exact a2 x hx, ?_, ?_, ?_, ?_, ?_, by omega, ?_, by omega, by omega⟩
            · rw [gj 12 (by decide) (by decide)]; exact a3
            · rw [gj 14 (by decide) (by decide)]; exact a4
            · rw [g17]; omega
            · rw [gk 32 (by decide)]; exact a6
            · rw [g18]; omega
            · rw [gk 30 (by decide)]; exact a9
          refine wp_bnv_i (whole_ok hq hx2) (fun y hy => ?_)
          exact hk3 y (Or.inr ⟨hy.2.1, hy.1⟩) (t2.tr hy.2.2)
/-- between sums: nothing is piled -/
def BS_ (s : Sg) (q i D T o : Nat) (B : Int) (t : Sg) : Prop := ∃ w : Nat, RF_ s t ∧ TF_ q i s t ∧ (gi t 27 12).toInt = ((680 * q : Nat) : Int) ∧ (gi t 27 14).toInt = ((i + w : Nat) : Int) ∧ (gi t 27 18).toInt = (o : Int) ∧ o ≤ 8 ∧ dp_ (gi t 30) (680 * q + 75) i w = some (D, T) ∧ ((i + w : Nat) : Int) ≤ B ∧ B ≤ 301
theorem BS_.r {s t : Sg} {q i D T o : Nat} {B : Int} (h : BS_ s q i D T o B t) : RF_ s t ∧ TF_ q i s t := by
  obtain ⟨w, a1, a2, _⟩ := h
  exact ⟨a1, a2⟩
theorem BS_.b {s t : Sg} {q i D T o : Nat} {B B' : Int} (h : BS_ s q i D T o B t) (h1 : B ≤ B') (h2 : B' ≤ 301) : BS_ s q i D T o B' t := by
  obtain ⟨w, a1, a2, a3, a4, a5, a6, a7, a8, a9⟩ := h
  exact ⟨w, a1, a2, a3, a4, a5, a6, a7, by omega, h2⟩
theorem BS_.nt {s t u : Sg} {q i D T o : Nat} {B : Int} (h : BS_ s q i D T o B t) (n : NT_ t u) : BS_ s q i D T o B u := by
  obtain ⟨w, a1, a2, a3, a4, a5, a6, a7, a8, a9⟩ := h
  refine ⟨w, a1.tr n.r, fun x hx => by rw [n.1 30 (by decide)]; exact a2 x hx, ?_, ?_, ?_, a6, ?_, a8, a9⟩
  · rw [n.2.1 12 (by decide)]; exact a3
  · rw [n.2.1 14 (by decide)]; exact a4
  · rw [n.2.1 18 (by decide)]; exact a5
  · rw [n.1 30 (by decide)]; exact a7
theorem nt_bs {s t : Sg} {q i D T o X : Nat} {B : Int} (h : BS_ s q i D T o B t) (hk : TK_ t) (h9 : gi t 27 9 ≠ 0) (hB : B ≤ (gi t 27 8).toInt + 1 - X) : wp_ (fX10_nextToken t) (fun u => BS_ s q i D T o ((gi u 27 8).toInt - X) u ∧ TK_ u ∧ (gi t 27 8).toInt < (gi u 27 8).toInt) := by
  obtain ⟨k1, k2, k3, k4, k5, k6⟩ := hk
  refine wp_mono (nt_ok t k5 k6 (by omega) k3) (fun u hu => ?_)
  obtain ⟨n, p, tk⟩ := hu
  have := k4 h9
  have k7 := tk.2.1
  have k8 := tk.2.2.1
  exact ⟨(h.nt n).b (by omega) (by omega), tk, by omega⟩
/-- an operation of a law is written -/
theorem BS_.em {s t : Sg} {q i D T D' T' o : Nat} {B : Int} {a v : Int32} (hq : q < 4) (h : BS_ s q i D T o B t) (hB : B ≤ 300) (hd : dst_ a.toInt v.toInt (D, T) = some (D', T')) : ∃ u, fX10_emit a v t = some u ∧ BS_ s q i D' T' o (B + 1) u ∧ ET_ t u := by
  obtain ⟨w, a1, a2, a3, a4, a5, a6, a7, a8, a9⟩ := h
  refine ⟨_, emit_e (w := i + w) hq (by omega) a3 a4, ⟨w + 1, a1.em, a2.em (by omega), ?_, ?_, ?_, a6, dp_em a7 hd, by omega, by omega⟩, ET_.rf.em⟩
  · rw [em_27 (by decide)]; exact a3
  · exact em_14 (w := i + w) a4 (by omega)
  · rw [em_27 (by decide)]; exact a5
/-- behind a part of a law: r its FAULT -/
def PB_ (s : Sg) (q i D T o X : Nat) (t : Sg) (p : Int32 × Sg) : Prop := RF_ s p.2 ∧ TF_ q i s p.2 ∧ (p.1 = 0 → BS_ s q i D T o ((gi p.2 27 8).toInt - X) p.2 ∧ TK_ p.2 ∧ (gi t 27 8).toInt ≤ (gi p.2 27 8).toInt)
theorem summed_ok {s t : Sg} {q i D T o X : Nat} (hq : q < 4) (h : BS_ s q i D T o ((gi t 27 8).toInt - X) t) (hk : TK_ t) : wp_ (fX10_summed t) (PB_ s q i (D + 1) T o X t) := by
  generalize hQ : PB_ s q i (D + 1) T o X t = Q
  have L0 : (0 : Int32).toInt = 0 := rfl
  obtain ⟨k1, k2, k3, k4, k5, k6⟩ := id hk
  unfold fX10_summed
  refine wp_bv_i (fun t1 e1 => wp_bv_i (fun t2 e2 => ?_))
  have hl : LI_ s q i D T o X t2 := by
    obtain ⟨w, a1, a2, a3, a4, a5, a6, a7, a8, a9⟩ := h
    have gj : ∀ j, j ≠ 17 → j ≠ 19 → gi t2 27 j = gi t 27 j := fun j h1 h2 => by rw [e2, gsi_ne h2, e1, gsi_ne h1]
    have gk : ∀ k, k ≠ 27 → gi t2 k = gi t k := fun k hk => by rw [e2, gsi_f hk, e1, gsi_f hk]
    refine ⟨hk.et ⟨fun j x y => gj j (by omega) (by omega), by rw [e2, e1]; rfl⟩ (gj 4 (by decide) (by decide)), Or.inl ⟨by rw [e2, gsi_eq]; rfl, w, 0, 0, 0, ?_, fun x hx => by rw [gk 30 (by decide)]; exact a2 x hx, ?_, ?_, ?_, ⟨rfl, rfl⟩, ?_, a6, ?_, ?_, ?_⟩⟩
    · rw [e2, e1]; exact (a1.si (by decide)).si (by decide)
    · rw [gj 12 (by decide) (by decide)]; exact a3
    · rw [gj 14 (by decide) (by decide)]; exact a4
    · rw [e2, gsi_ne (by decide), e1, gsi_eq]; rfl
    · rw [gj 18 (by decide) (by decide)]; exact a5
    · rw [gk 30 (by decide)]; exact a7
    · rw [gj 8 (by decide) (by decide)]; omega
    · rw [gj 8 (by decide) (by decide)]; omega
  have p8 : gi t2 27 8 = gi t 27 8 := by rw [e2, gsi_ne (by decide), e1, gsi_ne (by decide)]
  clear e1 e2 t1
  refine wp_jn (fun k => ∀ u, TK_ u → SI_ s q i D T o 1 ((gi u 27 8).toInt - X) u → (gi t 27 8).toInt ≤ (gi u 27 8).toInt → wp_ (k u) Q) ?_ (fun k4' hk4 => ?_)
  · intro u tu hu pu
    refine wp_bnv_i (settle_ok (a1 := 3) hq (by decide +kernel) hu) (fun v hv => ?_)
    obtain ⟨v1, v2, v3, v4, v5, v6⟩ := hv
    refine wp_if_i (fun hp => wp_some_i ?_) (fun _ => wp_some_i ?_)
    · rw [← hQ]
      refine ⟨v1.r.1, v1.r.2, fun _ => ?_⟩
      have e4 : gi v 27 4 = gi u 27 4 := by rw [v1.r.1.2.1 4 (by decide), hu.r.1.2.1 4 (by decide)]
      have e8 := v3.1 8 (by decide) (by decide)
      refine ⟨?_, tu.et v3 e4, by show _ ≤ (gi v 27 8).toInt; rw [e8]; exact pu⟩
      obtain ⟨w, pl, bn, pr, a1, a2, a3, a4, a5, a6, a7, a8, a9, a10, a11⟩ := v1
      have hp' := le_ti hp
      have hs := a6.sum
      have z1 : bn = 0 := by omega
      have z2 : pr = 0 := by omega
      subst z1
      subst z2
      show BS_ s q i (D + 1) T o ((gi v 27 8).toInt - X) v
      rw [e8]
      exact ⟨w, a1, a2, a3, a4, a7, a8, a9, by omega, a11⟩
    · rw [← hQ]
      exact ⟨v1.r.1, v1.r.2, fun e => absurd e (show ¬ (1 : Int32) = 0 by decide +kernel)⟩
  · refine lo1_i (fun u => LI_ s q i D T o X u ∧ (gi t 27 8).toInt ≤ (gi u 27 8).toInt) (fun u => (300 - (gi u 27 8).toInt).toNat) ?_ FU t2 ⟨hl, by rw [p8]; omega⟩ (by show _ < 1000000000; rw [p8]; omega)
    rintro rec u ⟨⟨tu, hu⟩, pu⟩ hr
    have k11 : ∀ p : Int32 × Sg, PO_ s q i D T o X u p → wp_ (if p.1 = 0 then rec p.2 else some (p.1, p.2)) Q := by
      intro p hp
      refine wp_if_i (fun e => ?_) (fun e => wp_some_i ?_)
      · obtain ⟨l1, l2⟩ := hp.2.2 e
        have q1 := l1.1.2.1
        have q2 := l1.1.2.2.1
        exact hr p.2 ⟨l1, by omega⟩ (by omega)
      · rw [← hQ]
        exact ⟨hp.1, hp.2.1, fun e' => absurd e' e⟩
    unfold fX10_summed_10_b
    rcases hu with ⟨u19, hu⟩ | ⟨u19, hu⟩
    · refine wp_jn (fun k => wp_ (k u) Q) ?_ (fun k8 hk8 => ?_)
      · refine wp_jn (fun k => ∀ p : Int32 × Sg, PO_ s q i D T o X u p → wp_ (k p.1 p.2) Q) (fun p hp => k11 p hp) (fun k11' hk11 => ?_)
        refine wp_if_i (fun _ => ?_) (fun e => absurd u19 e)
        exact wp_bnd_i (beginOne_ok hq hu tu u19) (fun r x hx => hk11 (r, x) hx)
      · exact wp_if_i (fun _ => hk8) (fun e => absurd u19 e)
    · have hpl : (gi u 27 17).toInt ≤ 160 := by
        obtain ⟨w, pl, bn, pr, a1, a2, a3, a4, a5, a6, a7, a8, a9, a10, a11⟩ := hu
        have := pl_lt (s := s) a6 a8 a9 a10 a11
        omega
      have n0 : ¬ gi u 27 19 = 0 := by rw [u19]; decide +kernel
      obtain ⟨b, eb, hb⟩ := goesOn_x hpl
      refine wp_jn (fun k => b = true → wp_ (k u) Q) ?_ (fun k8 hk8 => ?_)
      · intro hbt
        refine wp_jn (fun k => ∀ p : Int32 × Sg, PO_ s q i D T o X u p → wp_ (k p.1 p.2) Q) (fun p hp => k11 p hp) (fun k11' hk11 => ?_)
        refine wp_if_i (fun e => absurd e n0) (fun _ => ?_)
        exact wp_bnd_i (behindOne_ok hq hu tu u19 (hb hbt)) (fun r x hx => hk11 (r, x) hx)
      · refine wp_if_i (fun e => absurd e n0) (fun _ => ?_)
        refine wp_bnd_e eb (wp_if_i (fun _ => hk4 u tu hu pu) (fun e => hk8 (b2i_ne e)))
