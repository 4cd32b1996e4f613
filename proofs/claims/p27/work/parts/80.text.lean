/-- the end of a clause: it is counted, and a ; must stand behind it -/
theorem cl_end {s t x : Sg} {q j c : Nat} {Q : Int32 × Sg → Prop} (hQ : PC_ s q t = Q) (hq : q < 4) (hc : CF_ q s x) (h12 : (gi x 27 12).toInt = ((680 * q : Nat) : Int)) (h14 : (gi x 27 14).toInt = (j : Int)) (h18 : (gi x 27 18).toInt = 0) (hk : TK_ x) (hj : (j : Int) ≤ (gi x 27 8).toInt) (hn : (gi x 30 (680 * q)).toInt = (c : Int)) (hc24 : c < 24) (hv : ∀ k, k < c + 1 → VC_ (gi x 30) q k j) (hp : (gi t 27 8).toInt < (gi x 27 8).toInt) :
    wp_ (chk (inb 2720 (gi x 27 12)) <| bv (si x 30 (ix (gi x 27 12)) ((gi x 30 (ix (gi x 27 12))) + 1)) fun s_20 => if (gi s_20 27 9) = 59 then bnv (fX10_nextToken s_20) fun s_21 => some (0, s_21) else some (1, s_20)) Q := by
  have L1 : (1 : Int32).toInt = 1 := rfl
  have x12 : ix (gi x 27 12) = 680 * q := by show (gi x 27 12).toInt.toNat = _; omega
  obtain ⟨k1, k2, k3, k4, k5, k6⟩ := id hk
  refine wp_chk_i (inb_ti (by omega) (by omega)) (wp_bv_i (fun y ey => ?_))
  rw [x12] at ey
  have gj : ∀ i, gi y 27 i = gi x 27 i := fun i => by rw [ey, gsi_k (by decide)]
  have e1 := ti_add (x := gi x 30 (680 * q)) (y := 1) (by omega) (by omega)
  have gn : (gi y 30 (680 * q)).toInt = ((c + 1 : Nat) : Int) := by rw [ey, gsi_eq, e1]; omega
  have gx : ∀ z, z ≠ 680 * q → gi y 30 z = gi x 30 z := fun z hz => by rw [ey, gsi_ne hz]
  have cy : CF_ q s y := by rw [ey]; exact CFs0_ hc (by omega)
  have vy : ∀ k, k < c + 1 → VC_ (gi y 30) q k j := fun k hk => (hv k hk).fr (Nat.le_refl _) (fun z a b => gx z (by omega)) (fun z a b => gx z (by omega))
  have w302 : VT_ (gi y 30) q 302 := ⟨c + 1, gn, by omega, fun k hk => (vy k hk).fr (by omega) (fun _ _ _ => rfl) (fun _ _ _ => rfl)⟩
  clear ey
  refine wp_if_i (fun h59 => ?_) (fun _ => wp_some_i ?_)
  · refine wp_bnv_i (nt_ok y (by rw [gj]; exact k5) (by rw [gj]; exact k6) (by rw [gj]; omega) (by rw [gj]; exact k3)) (fun u hu => wp_some_i ?_)
    obtain ⟨n, p, tk⟩ := hu
    rw [gj] at p
    rw [← hQ]
    have e30 := n.1 30 (by decide)
    refine ⟨cy.tr n.c, ?_, fun _ => ⟨⟨j, c + 1, cy.tr n.c, ?_, ?_, ?_, tk, ?_, ?_, by omega, ?_⟩, ?_⟩⟩
    · show VT_ (gi u 30) q 302
      rw [e30]; exact w302
    · show (gi u 27 12).toInt = _
      rw [n.2.1 12 (by decide), gj]; exact h12
    · show (gi u 27 14).toInt = _
      rw [n.2.1 14 (by decide), gj]; exact h14
    · show (gi u 27 18).toInt = _
      rw [n.2.1 18 (by decide), gj]; exact h18
    · show _ ≤ (gi u 27 8).toInt
      omega
    · show (gi u 30 (680 * q)).toInt = _
      rw [e30]; exact gn
    · show ∀ k, k < c + 1 → VC_ (gi u 30) q k j
      rw [e30]; exact vy
    · show _ < (gi u 27 8).toInt
      omega
  · rw [← hQ]
    exact ⟨cy, w302, fun e => absurd e (show ¬ (1 : Int32) = 0 by decide +kernel)⟩
set_option maxHeartbeats 1000000 in
theorem clause_ok {s t : Sg} {q : Nat} (hq : q < 4) (h : CI_ s q t) (h9 : gi t 27 9 ≠ 0) : wp_ (fX10_clause t) (PC_ s q t) := by
  generalize hQ : PC_ s q t = Q
  have L0 : (0 : Int32).toInt = 0 := rfl
  have L1 : (1 : Int32).toInt = 1 := rfl
  have L2 : (2 : Int32).toInt = 2 := rfl
  have L24 : (24 : Int32).toInt = 24 := rfl
  obtain ⟨i, c, a1, a2, a3, a4, a5, a6, a7, a8, a9⟩ := h
  obtain ⟨k1, k2, k3, k4, k5, k6⟩ := id a5
  have bad : ∀ r : Int32, r ≠ 0 → wp_ (some (r, t)) Q := fun r hr => wp_some_i (by rw [← hQ]; exact ⟨a1, ⟨c, a7, a8, fun k hk => (a9 k hk).fr (by omega) (fun _ _ _ => rfl) (fun _ _ _ => rfl)⟩, fun e => absurd e hr⟩)
  obtain ⟨r, er, r1, r2, r3⟩ := sortOf_x t
  have x12 : ix (gi t 27 12) = 680 * q := by show (gi t 27 12).toInt.toNat = _; omega
  unfold fX10_clause
  refine wp_bnd_e er (wp_if_i (fun h0 => ?_) (fun _ => bad 1 (by decide +kernel)))
  have h0' := le_ti h0
  refine wp_jn (fun k => wp_ k Q) ?_ (fun k3' hk3 => wp_if_i (fun _ => hk3) (fun _ => wp_if_i (fun _ => bad 4 (by decide +kernel)) (fun _ => hk3)))
  refine wp_chk_i (inb_ti (by omega) (by omega)) ?_
  rw [x12]
  refine wp_bv_i (fun v5 ev5 => wp_if_i (fun _ => bad 6 (by decide +kernel)) (fun h24 => ?_))
  have h24' := ne_ti h24
  rw [← ev5] at a7
  have hc24 : c < 24 := by omega
  refine wp_jn (fun k => ∀ u, CF_ q s u → (∀ j, j ≠ 21 → gi u 27 j = gi t 27 j) → gi u 30 = gi t 30 → wp_ (k u) Q) ?_ (fun k7 hk7 => wp_if_i (fun _ => hk7 t a1 (fun _ _ => rfl) rfl) (fun _ => wp_bv_i (fun u eu => ?_)))
  rotate_left
  · exact hk7 u (by rw [eu]; exact a1.si (by decide)) (fun j hj => by rw [eu, gsi_ne hj]) (by rw [eu, gsi_f (by decide)])
  intro u cu gu g30
  refine wp_bv_i (fun u2 eu2 => ?_)
  have gu2 : ∀ j, j ≠ 21 → j ≠ 20 → gi u2 27 j = gi t 27 j := fun j x y => by rw [eu2, gsi_ne y, gu j x]
  have cu2 : CF_ q s u2 := by rw [eu2]; exact cu.si (by decide)
  have g302 : gi u2 30 = gi t 30 := by rw [eu2, gsi_f (by decide), g30]
  clear eu2
  have f4 := gu2 4 (by decide) (by decide)
  have f7 := gu2 7 (by decide) (by decide)
  refine wp_bnv_i (nt_ok u2 (by rw [f4]; exact k5) (by rw [f4]; exact k6) (by rw [f7]; omega) (by rw [f7]; exact k3)) (fun v hv => ?_)
  obtain ⟨n, p, tv⟩ := hv
  have p0 := k4 h9
  rw [f7] at p
  have v12 : gi v 27 12 = gi t 27 12 := by rw [n.2.1 12 (by decide), gu2 12 (by decide) (by decide)]
  have v14 : gi v 27 14 = gi t 27 14 := by rw [n.2.1 14 (by decide), gu2 14 (by decide) (by decide)]
  have v18 : gi v 27 18 = gi t 27 18 := by rw [n.2.1 18 (by decide), gu2 18 (by decide) (by decide)]
  have v30 : gi v 30 = gi t 30 := by rw [n.1 30 (by decide), g302]
  have cv : CF_ q s v := cu2.tr n.c
  clear n gu2 g302 cu2 f4 f7 gu cu g30
  have m3 := tm_3 (x := v5) (by omega) (by omega)
  have e1 := ti_add (x := gi v 27 12) (y := 1) (by rw [v12]; omega) (by rw [v12]; omega)
  have e2 := ti_add (x := gi v 27 12 + 1) (y := 3 * v5) (by rw [e1, v12]; omega) (by rw [e1, v12]; omega)
  rw [e1, v12] at e2
  refine wp_bv_i (fun v10 ev10 => ?_)
  rw [v12] at ev10
  rw [← ev10] at e2
  have e10 : v10.toInt = ((680 * q + 1 + 3 * c : Nat) : Int) := by omega
  clear ev10 e1
  have x10 : ix v10 = 680 * q + 1 + 3 * c := by show v10.toInt.toNat = _; omega
  have e11 := ti_add (x := v10) (y := 1) (by omega) (by omega)
  have e12 := ti_add (x := v10) (y := 2) (by omega) (by omega)
  have x11 : ix (v10 + 1) = 680 * q + 1 + 3 * c + 1 := by show (v10 + 1).toInt.toNat = _; omega
  have x12' : ix (v10 + 2) = 680 * q + 1 + 3 * c + 2 := by show (v10 + 2).toInt.toNat = _; omega
  refine wp_chk_i (inb_ti (by omega) (by omega)) ?_
  rw [x10]
  refine wp_bv_i (fun w ew => ?_)
  have gw : ∀ j, gi w 27 j = gi v 27 j := fun j => by rw [ew, gsi_k (by decide)]
  have w30 : ∀ z, z ≠ 680 * q + 1 + 3 * c → gi w 30 z = gi t 30 z := fun z hz => by rw [ew, gsi_ne hz, v30]
  have w30c : gi w 30 (680 * q + 1 + 3 * c) = r := by rw [ew, gsi_eq]
  have cw : CF_ q s w := by rw [ew]; exact CFs0_ cv (by omega)
  have tw : TK_ w := tv.et ⟨fun j _ _ => gw j, by rw [ew]; rfl⟩ (gw 4)
  have w12 : (gi w 27 12).toInt = ((680 * q : Nat) : Int) := by rw [gw, v12]; exact a2
  have w14 : (gi w 27 14).toInt = (i : Int) := by rw [gw, v14]; exact a3
  have w18 : (gi w 27 18).toInt = 0 := by rw [gw, v18]; exact a4
  have w8 : (gi t 27 8).toInt < (gi w 27 8).toInt := by rw [gw]; omega
  have wn : (gi w 30 (680 * q)).toInt = (c : Int) := by rw [w30 _ (by omega), ← ev5]; exact a7
  have wv : ∀ k, k < c → VC_ (gi w 30) q k i := fun k hk => (a9 k hk).fr (Nat.le_refl _) (fun z x y => w30 z (by omega)) (fun z x y => w30 z (by omega))
  have tw8 := tw.2.1
  have tw7 := tw.2.2.1
  clear ew gw w30 v30 v12 v14 v18 cv tv p p0 a9 a1 er u u2 v
  -- behind the clause's body
  refine wp_bv_i (fun v13 ev13 => ?_)
  have e13 : v13.toInt = (i : Int) := by rw [ev13]; exact w14
  clear ev13
  -- what a body that is no law leaves; what a law leaves
  refine wp_jn (fun k => (∀ p : Int32 × Sg, 2 ≤ r.toInt → FG_ w (680 * q + 1 + 3 * c + 1) (680 * q + 1 + 3 * c + 2) p → wp_ (k p.1 p.2) Q) ∧ (∀ (p : Int32 × Sg) (D T : Nat), r.toInt < 2 → PB_ w q i D T 0 0 w p → wp_ (k p.1 p.2) Q)) ⟨?_, ?_⟩ (fun k16 hk16 => ?_)
  · intro p hr2 hp
    obtain ⟨p1, p2, p3, p4, p5⟩ := hp
    have cp : CF_ q s p.2 := cw.tr (p1.c (fun z hz => p2 z (by omega)))
    have pn : (gi p.2 30 (680 * q)).toInt = (c : Int) := by rw [p2 _ (by omega)]; exact wn
    have pv : ∀ k, k < c → VC_ (gi p.2 30) q k i := fun k hk => (wv k hk).fr (Nat.le_refl _) (fun z x y => p2 z (by omega)) (fun z x y => p2 z (by omega))
    refine wp_if_i (fun hy => ?_) (fun hy => wp_some_i ?_)
    · obtain ⟨tp, pp⟩ := p5 hy
      refine wp_jn (fun k => wp_ (k p.2) Q) ?_ (fun k18 hk18 => wp_if_i (fun _ => hk18) (fun hn => ?_))
      · refine cl_end hQ hq cp ?_ (j := i) (c := c) ?_ ?_ tp (by omega) pn hc24 ?_ (by omega)
        · rw [p1.2.1 12 (by decide)]; exact w12
        · rw [p3]; exact w14
        · rw [p4]; exact w18
        · intro k hk
          by_cases hkc : k = c
          · subst hkc
            intro hs
            rw [p2 _ (by omega), w30c] at hs
            omega
          · exact pv k (by omega)
      · have := nle_ti hn
        omega
    · rw [← hQ]
      exact ⟨cp, ⟨c, pn, by omega, fun k hk => (pv k hk).fr (by omega) (fun _ _ _ => rfl) (fun _ _ _ => rfl)⟩, fun e => absurd e hy⟩
  · intro p D T hr2 hp
    obtain ⟨p1, p2, p3⟩ := hp
    have p2' : ∀ z, z < 680 * q + 75 + 2 * i → gi p.2 30 z = gi w 30 z := fun z hz => p2 z (Or.inl hz)
    have cp : CF_ q s p.2 := cw.tr (p1.c (fun z hz => p2 z (by omega)))
    have pn : (gi p.2 30 (680 * q)).toInt = (c : Int) := by rw [p2' _ (by omega)]; exact wn
    have pv : ∀ k, k < c → VC_ (gi p.2 30) q k i := fun k hk => (wv k hk).fr (Nat.le_refl _) (fun z x y => p2' z (by omega)) (fun z x y => p2' z (by omega))
    refine wp_if_i (fun hy => ?_) (fun hy => wp_some_i ?_)
    · obtain ⟨bp, tp, pp⟩ := p3 hy
      obtain ⟨m, b1, b2, b3, b4, b5, b6, b7, b8, b9⟩ := bp
      refine wp_jn (fun k => ∀ x, CF_ q s x → (∀ j, gi x 27 j = gi p.2 27 j) → TK_ x → (gi x 30 (680 * q)).toInt = (c : Int) → (∀ k, k < c + 1 → VC_ (gi x 30) q k (i + m)) → wp_ (k x) Q) ?_ (fun k18 hk18 => ?_)
      · intro x cx gx tx xn xv
        have g8 := congrArg Int32.toInt (gx 8)
        refine cl_end hQ hq cx ?_ (j := i + m) (c := c) ?_ ?_ tx ?_ xn hc24 xv ?_
        · rw [gx]; exact b3
        · rw [gx]; exact b4
        · rw [gx]; exact b5
        · have : (((0 : Nat) : Int)) = 0 := rfl
          omega
        · omega
      · refine wp_if_i (fun hn => by have := le_ti hn; omega) (fun _ => ?_)
        refine wp_chk_i (inb_ti (by omega) (by omega)) ?_
        rw [x11]
        refine wp_bv_i (fun y ey => wp_chk_i (inb_ti (by omega) (by omega)) ?_)
        rw [x12']
        refine wp_bv_i (fun x ex => ?_)
        have gx : ∀ j, gi x 27 j = gi p.2 27 j := fun j => by rw [ex, gsi_k (by decide), ey, gsi_k (by decide)]
        have x30 : ∀ z, z ≠ 680 * q + 1 + 3 * c + 1 → z ≠ 680 * q + 1 + 3 * c + 2 → gi x 30 z = gi p.2 30 z := fun z h1 h2 => by rw [ex, gsi_ne h2, ey, gsi_ne h1]
        have xa : gi x 30 (680 * q + 1 + 3 * c + 1) = v13 := by rw [ex, gsi_ne (by omega), ey, gsi_eq]
        have xb : gi x 30 (680 * q + 1 + 3 * c + 2) = gi p.2 27 14 := by rw [ex, gsi_eq, ey, gsi_k (by decide)]
        refine hk18 x (by rw [ex, ey]; exact CFs0_ (CFs0_ cp (by omega)) (by omega)) gx (tp.et ⟨fun j _ _ => gx j, by rw [ex, ey]; rfl⟩ (gx 4)) (by rw [x30 _ (by omega) (by omega)]; exact pn) (fun k hk => ?_)
        by_cases hkc : k = c
        · subst hkc
          intro _
          refine ⟨i, m, by rw [xa]; exact e13, by rw [xb]; exact b4, Nat.le_refl _, (D, T), ?_⟩
          rw [dp_frame (f := gi p.2 30) m (fun j _ _ => x30 j (by omega) (by omega))]
          exact b7
        · exact (pv k (by omega)).fr (by omega) (fun z _ _ => x30 z (by omega) (by omega)) (fun z _ _ => x30 z (by omega) (by omega))
    · rw [← hQ]
      exact ⟨cp, ⟨c, pn, by omega, fun k hk => (pv k hk).fr (by omega) (fun _ _ _ => rfl) (fun _ _ _ => rfl)⟩, fun e => absurd e hy⟩
  · have bw : BS_ w q i 0 0 0 ((gi w 27 8).toInt - (0 : Nat)) w := ⟨0, RF_.rf, fun _ _ => rfl, w12, w14, w18, by decide, rfl, by show ((i + 0 : Nat) : Int) ≤ _ - ((0 : Nat) : Int); omega, by omega⟩
    refine wp_if_i (fun e2 => ?_) (fun n2 => ?_)
    · exact wp_bnd_i (laid_ok (lo := 680 * q + 1 + 3 * c) tw (by omega) (by omega) e10.symm) (fun y z hz => hk16.1 (y, z) (by rw [e2]; decide +kernel) hz)
    · have n2' := ne_ti n2
      refine wp_if_i (fun hle => ?_) (fun hle => ?_)
      · have hle' := le_ti hle
        refine wp_if_i (fun e0 => ?_) (fun _ => ?_)
        · exact wp_bnd_i (summed_ok hq bw tw) (fun y z hz => hk16.2 (y, z) _ _ (by omega) hz)
        · exact wp_bnd_i (either_ok hq bw tw) (fun y z hz => hk16.2 (y, z) _ _ (by omega) hz)
      · have hle' := nle_ti hle
        refine wp_jn (fun k => ∀ b : Int32, wp_ (k (v10 + 1) b) Q) ?_ (fun k34 hk34 => wp_if_i (fun _ => hk34 11) (fun _ => hk34 99))
        intro b
        exact wp_bnd_i (figure_ok (lo := 680 * q + 1 + 3 * c + 1) (hi := 680 * q + 1 + 3 * c + 2) tw (by omega) (by omega) (by omega) (by omega)) (fun y z hz => hk16.1 (y, z) (by omega) hz)
