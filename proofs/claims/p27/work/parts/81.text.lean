theorem readText_ok {s : Sg} {q : Nat} (hq : q < 4) (h7 : (gi s 28 7).toInt = (q : Int)) (h4 : 0 ≤ (gi s 27 4).toInt ∧ (gi s 27 4).toInt ≤ 300) : wp_ (fX10_readText s) (fun p => CF_ q s p.2 ∧ VT_ (gi p.2 30) q 302) := by
  generalize hQ : (fun p : Int32 × Sg => CF_ q s p.2 ∧ VT_ (gi p.2 30) q 302) = Q
  have L0 : (0 : Int32).toInt = 0 := rfl
  unfold fX10_readText
  rw [ixl_7]
  have m := tm_680 (x := gi s 28 7) (by omega) (by omega)
  refine wp_bv_i (fun s1 e1 => ?_)
  have g12 : (gi s1 27 12).toInt = ((680 * q : Nat) : Int) := by rw [e1, gsi_eq, m]; omega
  have x12 : ix (gi s1 27 12) = 680 * q := by show (gi s1 27 12).toInt.toNat = _; omega
  have c1 : CF_ q s s1 := by rw [e1]; exact CF_.rf.si (by decide)
  clear e1
  refine wp_chk_i (inb_ti (by omega) (by omega)) ?_
  rw [x12]
  refine wp_bv_i (fun s3 e3 => wp_bv_i (fun s4 e4 => wp_bv_i (fun s5 e5 => wp_bv_i (fun s6 e6 => wp_bv_i (fun s7 e7 => ?_)))))
  have c3 : CF_ q s s3 := by rw [e3]; exact CFs0_ c1 (by omega)
  have c7 : CF_ q s s7 := by rw [e7, e6, e5, e4]; exact (((c3.si (by decide)).si (by decide)).si (by decide)).si (by decide)
  have z12 : (gi s7 27 12).toInt = ((680 * q : Nat) : Int) := by rw [e7, gsi_ne (by decide), e6, gsi_ne (by decide), e5, gsi_ne (by decide), e4, gsi_ne (by decide), e3, gsi_k (by decide)]; exact g12
  have z14 : (gi s7 27 14).toInt = ((0 : Nat) : Int) := by rw [e7, gsi_ne (by decide), e6, gsi_ne (by decide), e5, gsi_ne (by decide), e4, gsi_eq]; rfl
  have z18 : (gi s7 27 18).toInt = 0 := by rw [e7, gsi_ne (by decide), e6, gsi_ne (by decide), e5, gsi_eq]; rfl
  have z7 : (gi s7 27 7).toInt = 0 := by rw [e7, gsi_eq]; rfl
  have z30 : (gi s7 30 (680 * q)).toInt = ((0 : Nat) : Int) := by rw [e7, gsi_k (by decide), e6, gsi_k (by decide), e5, gsi_k (by decide), e4, gsi_k (by decide), e3, gsi_eq]; rfl
  have z4 : gi s7 27 4 = gi s 27 4 := c7.2.1 4 (by decide)
  clear e7 e6 e5 e4 e3 c3 c1 s6 s5 s4 s3 g12 x12
  refine wp_bnv_i (nt_ok s7 (by rw [z4]; exact h4.1) (by rw [z4]; exact h4.2) (by omega) (by omega)) (fun u hu => ?_)
  obtain ⟨n, p, tk⟩ := hu
  have hu : CI_ s q u := by
    refine ⟨0, 0, c7.tr n.c, ?_, ?_, ?_, tk, by have := tk.1; omega, ?_, by decide, fun k hk => absurd hk (by omega)⟩
    · rw [n.2.1 12 (by decide)]; exact z12
    · rw [n.2.1 14 (by decide)]; exact z14
    · rw [n.2.1 18 (by decide)]; exact z18
    · rw [n.1 30 (by decide)]; exact z30
  refine lo1_i (fun u => CI_ s q u) (fun u => (300 - (gi u 27 8).toInt).toNat) ?_ FU u hu (by show _ < 1000000000; have := tk.1; omega)
  intro rec x hx hr
  unfold fX10_readText_49_b
  refine wp_if_i (fun _ => wp_some_i ?_) (fun h9 => ?_)
  · obtain ⟨i, c, a1, a2, a3, a4, a5, a6, a7, a8, a9⟩ := hx
    have := a5.2.1
    have := a5.2.2.1
    rw [← hQ]
    exact ⟨a1, c, a7, a8, fun k hk => (a9 k hk).fr (by omega) (fun _ _ _ => rfl) (fun _ _ _ => rfl)⟩
  · refine wp_bnd_i (clause_ok hq hx h9) (fun r y hy => wp_if_i (fun e => ?_) (fun e => wp_some_i ?_))
    · obtain ⟨y1, y2⟩ := hy.2.2 e
      have y3 : TK_ y := by
        obtain ⟨i, c, a1, a2, a3, a4, a5, a6, a7, a8, a9⟩ := y1
        exact a5
      have y4 := y3.2.1
      have y5 := y3.2.2.1
      dsimp only at y2
      exact hr y y1 (by omega)
    · rw [← hQ]
      exact ⟨hy.1, hy.2.1⟩
/-- every text's laws run -/
def VA_ (s : Sg) : Prop := ∀ q, q < 4 → VT_ (gi s 30) q 302
theorem i10_cf {s t : Sg} {q : Nat} (h : I10_ s) (c : CF_ q s t) (v : VT_ (gi t 30) q 302) : I10_ t := by
  intro k j
  by_cases h27 : k = 27
  · subst h27
    by_cases hj : j < 7 ∨ 21 < j
    · rw [c.2.1 j hj]; exact h 27 j
    · unfold Bd10_
      split <;> first | omega | exact trivial | (split <;> first | omega | exact trivial)
  by_cases h30 : k = 30
  · subst h30
    intro hj
    by_cases hx : j < 680 * q ∨ 680 * q + 680 ≤ j
    · rw [c.2.2.2 j hx]; exact h 30 j hj
    · have : j = 680 * q := by omega
      subst this
      obtain ⟨n, a, b, _⟩ := v
      rw [a]; omega
  by_cases h32 : k = 32
  · subst h32; exact trivial
  · rw [c.1 k h27 h30 h32]; exact h k j
/-- from s to t: the limits and the texts hold, the class's cells and all references are as they were -/
def X10_ (s t : Sg) : Prop := I10_ t ∧ (∀ k, k < 27 ∨ 48 ≤ k → gi t k = gi s k) ∧ t.2.2 = s.2.2 ∧ VA_ t
theorem N10_.x {s t : Sg} (h : N10_ s t) (hv : VA_ s) : X10_ s t := ⟨h.1, h.2.1, h.2.2.1, fun q hq => by rw [h.2.2.2]; exact hv q hq⟩
theorem text_ok {s : Sg} (h : I10_ s) (hv : VA_ s) : wp_ (fX10_text s) (fun p => X10_ s p.2) := by
  generalize hQ : (fun p : Int32 × Sg => X10_ s p.2) = Q
  have L4 : (4 : Int32).toInt = 4 := rfl
  have L1 : (1 : Int32).toInt = 1 := rfl
  have b7 : 0 ≤ (gi s 28 7).toInt ∧ (gi s 28 7).toInt ≤ 4 := (h 28 7).2.1 rfl
  have b4 : 0 ≤ (gi s 27 4).toInt ∧ (gi s 27 4).toInt ≤ 300 := h 27 4
  unfold fX10_text
  rw [ixl_7]
  refine wp_if_i (fun _ => wp_some_i (by rw [← hQ]; exact (N10_.rf h).x hv)) (fun h4 => ?_)
  have h4' := ne_ti h4
  obtain ⟨q, hq⟩ : ∃ q : Nat, (gi s 28 7).toInt = (q : Int) := ⟨(gi s 28 7).toInt.toNat, by omega⟩
  refine wp_bnd_i (readText_ok (q := q) (by omega) hq b4) (fun r t ht => ?_)
  obtain ⟨c, v⟩ := ht
  dsimp only at c v
  have it := i10_cf h c v
  have va : VA_ t := fun q' hq' => by
    by_cases e : q' = q
    · subst e; exact v
    · exact (hv q' hq').fr (Nat.le_refl _) (fun x a b => c.2.2.2 x (by omega))
  have xt : ∀ k, k < 27 ∨ 48 ≤ k → gi t k = gi s k := fun k hk => c.1 k (by omega) (by omega) (by omega)
  have t7 : gi t 28 7 = gi s 28 7 := by rw [c.1 28 (by decide) (by decide) (by decide)]
  have step : ∀ {u : Sg} {k j : Nat} {w : Int32}, X10_ s u → 27 ≤ k → k < 48 → k ≠ 30 → Bd10_ k j w.toInt → X10_ s (si u k j w) := fun {u k j w} hu h1 h2 h3 hb => ⟨hu.1.si hb, fun k' hk' => by rw [gsi_f (by omega)]; exact hu.2.1 k' hk', hu.2.2.1, fun q' hq' => by rw [gsi_f (fun e => h3 e.symm)]; exact hu.2.2.2 q' hq'⟩
  have x0 : X10_ s t := ⟨it, xt, c.2.2.1, va⟩
  refine wp_bv_i (fun t3 e3 => ?_)
  have x3 : X10_ s t3 := by rw [e3]; exact step x0 (by decide) (by decide) (by decide) trivial
  have t37 : gi t3 28 7 = gi s 28 7 := by rw [e3, gsi_k (by decide)]; exact t7
  refine wp_jn (fun k => ∀ y, wp_ (k y) Q) ?_ (fun k5 hk5 => wp_if_i (fun _ => hk5 _) (fun _ => hk5 _))
  intro y
  refine wp_bv_i (fun t6 e6 => wp_bv_i (fun t7' e7 => ?_))
  have x7 : X10_ s t7' := by
    rw [e7, e6]
    exact step (step x3 (by decide) (by decide) (by decide) trivial) (by decide) (by decide) (by decide) (show 0 ≤ (0 : Int32).toInt ∧ (0 : Int32).toInt ≤ 300 by decide +kernel)
  have t77 : gi t7' 28 7 = gi s 28 7 := by rw [e7, gsi_k (by decide), e6, gsi_k (by decide)]; exact t37
  refine wp_if_i (fun _ => wp_bv_i (fun t8 e8 => wp_some_i ?_)) (fun _ => wp_some_i (by rw [← hQ]; exact x7))
  rw [← hQ]
  show X10_ s t8
  have ea := ti_add (x := gi s 28 7) (y := 1) (by omega) (by omega)
  rw [e8, t77]
  refine step x7 (by decide) (by decide) (by decide) ⟨by omega, fun _ => by rw [ea]; omega, by omega, by omega, by omega, by omega⟩
