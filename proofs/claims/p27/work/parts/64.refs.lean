/-! the calls that write references: by, text, image, back -/
theorem H9_.tr {s t u : Sg} (h1 : H9_ s t) (h2 : H9_ t u) : H9_ s u := ⟨h2.1, fun k a b => by rw [h2.2 k a b, h1.2 k a b]⟩
theorem H9_.sr {s σ : Sg} (h : H9_ s σ) {k j v : Nat} (hv : okr_ v ∨ (k ≠ 1 ∧ k ≠ 2)) : H9_ s (sr σ k j v) := ⟨h.1.sr hv, fun k' a b => by rw [gi_sr]; exact h.2 k' a b⟩
theorem H9_.si {s σ : Sg} (h : H9_ s σ) {k j : Nat} {v : Int32} (hk : k < 27 ∨ 48 ≤ k) (hb : Bd9_ k j v.toInt) : H9_ s (si σ k j v) := ⟨h.1.si hb, fun k' a b => by rw [gsi_f (by omega)]; exact h.2 k' a b⟩
theorem tX9_by (a1 : Int32) (s0 : Sg) (h0 : I9_ s0) : wp_ (fX9_by a1 s0) (fun q => H9_ s0 q.2) := by
  have M1_ := li_m1
  generalize hQ : (fun q : Bool × Sg => H9_ s0 q.2) = Q
  unfold fX9_by
  refine wp_jn (fun k_2 => ∀ (s_1 : Sg), H9_ s0 s_1 → (a1.toInt = -1 ∨ (0 ≤ a1.toInt ∧ a1.toInt ≤ 3)) → wp_ (k_2 s_1) Q) ?_ (fun k_2 hk_2 => ?_)
  · intro s_1 g1 ha
    try dsimp only
    apply wp_bv_i
    intro s_3 e3
    have g3 : H9_ s0 s_3 := by rw [e3]; exact g1.si (by decide) trivial
    refine wp_jn (fun k_5 => ∀ (y : Nat), okr_ y → wp_ (k_5 y) Q) ?_ (fun k_5 hk_5 => ?_)
    · intro y hy
      try dsimp only
      apply wp_bv_i
      intro s_6 e6
      exact wp_some_i (by subst hQ; show H9_ s0 s_6; rw [e6]; exact g3.sr (Or.inl hy))
    refine wp_if_i (fun h => ?_) (fun h => ?_)
    · exact hk_5 0 (Or.inl rfl)
    · have hj := ne_ti h
      have hr : 0 ≤ a1.toInt ∧ a1.toInt ≤ 3 := ha.resolve_left (by omega)
      refine wp_chk_i (inb_ti (by omega) (by omega)) ?_
      apply wp_bv_i
      intro q_8 e8
      have hq : isScr q_8 = true := by rw [e8]; exact scr_of (by omega) (by omega)
      exact wp_chk_i hq (hk_5 q_8 (Or.inr hq))
  refine wp_if_i (fun h => ?_) (fun h => ?_)
  · have hj := eq_ti h
    exact hk_2 s0 (G9_.rf h0).h (by omega)
  · refine wp_bnd_i (tX9_isText a1 s0 h0) (fun r_10 s_11 p => ?_)
    have e11 : s_11 = s0 := p.1
    have f11 := p.2
    dsimp only at f11
    refine wp_if_i (fun h2 => ?_) (fun h2 => ?_)
    · exact wp_some_i (by subst hQ; show H9_ s0 s_11; rw [e11]; exact (G9_.rf h0).h)
    · have hj := ne_ti h2
      have L0_ := li_0
      exact hk_2 s_11 (by rw [e11]; exact (G9_.rf h0).h) (by omega)
theorem tX2_read (a1 : Nat) (s0 : Sg) (h0 : I9_ s0) (hq : isScr a1 = true) : wp_ (fX2_read a1 s0) (fun q => H9_ s0 q.2 ∧ gi q.2 1 = gi s0 1) := by
  have L0_ := li_0
  have M1_ := li_m1
  have hFU_ : FU = 1000000000 := rfl
  generalize hQ : (fun q : Bool × Sg => H9_ s0 q.2 ∧ gi q.2 1 = gi s0 1) = Q
  unfold fX2_read
  apply wp_bv_i
  intro s_1 e1
  have I1 : I9_ s_1 := by rw [e1]; exact h0.sr (Or.inr (by decide))
  have er : gr s_1 4 3 = a1 := by rw [e1, gr_sr, if_pos rfl]; simp [va_up]
  have hS : isScr (gr s_1 4 3) = true := by rw [er]; exact hq
  have H1 : ∀ t, R9_ s_1 t → H9_ s0 t ∧ gi t 1 = gi s0 1 := fun t ht => ⟨⟨ht.1, fun k a b => by rw [ht.2.1 k a b, e1, gi_sr]⟩, by rw [ht.2.2.2, e1, gi_sr]⟩
  apply wp_bv_i
  intro q_2 e2
  have hq2 : isScr q_2 = true := by rw [e2]; exact hS
  refine wp_chk_i hq2 ?_
  refine wp_bnv_i (tX5_clear q_2 s_1 I1 hq2) (fun s_4 p4 => ?_)
  apply wp_bv_i
  intro s_5 e5
  have g5 : R9_ s_1 s_5 := by rw [e5]; exact R9_.si p4 (by decide) trivial
  apply wp_bv_i
  intro s_6 e6
  have g6 : R9_ s_1 s_6 := by rw [e6]; exact R9_.si g5 (by decide) trivial
  refine wp_bnv_i (tX7_begin s_6 g6.1) (fun s_7 p7 => ?_)
  have g7 := g6.tr p7
  refine wp_jn (fun k_9 => ∀ (s_8 : Sg), R9_ s_1 s_8 → wp_ (k_9 s_8) Q) ?_ (fun k_9 hk_9 => ?_)
  · intro s_8 g8
    try dsimp only
    refine wp_if_i (fun h => ?_) (fun h => ?_)
    · exact wp_some_i (by subst hQ; exact H1 s_8 g8)
    · exact wp_some_i (by subst hQ; exact H1 s_8 g8)
  exact lX2_read_31_b s_1 I1 k_9 hk_9 hS FU 0 s_7 g7 (by omega) (by omega)
theorem tX9_text (s0 : Sg) (h0 : I9_ s0) : wp_ (fX9_text s0) (fun q => H9_ s0 q.2) := by
  have L0_ := li_0
  have L1_ := li_1
  have L4_ := li_4
  generalize hQ : (fun q : Int32 × Sg => H9_ s0 q.2) = Q
  unfold fX9_text
  have b1 : 0 ≤ (gi s0 1 11).toInt ∧ (gi s0 1 11).toInt ≤ 4 := h0.1 1 11
  refine wp_if_i (fun h => ?_) (fun h => ?_)
  · have hj := lt_ti h
    refine wp_chk_i (inb_ti (by omega) (by omega)) ?_
    apply wp_bv_i
    intro q_2 e2
    have hq : isScr q_2 = true := by rw [e2]; exact scr_of (by omega) (by omega)
    refine wp_chk_i hq ?_
    refine wp_bnd_i (tX2_read q_2 s0 h0 hq) (fun r_4 s_5 p5 => ?_)
    have g5 : H9_ s0 s_5 := p5.1
    have c5 : gi s_5 1 = gi s0 1 := p5.2
    apply wp_bv_i
    intro s_6 e6
    have g6 : H9_ s0 s_6 := by rw [e6]; exact g5.si (by decide) (show 0 ≤ (0 : Int32).toInt ∧ (0 : Int32).toInt ≤ 300 by omega)
    have c6 : gi s_6 1 11 = gi s0 1 11 := by rw [e6, gsi_k (by decide), c5]
    refine wp_if_i (fun h2 => ?_) (fun h2 => ?_)
    · exact wp_some_i (by subst hQ; exact g6)
    · apply wp_bv_i
      intro s_7 e7
      exact wp_some_i (by
        subst hQ
        show H9_ s0 s_7
        rw [e7]
        refine g6.si (by decide) (show 0 ≤ (gi s_6 1 11 + 1).toInt ∧ (gi s_6 1 11 + 1).toInt ≤ 4 from ?_)
        rw [c6, ti_add (by omega) (by omega)]
        omega)
  · exact wp_some_i (by subst hQ; exact (G9_.rf h0).h)
