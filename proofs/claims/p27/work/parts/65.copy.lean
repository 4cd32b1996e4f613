theorem H9_.sa {s σ : Sg} (h : H9_ s σ) {k : Nat} {f : Nat → Int32} (hk : k < 27 ∨ 48 ≤ k) (hb : ∀ j, Bd9_ k j (f j).toInt) : H9_ s (sa σ k f) := by
  refine ⟨⟨fun k' j' => ?_, h.1.2.1, h.1.2.2⟩, fun k' a b => ?_⟩
  · rw [gi_sa]
    by_cases e : k' = k
    · rw [if_pos e, e]; exact hb j'
    · rw [if_neg e]; exact h.1.1 k' j'
  · rw [gi_sa, if_neg (by omega)]; exact h.2 k' a b
theorem tX6_copyFrom_i (s0 : Sg) (h0 : I9_ s0) : wp_ (fX6_copyFrom_i s0) (fun q => H9_ s0 q) := by
  have L0_ := li_0
  have hFU_ : FU = 1000000000 := rfl
  generalize hQ : (fun q : Sg => H9_ s0 q) = Q
  unfold fX6_copyFrom_i
  refine wp_bnv_i (tX8_copyWorld_i s0 h0) (fun s_1 p1 => ?_)
  have g1 : H9_ s0 s_1 := p1.h
  apply wp_bv_i
  intro s_2 e2
  have g2 : H9_ s0 s_2 := by rw [e2]; exact g1.si (by decide) (g1.1.1 1 6)
  apply wp_bv_i
  intro s_3 e3
  have g3 : H9_ s0 s_3 := by rw [e3]; exact g2.sa (by decide) (fun _ => trivial)
  apply wp_bv_i
  intro s_4 e4
  have g4 : H9_ s0 s_4 := by rw [e4]; exact g3.sa (by decide) (fun _ => trivial)
  apply wp_bv_i
  intro s_5 e5
  have g5 : H9_ s0 s_5 := by rw [e5]; exact g4.si (by decide) (g4.1.1 1 9)
  apply wp_bv_i
  intro s_6 e6
  have g6 : H9_ s0 s_6 := by rw [e6]; exact g5.si (by decide) (g5.1.1 1 10)
  apply wp_bv_i
  intro s_7 e7
  have g7 : H9_ s0 s_7 := by rw [e7]; exact g6.si (by decide) (g6.1.1 1 11)
  apply wp_bv_i
  intro s_8 e8
  have g8 : H9_ s0 s_8 := by rw [e8]; exact g7.si (by decide) (g7.1.1 1 12)
  apply wp_bv_i
  intro s_9 e9
  have g9 : H9_ s0 s_9 := by rw [e9]; exact g8.sr (Or.inl g8.1.2.1)
  apply wp_bv_i
  intro s_10 e10
  have g10 : H9_ s0 s_10 := by rw [e10]; exact g9.sa (by decide) (fun _ => trivial)
  apply wp_bv_i
  intro s_11 e11
  have g11 : H9_ s0 s_11 := by rw [e11]; exact g10.si (by decide) (g10.1.1 1 15)
  refine wp_jn (fun k_13 => ∀ (s_12 : Sg), G9_ s_11 s_12 → wp_ (k_13 s_12) Q) ?_ (fun k_13 hk_13 => ?_)
  · intro s_12 g12
    try dsimp only
    apply wp_bv_i
    intro s_14 e14
    exact wp_some_i (by subst hQ; rw [e14]; exact (g11.tr g12.h).si (by decide) (g12.1.1 1 17))
  exact lX6_copyFrom_i_108_b s_11 g11.1 k_13 hk_13 FU 0 s_11 (G9_.rf g11.1) (by omega) (by omega)
theorem tX6_copyFrom_b (s0 : Sg) (h0 : I9_ s0) : wp_ (fX6_copyFrom_b s0) (fun q => H9_ s0 q) := by
  have L0_ := li_0
  have hFU_ : FU = 1000000000 := rfl
  generalize hQ : (fun q : Sg => H9_ s0 q) = Q
  unfold fX6_copyFrom_b
  refine wp_bnv_i (tX8_copyWorld_b s0 h0) (fun s_1 p1 => ?_)
  have g1 : H9_ s0 s_1 := p1.h
  apply wp_bv_i
  intro s_2 e2
  have g2 : H9_ s0 s_2 := by rw [e2]; exact g1.si (by decide) (g1.1.1 2 6)
  apply wp_bv_i
  intro s_3 e3
  have g3 : H9_ s0 s_3 := by rw [e3]; exact g2.sa (by decide) (fun _ => trivial)
  apply wp_bv_i
  intro s_4 e4
  have g4 : H9_ s0 s_4 := by rw [e4]; exact g3.sa (by decide) (fun _ => trivial)
  apply wp_bv_i
  intro s_5 e5
  have g5 : H9_ s0 s_5 := by rw [e5]; exact g4.si (by decide) (g4.1.1 2 9)
  apply wp_bv_i
  intro s_6 e6
  have g6 : H9_ s0 s_6 := by rw [e6]; exact g5.si (by decide) (g5.1.1 2 10)
  apply wp_bv_i
  intro s_7 e7
  have g7 : H9_ s0 s_7 := by rw [e7]; exact g6.si (by decide) (g6.1.1 2 11)
  apply wp_bv_i
  intro s_8 e8
  have g8 : H9_ s0 s_8 := by rw [e8]; exact g7.si (by decide) (g7.1.1 2 12)
  apply wp_bv_i
  intro s_9 e9
  have g9 : H9_ s0 s_9 := by rw [e9]; exact g8.sr (Or.inl g8.1.2.2)
  apply wp_bv_i
  intro s_10 e10
  have g10 : H9_ s0 s_10 := by rw [e10]; exact g9.sa (by decide) (fun _ => trivial)
  apply wp_bv_i
  intro s_11 e11
  have g11 : H9_ s0 s_11 := by rw [e11]; exact g10.si (by decide) (g10.1.1 2 15)
  refine wp_jn (fun k_13 => ∀ (s_12 : Sg), G9_ s_11 s_12 → wp_ (k_13 s_12) Q) ?_ (fun k_13 hk_13 => ?_)
  · intro s_12 g12
    try dsimp only
    apply wp_bv_i
    intro s_14 e14
    exact wp_some_i (by subst hQ; rw [e14]; exact (g11.tr g12.h).si (by decide) (g12.1.1 2 17))
  exact lX6_copyFrom_b_108_b s_11 g11.1 k_13 hk_13 FU 0 s_11 (G9_.rf g11.1) (by omega) (by omega)
theorem tX9_image (s0 : Sg) (h0 : I9_ s0) : wp_ (fX9_image s0) (fun q => H9_ s0 q.2) := by
  unfold fX9_image
  exact wp_bnv_i (tX6_copyFrom_i s0 h0) (fun s_1 p => wp_some_i p)
theorem tX9_back (s0 : Sg) (h0 : I9_ s0) : wp_ (fX9_back s0) (fun q => H9_ s0 q.2) := by
  unfold fX9_back
  exact wp_bnv_i (tX6_copyFrom_b s0 h0) (fun s_1 p => wp_some_i p)
