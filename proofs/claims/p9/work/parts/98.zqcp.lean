theorem cg_i (s : Sg) : pf_ (fX6_copyFrom_i s) (fun t => gi t 2 11 = gi s 1 11 ∧ gi t 1 11 = gi s 1 11) := by
  generalize hQ : (fun t : Sg => gi t 2 11 = gi s 1 11 ∧ gi t 1 11 = gi s 1 11) = Q
  unfold fX6_copyFrom_i
  refine pf_bnv (cw_i s) (fun s1 h1 => ?_)
  have a1 : gi s1 1 11 = gi s 1 11 := h1 _ 11 (Or.inr (by decide))
  refine pf_bv (fun s2 e2 => ?_)
  have a2 : gi s2 1 11 = gi s 1 11 := by rw [e2, gsi_k (by decide)]; exact a1
  clear e2
  refine pf_bv (fun s3 e3 => ?_)
  have a3 : gi s3 1 11 = gi s 1 11 := by rw [e3, gsa_k (by decide)]; exact a2
  clear e3
  refine pf_bv (fun s4 e4 => ?_)
  have a4 : gi s4 1 11 = gi s 1 11 := by rw [e4, gsa_k (by decide)]; exact a3
  clear e4
  refine pf_bv (fun s5 e5 => ?_)
  have a5 : gi s5 1 11 = gi s 1 11 := by rw [e5, gsi_k (by decide)]; exact a4
  clear e5
  refine pf_bv (fun s6 e6 => ?_)
  have a6 : gi s6 1 11 = gi s 1 11 := by rw [e6, gsi_k (by decide)]; exact a5
  clear e6
  refine pf_bv (fun s7 e7 => ?_)
  have a7 : gi s7 1 11 = gi s 1 11 := by rw [e7, gsi_k (by decide)]; exact a6
  have t7 : gi s7 2 11 = gi s 1 11 := by rw [e7, gsi_eq]; exact a6
  clear e7
  refine pf_bv (fun s8 e8 => ?_)
  have a8 : gi s8 1 11 = gi s 1 11 := by rw [e8, gsi_k (by decide)]; exact a7
  have t8 : gi s8 2 11 = gi s 1 11 := by rw [e8, gsi_ne (by decide)]; exact t7
  clear e8
  refine pf_bv (fun s9 e9 => ?_)
  have a9 : gi s9 1 11 = gi s 1 11 := by rw [e9, gi_sr]; exact a8
  have t9 : gi s9 2 11 = gi s 1 11 := by rw [e9, gi_sr]; exact t8
  clear e9
  refine pf_bv (fun s10 e10 => ?_)
  have a10 : gi s10 1 11 = gi s 1 11 := by rw [e10, gsa_k (by decide)]; exact a9
  have t10 : gi s10 2 11 = gi s 1 11 := by rw [e10, gsa_k (by decide)]; exact t9
  clear e10
  refine pf_bv (fun s11 e11 => ?_)
  have a11 : gi s11 1 11 = gi s 1 11 := by rw [e11, gsi_k (by decide)]; exact a10
  have t11 : gi s11 2 11 = gi s 1 11 := by rw [e11, gsi_ne (by decide)]; exact t10
  clear e11
  refine pf_jn (fun k => ∀ x, (∀ k j, k < 48 → gi x k j = gi s11 k j) → pf_ (k x) Q) ?_ (fun k13 hk13 => ?_)
  · intro x hx
    try dsimp only
    refine pf_bv (fun y ey => pf_some ?_)
    rw [← hQ]
    exact ⟨by rw [ey, gsi_ne (by decide), hx _ _ (by decide)]; exact t11, by rw [ey, gsi_k (by decide), hx _ _ (by decide)]; exact a11⟩
  · refine pf_lo2 (fun (_ : Int32) x => ∀ k j, k < 48 → gi x k j = gi s11 k j) ?_ FU 0 s11 (fun _ _ _ => rfl)
    intro rec x y hy hr
    unfold fX6_copyFrom_i_108_b
    refine pf_if (hk13 y hy) (pf_chk (fun _ => pf_bv (fun qa _ => pf_chk (fun ha => pf_bv (fun qb _ => pf_chk (fun hb => ?_))))))
    have ca := rd_rng ha
    refine pf_bnv (yl_fX3_copyFrom _ _ y (by omega)) (fun z hz => pf_bv (fun v _ => hr v z (fun k j hk => by rw [hz k j hk]; exact hy k j hk)))
theorem image9_w (s : Sg) : pf_ (fX9_image s) (fun q => gi q.2 2 11 = gi s 1 11 ∧ gi q.2 1 11 = gi s 1 11) := by
  unfold fX9_image
  exact pf_bnv (cg_i s) (fun t ht => pf_some ht)
theorem cg_b (s : Sg) : pf_ (fX6_copyFrom_b s) (fun t => gi t 1 11 = gi s 2 11 ∧ gi t 2 11 = gi s 2 11) := by
  generalize hQ : (fun t : Sg => gi t 1 11 = gi s 2 11 ∧ gi t 2 11 = gi s 2 11) = Q
  unfold fX6_copyFrom_b
  refine pf_bnv (cw_b s) (fun s1 h1 => ?_)
  have a1 : gi s1 2 11 = gi s 2 11 := h1 _ 11 (Or.inr (by decide))
  refine pf_bv (fun s2 e2 => ?_)
  have a2 : gi s2 2 11 = gi s 2 11 := by rw [e2, gsi_k (by decide)]; exact a1
  clear e2
  refine pf_bv (fun s3 e3 => ?_)
  have a3 : gi s3 2 11 = gi s 2 11 := by rw [e3, gsa_k (by decide)]; exact a2
  clear e3
  refine pf_bv (fun s4 e4 => ?_)
  have a4 : gi s4 2 11 = gi s 2 11 := by rw [e4, gsa_k (by decide)]; exact a3
  clear e4
  refine pf_bv (fun s5 e5 => ?_)
  have a5 : gi s5 2 11 = gi s 2 11 := by rw [e5, gsi_k (by decide)]; exact a4
  clear e5
  refine pf_bv (fun s6 e6 => ?_)
  have a6 : gi s6 2 11 = gi s 2 11 := by rw [e6, gsi_k (by decide)]; exact a5
  clear e6
  refine pf_bv (fun s7 e7 => ?_)
  have a7 : gi s7 2 11 = gi s 2 11 := by rw [e7, gsi_k (by decide)]; exact a6
  have t7 : gi s7 1 11 = gi s 2 11 := by rw [e7, gsi_eq]; exact a6
  clear e7
  refine pf_bv (fun s8 e8 => ?_)
  have a8 : gi s8 2 11 = gi s 2 11 := by rw [e8, gsi_k (by decide)]; exact a7
  have t8 : gi s8 1 11 = gi s 2 11 := by rw [e8, gsi_ne (by decide)]; exact t7
  clear e8
  refine pf_bv (fun s9 e9 => ?_)
  have a9 : gi s9 2 11 = gi s 2 11 := by rw [e9, gi_sr]; exact a8
  have t9 : gi s9 1 11 = gi s 2 11 := by rw [e9, gi_sr]; exact t8
  clear e9
  refine pf_bv (fun s10 e10 => ?_)
  have a10 : gi s10 2 11 = gi s 2 11 := by rw [e10, gsa_k (by decide)]; exact a9
  have t10 : gi s10 1 11 = gi s 2 11 := by rw [e10, gsa_k (by decide)]; exact t9
  clear e10
  refine pf_bv (fun s11 e11 => ?_)
  have a11 : gi s11 2 11 = gi s 2 11 := by rw [e11, gsi_k (by decide)]; exact a10
  have t11 : gi s11 1 11 = gi s 2 11 := by rw [e11, gsi_ne (by decide)]; exact t10
  clear e11
  refine pf_jn (fun k => ∀ x, (∀ k j, k < 48 → gi x k j = gi s11 k j) → pf_ (k x) Q) ?_ (fun k13 hk13 => ?_)
  · intro x hx
    try dsimp only
    refine pf_bv (fun y ey => pf_some ?_)
    rw [← hQ]
    exact ⟨by rw [ey, gsi_ne (by decide), hx _ _ (by decide)]; exact t11, by rw [ey, gsi_k (by decide), hx _ _ (by decide)]; exact a11⟩
  · refine pf_lo2 (fun (_ : Int32) x => ∀ k j, k < 48 → gi x k j = gi s11 k j) ?_ FU 0 s11 (fun _ _ _ => rfl)
    intro rec x y hy hr
    unfold fX6_copyFrom_b_108_b
    refine pf_if (hk13 y hy) (pf_chk (fun _ => pf_bv (fun qa _ => pf_chk (fun ha => pf_bv (fun qb _ => pf_chk (fun hb => ?_))))))
    have ca := rd_rng ha
    refine pf_bnv (yl_fX3_copyFrom _ _ y (by omega)) (fun z hz => pf_bv (fun v _ => hr v z (fun k j hk => by rw [hz k j hk]; exact hy k j hk)))
theorem back9_w (s : Sg) : pf_ (fX9_back s) (fun q => gi q.2 1 11 = gi s 2 11 ∧ gi q.2 2 11 = gi s 2 11) := by
  unfold fX9_back
  exact pf_bnv (cg_b s) (fun t ht => pf_some ht)
