theorem gsa_k {σ : Sg} {k k2 j : Nat} {f : Nat → Int32} (h : k2 ≠ k) : gi (sa σ k f) k2 j = gi σ k2 j := by rw [gi_sa, if_neg h]
theorem gsa_e {σ : Sg} {k : Nat} {f : Nat → Int32} : gi (sa σ k f) k = f := by rw [gi_sa, if_pos rfl]
theorem cpy12 {f g : Nat → Int32} {i : Nat} (h : i < 12) : va_cpy f g (ix 0) (ix 0) (ix 12) i = f i := by
  have e0 : ix 0 = 0 := rfl
  have e12 : ix 12 = 12 := rfl
  unfold va_cpy
  rw [e0, e12, if_pos (by omega)]
  congr 1
  omega
theorem yl_cw {s t : Sg} {q : Nat} (hq : 48 ≤ q) {j : Nat} {v : Int32} (h : ∀ k i, k < 48 → gi t k i = gi s k i) : ∀ k i, k < 48 → gi (si t q j v) k i = gi s k i := fun k i hk => by rw [gsi_k (by omega)]; exact h k i hk
theorem yl_fX3_copyFrom (q a : Nat) (s : Sg) (hq : 48 ≤ q) : pf_ (fX3_copyFrom q a s) (fun t => ∀ k j, k < 48 → gi t k j = gi s k j) := by
  unfold fX3_copyFrom
  refine pf_bnv (P := fun t => ∀ k j, k < 48 → gi t k j = gi s k j) ?_ (fun s1 h1 => ?_)
  · unfold fX8_copyWorld_q
    refine pf_bv (fun s1 e1 => pf_bv (fun s2 e2 => pf_bv (fun s3 e3 => pf_bv (fun s4 e4 => pf_bv (fun s5 e5 => pf_bv (fun s6 e6 => pf_some ?_))))))
    rw [e6, e5, e4, e3, e2, e1]
    exact yl_cw hq (yl_cw hq (yl_cw hq (yl_cw hq (yl_cw hq (yl_cw hq (fun _ _ _ => rfl))))))
  · refine pf_bv (fun s2 e2 => pf_bv (fun s3 e3 => pf_bv (fun s4 e4 => pf_bv (fun s5 e5 => pf_some ?_))))
    rw [e5, e4, e3, e2]
    exact yl_cw hq (yl_cw hq (yl_cw hq (yl_cw hq h1)))
theorem cw_i (s : Sg) : pf_ (fX8_copyWorld_i s) (fun t => ∀ k j, (k ≠ 2 ∨ 5 < j) → gi t k j = gi s k j) := by
  unfold fX8_copyWorld_i
  refine pf_bv (fun s1 e1 => pf_bv (fun s2 e2 => pf_bv (fun s3 e3 => pf_bv (fun s4 e4 => pf_bv (fun s5 e5 => pf_bv (fun s6 e6 => pf_some ?_))))))
  intro k j h
  by_cases hk : k = 2
  · subst hk
    have hj : 5 < j := by omega
    rw [e6, gsi_ne (by omega), e5, gsi_ne (by omega), e4, gsi_ne (by omega), e3, gsi_ne (by omega), e2, gsi_ne (by omega), e1, gsi_ne (by omega)]
  · rw [e6, gsi_k hk, e5, gsi_k hk, e4, gsi_k hk, e3, gsi_k hk, e2, gsi_k hk, e1, gsi_k hk]
theorem cf_i (s : Sg) : pf_ (fX6_copyFrom_i s) (fun t => gi t 2 6 = gi s 1 6 ∧ gi t 2 17 = gi s 1 17 ∧ (∀ i, i < 12 → gi t 13 i = gi s 9 i) ∧ gi t 1 6 = gi s 1 6 ∧ gi t 1 17 = gi s 1 17 ∧ ∀ i, i < 12 → gi t 9 i = gi s 9 i) := by
  generalize hQ : (fun t : Sg => gi t 2 6 = gi s 1 6 ∧ gi t 2 17 = gi s 1 17 ∧ (∀ i, i < 12 → gi t 13 i = gi s 9 i) ∧ gi t 1 6 = gi s 1 6 ∧ gi t 1 17 = gi s 1 17 ∧ ∀ i, i < 12 → gi t 9 i = gi s 9 i) = Q
  unfold fX6_copyFrom_i
  refine pf_bnv (cw_i s) (fun s1 h1 => ?_)
  have a1 : ∀ j, 5 < j → gi s1 1 j = gi s 1 j := fun j hj => h1 _ j (Or.inr hj)
  have w1 : ∀ i, gi s1 9 i = gi s 9 i := fun i => h1 _ i (Or.inl (by decide))
  refine pf_bv (fun s2 e2 => ?_)
  have a2 : ∀ j, 5 < j → gi s2 1 j = gi s 1 j := fun j hj => by rw [e2, gsi_k (by decide)]; exact a1 j hj
  have w2 : ∀ i, gi s2 9 i = gi s 9 i := fun i => by rw [e2, gsi_k (by decide)]; exact w1 i
  have t2 : gi s2 2 6 = gi s 1 6 := by rw [e2, gsi_eq]; exact a1 6 (by decide)
  clear e2
  refine pf_bv (fun s3 e3 => ?_)
  have a3 : ∀ j, 5 < j → gi s3 1 j = gi s 1 j := fun j hj => by rw [e3, gsa_k (by decide)]; exact a2 j hj
  have w3 : ∀ i, gi s3 9 i = gi s 9 i := fun i => by rw [e3, gsa_k (by decide)]; exact w2 i
  have t3 : gi s3 2 6 = gi s 1 6 := by rw [e3, gsa_k (by decide)]; exact t2
  have u3 : ∀ i, i < 12 → gi s3 13 i = gi s 9 i := fun i hi => by rw [e3, gsa_e, cpy12 hi]; exact w2 i
  clear e3
  refine pf_bv (fun s4 e4 => ?_)
  have a4 : ∀ j, 5 < j → gi s4 1 j = gi s 1 j := fun j hj => by rw [e4, gsa_k (by decide)]; exact a3 j hj
  have w4 : ∀ i, gi s4 9 i = gi s 9 i := fun i => by rw [e4, gsa_k (by decide)]; exact w3 i
  have t4 : gi s4 2 6 = gi s 1 6 := by rw [e4, gsa_k (by decide)]; exact t3
  have u4 : ∀ i, i < 12 → gi s4 13 i = gi s 9 i := fun i hi => by rw [e4, gsa_k (by decide)]; exact u3 i hi
  clear e4
  refine pf_bv (fun s5 e5 => ?_)
  have a5 : ∀ j, 5 < j → gi s5 1 j = gi s 1 j := fun j hj => by rw [e5, gsi_k (by decide)]; exact a4 j hj
  have w5 : ∀ i, gi s5 9 i = gi s 9 i := fun i => by rw [e5, gsi_k (by decide)]; exact w4 i
  have t5 : gi s5 2 6 = gi s 1 6 := by rw [e5, gsi_ne (by first | decide | omega)]; exact t4
  have u5 : ∀ i, i < 12 → gi s5 13 i = gi s 9 i := fun i hi => by rw [e5, gsi_k (by decide)]; exact u4 i hi
  clear e5
  refine pf_bv (fun s6 e6 => ?_)
  have a6 : ∀ j, 5 < j → gi s6 1 j = gi s 1 j := fun j hj => by rw [e6, gsi_k (by decide)]; exact a5 j hj
  have w6 : ∀ i, gi s6 9 i = gi s 9 i := fun i => by rw [e6, gsi_k (by decide)]; exact w5 i
  have t6 : gi s6 2 6 = gi s 1 6 := by rw [e6, gsi_ne (by first | decide | omega)]; exact t5
  have u6 : ∀ i, i < 12 → gi s6 13 i = gi s 9 i := fun i hi => by rw [e6, gsi_k (by decide)]; exact u5 i hi
  clear e6
  refine pf_bv (fun s7 e7 => ?_)
  have a7 : ∀ j, 5 < j → gi s7 1 j = gi s 1 j := fun j hj => by rw [e7, gsi_k (by decide)]; exact a6 j hj
  have w7 : ∀ i, gi s7 9 i = gi s 9 i := fun i => by rw [e7, gsi_k (by decide)]; exact w6 i
  have t7 : gi s7 2 6 = gi s 1 6 := by rw [e7, gsi_ne (by first | decide | omega)]; exact t6
  have u7 : ∀ i, i < 12 → gi s7 13 i = gi s 9 i := fun i hi => by rw [e7, gsi_k (by decide)]; exact u6 i hi
  clear e7
  refine pf_bv (fun s8 e8 => ?_)
  have a8 : ∀ j, 5 < j → gi s8 1 j = gi s 1 j := fun j hj => by rw [e8, gsi_k (by decide)]; exact a7 j hj
  have w8 : ∀ i, gi s8 9 i = gi s 9 i := fun i => by rw [e8, gsi_k (by decide)]; exact w7 i
  have t8 : gi s8 2 6 = gi s 1 6 := by rw [e8, gsi_ne (by first | decide | omega)]; exact t7
  have u8 : ∀ i, i < 12 → gi s8 13 i = gi s 9 i := fun i hi => by rw [e8, gsi_k (by decide)]; exact u7 i hi
  clear e8
  refine pf_bv (fun s9 e9 => ?_)
  have a9 : ∀ j, 5 < j → gi s9 1 j = gi s 1 j := fun j hj => by rw [e9, gi_sr]; exact a8 j hj
  have w9 : ∀ i, gi s9 9 i = gi s 9 i := fun i => by rw [e9, gi_sr]; exact w8 i
  have t9 : gi s9 2 6 = gi s 1 6 := by rw [e9, gi_sr]; exact t8
  have u9 : ∀ i, i < 12 → gi s9 13 i = gi s 9 i := fun i hi => by rw [e9, gi_sr]; exact u8 i hi
  clear e9
  refine pf_bv (fun s10 e10 => ?_)
  have a10 : ∀ j, 5 < j → gi s10 1 j = gi s 1 j := fun j hj => by rw [e10, gsa_k (by decide)]; exact a9 j hj
  have w10 : ∀ i, gi s10 9 i = gi s 9 i := fun i => by rw [e10, gsa_k (by decide)]; exact w9 i
  have t10 : gi s10 2 6 = gi s 1 6 := by rw [e10, gsa_k (by decide)]; exact t9
  have u10 : ∀ i, i < 12 → gi s10 13 i = gi s 9 i := fun i hi => by rw [e10, gsa_k (by decide)]; exact u9 i hi
  clear e10
  refine pf_bv (fun s11 e11 => ?_)
  have a11 : ∀ j, 5 < j → gi s11 1 j = gi s 1 j := fun j hj => by rw [e11, gsi_k (by decide)]; exact a10 j hj
  have w11 : ∀ i, gi s11 9 i = gi s 9 i := fun i => by rw [e11, gsi_k (by decide)]; exact w10 i
  have t11 : gi s11 2 6 = gi s 1 6 := by rw [e11, gsi_ne (by first | decide | omega)]; exact t10
  have u11 : ∀ i, i < 12 → gi s11 13 i = gi s 9 i := fun i hi => by rw [e11, gsi_k (by decide)]; exact u10 i hi
  clear e11
  refine pf_jn (fun k => ∀ x, (∀ k j, k < 48 → gi x k j = gi s11 k j) → pf_ (k x) Q) ?_ (fun k13 hk13 => ?_)
  · intro x hx
    try dsimp only
    refine pf_bv (fun y ey => pf_some ?_)
    rw [← hQ]
    refine ⟨by rw [ey, gsi_ne (by decide), hx _ _ (by decide)]; exact t11, by rw [ey, gsi_eq, hx _ _ (by decide)]; exact a11 17 (by decide), fun i hi => by rw [ey, gsi_k (by decide), hx _ _ (by decide)]; exact u11 i hi, by rw [ey, gsi_k (by decide), hx _ _ (by decide)]; exact a11 6 (by decide), by rw [ey, gsi_k (by decide), hx _ _ (by decide)]; exact a11 17 (by decide), fun i hi => by rw [ey, gsi_k (by decide), hx _ _ (by decide)]; exact w11 i⟩
  · refine pf_lo2 (fun (_ : Int32) x => ∀ k j, k < 48 → gi x k j = gi s11 k j) ?_ FU 0 s11 (fun _ _ _ => rfl)
    intro rec x y hy hr
    unfold fX6_copyFrom_i_108_b
    refine pf_if (hk13 y hy) (pf_chk (fun _ => pf_bv (fun qa _ => pf_chk (fun ha => pf_bv (fun qb _ => pf_chk (fun hb => ?_))))))
    have ca := rd_rng ha
    have cb := rd_rng hb
    refine pf_bnv (yl_fX3_copyFrom _ _ y (by omega)) (fun z hz => pf_bv (fun v _ => hr v z (fun k j hk => by rw [hz k j hk]; exact hy k j hk)))
theorem image9_v (s : Sg) : pf_ (fX9_image s) (fun q => q.1 = gi s 1 6 ∧ gi q.2 2 6 = gi s 1 6 ∧ gi q.2 2 17 = gi s 1 17 ∧ (∀ i, i < 12 → gi q.2 13 i = gi s 9 i) ∧ gi q.2 1 6 = gi s 1 6 ∧ gi q.2 1 17 = gi s 1 17 ∧ ∀ i, i < 12 → gi q.2 9 i = gi s 9 i) := by
  unfold fX9_image
  refine pf_bnv (cf_i s) (fun t ht => pf_some ⟨?_, ht⟩)
  exact ht.2.2.2.1
theorem cw_b (s : Sg) : pf_ (fX8_copyWorld_b s) (fun t => ∀ k j, (k ≠ 1 ∨ 5 < j) → gi t k j = gi s k j) := by
  unfold fX8_copyWorld_b
  refine pf_bv (fun s1 e1 => pf_bv (fun s2 e2 => pf_bv (fun s3 e3 => pf_bv (fun s4 e4 => pf_bv (fun s5 e5 => pf_bv (fun s6 e6 => pf_some ?_))))))
  intro k j h
  by_cases hk : k = 1
  · subst hk
    have hj : 5 < j := by omega
    rw [e6, gsi_ne (by omega), e5, gsi_ne (by omega), e4, gsi_ne (by omega), e3, gsi_ne (by omega), e2, gsi_ne (by omega), e1, gsi_ne (by omega)]
  · rw [e6, gsi_k hk, e5, gsi_k hk, e4, gsi_k hk, e3, gsi_k hk, e2, gsi_k hk, e1, gsi_k hk]
theorem cf_b (s : Sg) : pf_ (fX6_copyFrom_b s) (fun t => gi t 1 6 = gi s 2 6 ∧ gi t 1 17 = gi s 2 17 ∧ (∀ i, i < 12 → gi t 9 i = gi s 13 i) ∧ gi t 2 6 = gi s 2 6 ∧ gi t 2 17 = gi s 2 17 ∧ ∀ i, i < 12 → gi t 13 i = gi s 13 i) := by
  generalize hQ : (fun t : Sg => gi t 1 6 = gi s 2 6 ∧ gi t 1 17 = gi s 2 17 ∧ (∀ i, i < 12 → gi t 9 i = gi s 13 i) ∧ gi t 2 6 = gi s 2 6 ∧ gi t 2 17 = gi s 2 17 ∧ ∀ i, i < 12 → gi t 13 i = gi s 13 i) = Q
  unfold fX6_copyFrom_b
  refine pf_bnv (cw_b s) (fun s1 h1 => ?_)
  have a1 : ∀ j, 5 < j → gi s1 2 j = gi s 2 j := fun j hj => h1 _ j (Or.inr hj)
  have w1 : ∀ i, gi s1 13 i = gi s 13 i := fun i => h1 _ i (Or.inl (by decide))
  refine pf_bv (fun s2 e2 => ?_)
  have a2 : ∀ j, 5 < j → gi s2 2 j = gi s 2 j := fun j hj => by rw [e2, gsi_k (by decide)]; exact a1 j hj
  have w2 : ∀ i, gi s2 13 i = gi s 13 i := fun i => by rw [e2, gsi_k (by decide)]; exact w1 i
  have t2 : gi s2 1 6 = gi s 2 6 := by rw [e2, gsi_eq]; exact a1 6 (by decide)
  clear e2
  refine pf_bv (fun s3 e3 => ?_)
  have a3 : ∀ j, 5 < j → gi s3 2 j = gi s 2 j := fun j hj => by rw [e3, gsa_k (by decide)]; exact a2 j hj
  have w3 : ∀ i, gi s3 13 i = gi s 13 i := fun i => by rw [e3, gsa_k (by decide)]; exact w2 i
  have t3 : gi s3 1 6 = gi s 2 6 := by rw [e3, gsa_k (by decide)]; exact t2
  have u3 : ∀ i, i < 12 → gi s3 9 i = gi s 13 i := fun i hi => by rw [e3, gsa_e, cpy12 hi]; exact w2 i
  clear e3
  refine pf_bv (fun s4 e4 => ?_)
  have a4 : ∀ j, 5 < j → gi s4 2 j = gi s 2 j := fun j hj => by rw [e4, gsa_k (by decide)]; exact a3 j hj
  have w4 : ∀ i, gi s4 13 i = gi s 13 i := fun i => by rw [e4, gsa_k (by decide)]; exact w3 i
  have t4 : gi s4 1 6 = gi s 2 6 := by rw [e4, gsa_k (by decide)]; exact t3
  have u4 : ∀ i, i < 12 → gi s4 9 i = gi s 13 i := fun i hi => by rw [e4, gsa_k (by decide)]; exact u3 i hi
  clear e4
  refine pf_bv (fun s5 e5 => ?_)
  have a5 : ∀ j, 5 < j → gi s5 2 j = gi s 2 j := fun j hj => by rw [e5, gsi_k (by decide)]; exact a4 j hj
  have w5 : ∀ i, gi s5 13 i = gi s 13 i := fun i => by rw [e5, gsi_k (by decide)]; exact w4 i
  have t5 : gi s5 1 6 = gi s 2 6 := by rw [e5, gsi_ne (by first | decide | omega)]; exact t4
  have u5 : ∀ i, i < 12 → gi s5 9 i = gi s 13 i := fun i hi => by rw [e5, gsi_k (by decide)]; exact u4 i hi
  clear e5
  refine pf_bv (fun s6 e6 => ?_)
  have a6 : ∀ j, 5 < j → gi s6 2 j = gi s 2 j := fun j hj => by rw [e6, gsi_k (by decide)]; exact a5 j hj
  have w6 : ∀ i, gi s6 13 i = gi s 13 i := fun i => by rw [e6, gsi_k (by decide)]; exact w5 i
  have t6 : gi s6 1 6 = gi s 2 6 := by rw [e6, gsi_ne (by first | decide | omega)]; exact t5
  have u6 : ∀ i, i < 12 → gi s6 9 i = gi s 13 i := fun i hi => by rw [e6, gsi_k (by decide)]; exact u5 i hi
  clear e6
  refine pf_bv (fun s7 e7 => ?_)
  have a7 : ∀ j, 5 < j → gi s7 2 j = gi s 2 j := fun j hj => by rw [e7, gsi_k (by decide)]; exact a6 j hj
  have w7 : ∀ i, gi s7 13 i = gi s 13 i := fun i => by rw [e7, gsi_k (by decide)]; exact w6 i
  have t7 : gi s7 1 6 = gi s 2 6 := by rw [e7, gsi_ne (by first | decide | omega)]; exact t6
  have u7 : ∀ i, i < 12 → gi s7 9 i = gi s 13 i := fun i hi => by rw [e7, gsi_k (by decide)]; exact u6 i hi
  clear e7
  refine pf_bv (fun s8 e8 => ?_)
  have a8 : ∀ j, 5 < j → gi s8 2 j = gi s 2 j := fun j hj => by rw [e8, gsi_k (by decide)]; exact a7 j hj
  have w8 : ∀ i, gi s8 13 i = gi s 13 i := fun i => by rw [e8, gsi_k (by decide)]; exact w7 i
  have t8 : gi s8 1 6 = gi s 2 6 := by rw [e8, gsi_ne (by first | decide | omega)]; exact t7
  have u8 : ∀ i, i < 12 → gi s8 9 i = gi s 13 i := fun i hi => by rw [e8, gsi_k (by decide)]; exact u7 i hi
  clear e8
  refine pf_bv (fun s9 e9 => ?_)
  have a9 : ∀ j, 5 < j → gi s9 2 j = gi s 2 j := fun j hj => by rw [e9, gi_sr]; exact a8 j hj
  have w9 : ∀ i, gi s9 13 i = gi s 13 i := fun i => by rw [e9, gi_sr]; exact w8 i
  have t9 : gi s9 1 6 = gi s 2 6 := by rw [e9, gi_sr]; exact t8
  have u9 : ∀ i, i < 12 → gi s9 9 i = gi s 13 i := fun i hi => by rw [e9, gi_sr]; exact u8 i hi
  clear e9
  refine pf_bv (fun s10 e10 => ?_)
  have a10 : ∀ j, 5 < j → gi s10 2 j = gi s 2 j := fun j hj => by rw [e10, gsa_k (by decide)]; exact a9 j hj
  have w10 : ∀ i, gi s10 13 i = gi s 13 i := fun i => by rw [e10, gsa_k (by decide)]; exact w9 i
  have t10 : gi s10 1 6 = gi s 2 6 := by rw [e10, gsa_k (by decide)]; exact t9
  have u10 : ∀ i, i < 12 → gi s10 9 i = gi s 13 i := fun i hi => by rw [e10, gsa_k (by decide)]; exact u9 i hi
  clear e10
  refine pf_bv (fun s11 e11 => ?_)
  have a11 : ∀ j, 5 < j → gi s11 2 j = gi s 2 j := fun j hj => by rw [e11, gsi_k (by decide)]; exact a10 j hj
  have w11 : ∀ i, gi s11 13 i = gi s 13 i := fun i => by rw [e11, gsi_k (by decide)]; exact w10 i
  have t11 : gi s11 1 6 = gi s 2 6 := by rw [e11, gsi_ne (by first | decide | omega)]; exact t10
  have u11 : ∀ i, i < 12 → gi s11 9 i = gi s 13 i := fun i hi => by rw [e11, gsi_k (by decide)]; exact u10 i hi
  clear e11
  refine pf_jn (fun k => ∀ x, (∀ k j, k < 48 → gi x k j = gi s11 k j) → pf_ (k x) Q) ?_ (fun k13 hk13 => ?_)
  · intro x hx
    try dsimp only
    refine pf_bv (fun y ey => pf_some ?_)
    rw [← hQ]
    refine ⟨by rw [ey, gsi_ne (by decide), hx _ _ (by decide)]; exact t11, by rw [ey, gsi_eq, hx _ _ (by decide)]; exact a11 17 (by decide), fun i hi => by rw [ey, gsi_k (by decide), hx _ _ (by decide)]; exact u11 i hi, by rw [ey, gsi_k (by decide), hx _ _ (by decide)]; exact a11 6 (by decide), by rw [ey, gsi_k (by decide), hx _ _ (by decide)]; exact a11 17 (by decide), fun i hi => by rw [ey, gsi_k (by decide), hx _ _ (by decide)]; exact w11 i⟩
  · refine pf_lo2 (fun (_ : Int32) x => ∀ k j, k < 48 → gi x k j = gi s11 k j) ?_ FU 0 s11 (fun _ _ _ => rfl)
    intro rec x y hy hr
    unfold fX6_copyFrom_b_108_b
    refine pf_if (hk13 y hy) (pf_chk (fun _ => pf_bv (fun qa _ => pf_chk (fun ha => pf_bv (fun qb _ => pf_chk (fun hb => ?_))))))
    have ca := rd_rng ha
    have cb := rd_rng hb
    refine pf_bnv (yl_fX3_copyFrom _ _ y (by omega)) (fun z hz => pf_bv (fun v _ => hr v z (fun k j hk => by rw [hz k j hk]; exact hy k j hk)))
theorem back9_v (s : Sg) : pf_ (fX9_back s) (fun q => q.1 = gi s 2 6 ∧ gi q.2 1 6 = gi s 2 6 ∧ gi q.2 1 17 = gi s 2 17 ∧ (∀ i, i < 12 → gi q.2 9 i = gi s 13 i) ∧ gi q.2 2 6 = gi s 2 6 ∧ gi q.2 2 17 = gi s 2 17 ∧ ∀ i, i < 12 → gi q.2 13 i = gi s 13 i) := by
  unfold fX9_back
  refine pf_bnv (cf_b s) (fun t ht => pf_some ⟨?_, ht⟩)
  exact ht.1
