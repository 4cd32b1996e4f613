set_option maxHeartbeats 1000000 in
set_option maxRecDepth 20000 in
theorem tX9_played (a1 : Int32) (s0 : Sg) (h0 : I9_ s0)  : wp_ (fX9_played a1 s0) (fun q => G9_ s0 q.2) := by
  have g_s0 : G9_ s0 s0 := G9_.rf h0
  have hFU_ : FU = 1000000000 := rfl
  generalize hQ : (fun q : (Int32 × Sg) => G9_ s0 q.2) = Q
  unfold fX9_played
  have L0_ := li_0
  have L1_ := li_1
  have L2_ := li_2
  have L4_ := li_4
  have L5_ := li_5
  have L48_ := li_48
  have M1_ := li_m1
  have M2_ := li_m2
  refine wp_bnd_i (tX9_isText a1 s0 g_s0.1 ) (fun r_1 s_2 p_s_2 => ?_)
  have e_s_2 : s_2 = s0 := p_s_2.1
  have g_s_2 : G9_ s0 s_2 := by rw [e_s_2]; exact g_s0
  have f_s_2 := p_s_2.2
  try dsimp only at f_s_2
  try simp (disch := omega) only [ti_add, ti_sub, b2t_, b2f_, li_0, li_1, li_2, li_4, li_5, li_48, li_m1, li_m2] at f_s_2
  refine wp_if_i (fun h_1_ => ?_) (fun h_1_ => ?_)
  · skip
    have b_2_ := b2i_bd r_1
    have j_3_ := eq_ti h_1_
    try simp (disch := omega) only [ti_add, ti_sub, b2t_, b2f_, li_0, li_1, li_2, li_4, li_5, li_48, li_m1, li_m2] at j_3_
    exact wp_some_i (by subst hQ; exact g_s_2)
  · skip
    have b_4_ := b2i_bd r_1
    have j_5_ := ne_ti h_1_
    try simp (disch := omega) only [ti_add, ti_sub, b2t_, b2f_, li_0, li_1, li_2, li_4, li_5, li_48, li_m1, li_m2] at j_5_
    refine wp_chk_i (inb_ti (by first | omega | (simp (disch := omega) only [ti_add, ti_sub, b2t_, b2f_, li_0, li_1, li_2, li_4, li_5, li_48, li_m1, li_m2]; omega)) (by first | omega | (simp (disch := omega) only [ti_add, ti_sub, b2t_, b2f_, li_0, li_1, li_2, li_4, li_5, li_48, li_m1, li_m2]; omega))) ?_
    apply wp_bv_i
    intro q_4 e_q_4
    have hq_4 : isScr q_4 = true := (by rw [e_q_4]; exact scr_of (by first | omega | (simp (disch := omega) only [ti_add, ti_sub, b2t_, b2f_, li_0, li_1, li_2, li_4, li_5, li_48, li_m1, li_m2]; omega)) (by first | omega | (simp (disch := omega) only [ti_add, ti_sub, b2t_, b2f_, li_0, li_1, li_2, li_4, li_5, li_48, li_m1, li_m2]; omega)))
    have cq_4 := scr_cases hq_4
    refine wp_chk_i hq_4 ?_
    exact lX9_played_20_b s0 h0 q_4  (fun q hq => by subst hQ; exact hq) (by assumption) FU 0 s_2 g_s_2 (by first | omega | (simp (disch := omega) only [ti_add, ti_sub, b2t_, b2f_, li_0, li_1, li_2, li_4, li_5, li_48, li_m1, li_m2]; omega)) (by first | omega | (simp (disch := omega) only [ti_add, ti_sub, b2t_, b2f_, li_0, li_1, li_2, li_4, li_5, li_48, li_m1, li_m2]; omega))
set_option maxHeartbeats 1000000 in
set_option maxRecDepth 20000 in
theorem lX9_weights_33_b {Q : (Int32 × Sg) → Prop} (S_ : Sg) (hI_ : I9_ S_) (v_5 : Int32) (k_7 : Int32 → Option (Int32 × Sg)) (hk_7 : ∀ (z0_ : Int32), wp_ (k_7 z0_) Q) (cp0_ : 0 ≤ v_5.toInt ∧ v_5.toInt ≤ 156) : ∀ (n : Nat) (x4_9 : Int32) (x5_10 : Int32), 0 ≤ x5_10.toInt → (4 - x5_10.toInt).toNat < n → wp_ (lo2 (fX9_weights_33_b v_5 k_7) n x4_9 x5_10) Q := by
  intro n
  induction n with
  | zero =>
    intro x4_9 x5_10 _ hm_
    exact absurd hm_ (Nat.not_lt_zero _)
  | succ n ih =>
    intro x4_9 x5_10 i0_ hm_
    show wp_ (fX9_weights_33_b v_5 k_7 (lo2 (fX9_weights_33_b v_5 k_7) n) x4_9 x5_10) Q
    have hrec := ih
    generalize lo2 (fX9_weights_33_b v_5 k_7) n = rc at hrec ⊢
    clear ih
    have hFU_ : FU = 1000000000 := rfl
    unfold fX9_weights_33_b
    have L0_ := li_0
    have L1_ := li_1
    have L4_ := li_4
    have L160_ := li_160
    have M1_ := li_m1
    refine wp_if_i (fun h_1_ => ?_) (fun h_1_ => ?_)
    · skip
      have j_2_ := le_ti h_1_
      try simp (disch := omega) only [ti_add, ti_sub, b2t_, b2f_, li_0, li_1, li_4, li_160, li_m1] at j_2_
      exact hk_7 x4_9  
    · skip
      have j_3_ := nle_ti h_1_
      try simp (disch := omega) only [ti_add, ti_sub, b2t_, b2f_, li_0, li_1, li_4, li_160, li_m1] at j_3_
      refine wp_chk_i (inb_ti (by first | omega | (simp (disch := omega) only [ti_add, ti_sub, b2t_, b2f_, li_0, li_1, li_4, li_160, li_m1]; omega)) (by first | omega | (simp (disch := omega) only [ti_add, ti_sub, b2t_, b2f_, li_0, li_1, li_4, li_160, li_m1]; omega))) ?_
      refine wp_jn (fun k_14 => ∀ (y_12 : Int32) (y_13 : Bool), wp_ (k_14 y_12 y_13) Q) ?_ (fun k_14 hk_14 => ?_)
      · intro y_12 y_13
        try dsimp only
        have b_4_ := b2i_bd y_13
        apply wp_bv_i
        intro v_15 e_v_15
        have j_5_ := eq_ti e_v_15
        try simp (disch := omega) only [ti_add, ti_sub, b2t_, b2f_, li_0, li_1, li_4, li_160, li_m1] at j_5_
        apply wp_bv_i
        intro v_16 e_v_16
        have j_6_ := eq_ti e_v_16
        try simp (disch := omega) only [ti_add, ti_sub, b2t_, b2f_, li_0, li_1, li_4, li_160, li_m1] at j_6_
        exact hrec v_15 v_16  (by first | omega | (simp (disch := omega) only [ti_add, ti_sub, b2t_, b2f_, li_0, li_1, li_4, li_160, li_m1]; omega)) (by first | omega | (simp (disch := omega) only [ti_add, ti_sub, b2t_, b2f_, li_0, li_1, li_4, li_160, li_m1]; omega))
      refine wp_if_i (fun h_7_ => ?_) (fun h_7_ => ?_)
      · skip
        have j_8_ := le_ti h_7_
        try simp (disch := omega) only [ti_add, ti_sub, b2t_, b2f_, li_0, li_1, li_4, li_160, li_m1] at j_8_
        exact hk_14 x4_9 false  
      · skip
        have j_9_ := nle_ti h_7_
        try simp (disch := omega) only [ti_add, ti_sub, b2t_, b2f_, li_0, li_1, li_4, li_160, li_m1] at j_9_
        exact hk_14 x4_9 true  
set_option maxHeartbeats 1000000 in
set_option maxRecDepth 20000 in
theorem tX9_weights (a1 : Int32) (a2 : Int32) (s0 : Sg) (h0 : I9_ s0)  : wp_ (fX9_weights a1 a2 s0) (fun q => q.2 = s0) := by
  have g_s0 : G9_ s0 s0 := G9_.rf h0
  have hFU_ : FU = 1000000000 := rfl
  generalize hQ : (fun q : (Int32 × Sg) => q.2 = s0) = Q
  unfold fX9_weights
  have L0_ := li_0
  have L1_ := li_1
  have L3_ := li_3
  have L4_ := li_4
  have L40_ := li_40
  have L160_ := li_160
  have M1_ := li_m1
  refine wp_bnd_i (tX9_within a1 1 40 s0 g_s0.1 ) (fun r_1 s_2 p_s_2 => ?_)
  have e_s_2 : s_2 = s0 := p_s_2.1
  have g_s_2 : G9_ s0 s_2 := by rw [e_s_2]; exact g_s0
  have f_s_2 := p_s_2.2
  try dsimp only at f_s_2
  try simp (disch := omega) only [ti_add, ti_sub, b2t_, b2f_, li_0, li_1, li_3, li_4, li_40, li_160, li_m1] at f_s_2
  refine wp_if_i (fun h_1_ => ?_) (fun h_1_ => ?_)
  · skip
    have b_2_ := b2i_bd r_1
    have j_3_ := eq_ti h_1_
    try simp (disch := omega) only [ti_add, ti_sub, b2t_, b2f_, li_0, li_1, li_3, li_4, li_40, li_160, li_m1] at j_3_
    exact wp_some_i (by subst hQ; exact (by rw [e_s_2]))
  · skip
    have b_4_ := b2i_bd r_1
    have j_5_ := ne_ti h_1_
    try simp (disch := omega) only [ti_add, ti_sub, b2t_, b2f_, li_0, li_1, li_3, li_4, li_40, li_160, li_m1] at j_5_
    refine wp_bnd_i (tX9_within a2 (-1) 3 s_2 g_s_2.1 ) (fun r_3 s_4 p_s_4 => ?_)
    have e_s_4 : s_4 = s_2 := p_s_4.1
    have g_s_4 : G9_ s0 s_4 := by rw [e_s_4]; exact g_s_2
    have f_s_4 := p_s_4.2
    try dsimp only at f_s_4
    try simp (disch := omega) only [ti_add, ti_sub, b2t_, b2f_, li_0, li_1, li_3, li_4, li_40, li_160, li_m1] at f_s_4
    refine wp_if_i (fun h_6_ => ?_) (fun h_6_ => ?_)
    · skip
      have b_7_ := b2i_bd r_3
      have j_8_ := eq_ti h_6_
      try simp (disch := omega) only [ti_add, ti_sub, b2t_, b2f_, li_0, li_1, li_3, li_4, li_40, li_160, li_m1] at j_8_
      exact wp_some_i (by subst hQ; exact (by rw [e_s_4, e_s_2]))
    · skip
      have b_9_ := b2i_bd r_3
      have j_10_ := ne_ti h_6_
      try simp (disch := omega) only [ti_add, ti_sub, b2t_, b2f_, li_0, li_1, li_3, li_4, li_40, li_160, li_m1] at j_10_
      apply wp_bv_i
      intro v_5 e_v_5
      have jm_ : v_5.toInt = (a1.toInt - 1) * 4 := by rw [e_v_5, Int32.toInt_mul, ti_sub (by omega) (by omega), li_1, li_4]; exact Int.bmod_eq_of_le (by omega) (by omega)
      have j_11_ := eq_ti e_v_5
      try simp (disch := omega) only [ti_add, ti_sub, b2t_, b2f_, li_0, li_1, li_3, li_4, li_40, li_160, li_m1] at j_11_
      refine wp_jn (fun k_7 => ∀ (x4_6 : Int32), wp_ (k_7 x4_6) Q) ?_ (fun k_7 hk_7 => ?_)
      · intro x4_6
        try dsimp only
        refine wp_if_i (fun h_12_ => ?_) (fun h_12_ => ?_)
        · skip
          have j_13_ := eq_ti h_12_
          try simp (disch := omega) only [ti_add, ti_sub, b2t_, b2f_, li_0, li_1, li_3, li_4, li_40, li_160, li_m1] at j_13_
          exact wp_some_i (by subst hQ; exact (by rw [e_s_4, e_s_2]))
        · skip
          have j_14_ := ne_ti h_12_
          try simp (disch := omega) only [ti_add, ti_sub, b2t_, b2f_, li_0, li_1, li_3, li_4, li_40, li_160, li_m1] at j_14_
          refine wp_if_i (fun h_15_ => ?_) (fun h_15_ => ?_)
          · skip
            have j_16_ := le_ti h_15_
            try simp (disch := omega) only [ti_add, ti_sub, b2t_, b2f_, li_0, li_1, li_3, li_4, li_40, li_160, li_m1] at j_16_
            exact wp_some_i (by subst hQ; exact (by rw [e_s_4, e_s_2]))
          · skip
            have j_17_ := nle_ti h_15_
            try simp (disch := omega) only [ti_add, ti_sub, b2t_, b2f_, li_0, li_1, li_3, li_4, li_40, li_160, li_m1] at j_17_
            refine wp_chk_i (inb_ti (by first | omega | (simp (disch := omega) only [ti_add, ti_sub, b2t_, b2f_, li_0, li_1, li_3, li_4, li_40, li_160, li_m1]; omega)) (by first | omega | (simp (disch := omega) only [ti_add, ti_sub, b2t_, b2f_, li_0, li_1, li_3, li_4, li_40, li_160, li_m1]; omega))) ?_
            exact wp_some_i (by subst hQ; exact (by rw [e_s_4, e_s_2]))
      exact lX9_weights_33_b s0 h0 v_5 k_7 hk_7 (by first | omega | (simp (disch := omega) only [ti_add, ti_sub, b2t_, b2f_, li_0, li_1, li_3, li_4, li_40, li_160, li_m1]; omega)) FU 0 0  (by first | omega | (simp (disch := omega) only [ti_add, ti_sub, b2t_, b2f_, li_0, li_1, li_3, li_4, li_40, li_160, li_m1]; omega)) (by first | omega | (simp (disch := omega) only [ti_add, ti_sub, b2t_, b2f_, li_0, li_1, li_3, li_4, li_40, li_160, li_m1]; omega))
set_option maxHeartbeats 1000000 in
set_option maxRecDepth 20000 in
theorem tX8_copyWorld_i (s0 : Sg) (h0 : I9_ s0)  : wp_ (fX8_copyWorld_i s0) (fun q => G9_ s0 q) := by
  have g_s0 : G9_ s0 s0 := G9_.rf h0
  have hFU_ : FU = 1000000000 := rfl
  generalize hQ : (fun q : (Sg) => G9_ s0 q) = Q
  unfold fX8_copyWorld_i
  have L0_ := li_0
  have L1_ := li_1
  have L2_ := li_2
  have L3_ := li_3
  have L4_ := li_4
  have L5_ := li_5
  have M1_ := li_m1
  apply wp_bv_i
  intro s_1 e_s_1
  have g_s_1 : G9_ s0 s_1 := by rw [e_s_1]; exact G9_.si g_s0 (by first | decide | omega) trivial
  apply wp_bv_i
  intro s_2 e_s_2
  have g_s_2 : G9_ s0 s_2 := by rw [e_s_2]; exact G9_.si g_s_1 (by first | decide | omega) trivial
  apply wp_bv_i
  intro s_3 e_s_3
  have g_s_3 : G9_ s0 s_3 := by rw [e_s_3]; exact G9_.si g_s_2 (by first | decide | omega) trivial
  apply wp_bv_i
  intro s_4 e_s_4
  have g_s_4 : G9_ s0 s_4 := by rw [e_s_4]; exact G9_.si g_s_3 (by first | decide | omega) trivial
  apply wp_bv_i
  intro s_5 e_s_5
  have g_s_5 : G9_ s0 s_5 := by rw [e_s_5]; exact G9_.si g_s_4 (by first | decide | omega) trivial
  apply wp_bv_i
  intro s_6 e_s_6
  have g_s_6 : G9_ s0 s_6 := by rw [e_s_6]; exact G9_.si g_s_5 (by first | decide | omega) trivial
  exact wp_some_i (by subst hQ; exact g_s_6)
set_option maxHeartbeats 1000000 in
set_option maxRecDepth 20000 in
theorem tX8_copyWorld_b (s0 : Sg) (h0 : I9_ s0)  : wp_ (fX8_copyWorld_b s0) (fun q => G9_ s0 q) := by
  have g_s0 : G9_ s0 s0 := G9_.rf h0
  have hFU_ : FU = 1000000000 := rfl
  generalize hQ : (fun q : (Sg) => G9_ s0 q) = Q
  unfold fX8_copyWorld_b
  have L0_ := li_0
  have L1_ := li_1
  have L2_ := li_2
  have L3_ := li_3
  have L4_ := li_4
  have L5_ := li_5
  have M1_ := li_m1
  apply wp_bv_i
  intro s_1 e_s_1
  have g_s_1 : G9_ s0 s_1 := by rw [e_s_1]; exact G9_.si g_s0 (by first | decide | omega) trivial
  apply wp_bv_i
  intro s_2 e_s_2
  have g_s_2 : G9_ s0 s_2 := by rw [e_s_2]; exact G9_.si g_s_1 (by first | decide | omega) trivial
  apply wp_bv_i
  intro s_3 e_s_3
  have g_s_3 : G9_ s0 s_3 := by rw [e_s_3]; exact G9_.si g_s_2 (by first | decide | omega) trivial
  apply wp_bv_i
  intro s_4 e_s_4
  have g_s_4 : G9_ s0 s_4 := by rw [e_s_4]; exact G9_.si g_s_3 (by first | decide | omega) trivial
  apply wp_bv_i
  intro s_5 e_s_5
  have g_s_5 : G9_ s0 s_5 := by rw [e_s_5]; exact G9_.si g_s_4 (by first | decide | omega) trivial
  apply wp_bv_i
  intro s_6 e_s_6
  have g_s_6 : G9_ s0 s_6 := by rw [e_s_6]; exact G9_.si g_s_5 (by first | decide | omega) trivial
  exact wp_some_i (by subst hQ; exact g_s_6)
set_option maxHeartbeats 1000000 in
set_option maxRecDepth 20000 in
theorem lX6_copyFrom_i_108_b {Q : (Sg) → Prop} (S_ : Sg) (hI_ : I9_ S_) (k_13 : Sg → Option (Sg)) (hk_13 : ∀ (z0_ : Sg), G9_ S_ z0_ → wp_ (k_13 z0_) Q)  : ∀ (n : Nat) (x2_15 : Int32) (s_16 : Sg), G9_ S_ s_16 → 0 ≤ x2_15.toInt → (10 - x2_15.toInt).toNat < n → wp_ (lo2 (fX6_copyFrom_i_108_b k_13) n x2_15 s_16) Q := by
  intro n
  induction n with
  | zero =>
    intro x2_15 s_16 _ _ hm_
    exact absurd hm_ (Nat.not_lt_zero _)
  | succ n ih =>
    intro x2_15 s_16 g_s_16 i0_ hm_
    show wp_ (fX6_copyFrom_i_108_b k_13 (lo2 (fX6_copyFrom_i_108_b k_13) n) x2_15 s_16) Q
    have hrec := ih
    generalize lo2 (fX6_copyFrom_i_108_b k_13) n = rc at hrec ⊢
    clear ih
    have hFU_ : FU = 1000000000 := rfl
    unfold fX6_copyFrom_i_108_b
    have L0_ := li_0
    have L1_ := li_1
    have L10_ := li_10
    have L17_ := li_17
    have L68_ := li_68
    have L78_ := li_78
    have M1_ := li_m1
    refine wp_if_i (fun h_1_ => ?_) (fun h_1_ => ?_)
    · skip
      have b_2_ : 0 ≤ (gi s_16 1 17).toInt ∧ (gi s_16 1 17).toInt ≤ 10 := g_s_16.1.1 1 17
      have j_3_ := le_ti h_1_
      try simp (disch := omega) only [ti_add, ti_sub, b2t_, b2f_, li_0, li_1, li_10, li_17, li_68, li_78, li_m1] at j_3_
      exact hk_13 s_16 g_s_16 
    · skip
      have b_4_ : 0 ≤ (gi s_16 1 17).toInt ∧ (gi s_16 1 17).toInt ≤ 10 := g_s_16.1.1 1 17
      have j_5_ := nle_ti h_1_
      try simp (disch := omega) only [ti_add, ti_sub, b2t_, b2f_, li_0, li_1, li_10, li_17, li_68, li_78, li_m1] at j_5_
      refine wp_chk_i (inb_ti (by first | omega | (simp (disch := omega) only [ti_add, ti_sub, b2t_, b2f_, li_0, li_1, li_10, li_17, li_68, li_78, li_m1]; omega)) (by first | omega | (simp (disch := omega) only [ti_add, ti_sub, b2t_, b2f_, li_0, li_1, li_10, li_17, li_68, li_78, li_m1]; omega))) ?_
      apply wp_bv_i
      intro q_18 e_q_18
      have hq_18 : isRd q_18 = true := (by rw [e_q_18]; exact rd_of 78 (by decide) (by first | omega | (simp (disch := omega) only [ti_add, ti_sub, b2t_, b2f_, li_0, li_1, li_10, li_17, li_68, li_78, li_m1]; omega)) (by first | omega | (simp (disch := omega) only [ti_add, ti_sub, b2t_, b2f_, li_0, li_1, li_10, li_17, li_68, li_78, li_m1]; omega)))
      have cq_18 := rd_rng hq_18
      refine wp_chk_i hq_18 ?_
      apply wp_bv_i
      intro q_20 e_q_20
      have hq_20 : isRd q_20 = true := (by rw [e_q_20]; exact rd_of 68 (by decide) (by first | omega | (simp (disch := omega) only [ti_add, ti_sub, b2t_, b2f_, li_0, li_1, li_10, li_17, li_68, li_78, li_m1]; omega)) (by first | omega | (simp (disch := omega) only [ti_add, ti_sub, b2t_, b2f_, li_0, li_1, li_10, li_17, li_68, li_78, li_m1]; omega)))
      have cq_20 := rd_rng hq_20
      refine wp_chk_i hq_20 ?_
      refine wp_bnv_i (tX3_copyFrom q_18 q_20 s_16 g_s_16.1 hq_18 (by assumption)) (fun s_22 p_s_22 => ?_)
      have g_s_22 := g_s_16.tr p_s_22
      apply wp_bv_i
      intro v_23 e_v_23
      have j_6_ := eq_ti e_v_23
      try simp (disch := omega) only [ti_add, ti_sub, b2t_, b2f_, li_0, li_1, li_10, li_17, li_68, li_78, li_m1] at j_6_
      exact hrec v_23 s_22 g_s_22 (by first | omega | (simp (disch := omega) only [ti_add, ti_sub, b2t_, b2f_, li_0, li_1, li_10, li_17, li_68, li_78, li_m1]; omega)) (by first | omega | (simp (disch := omega) only [ti_add, ti_sub, b2t_, b2f_, li_0, li_1, li_10, li_17, li_68, li_78, li_m1]; omega))
set_option maxHeartbeats 1000000 in
set_option maxRecDepth 20000 in
theorem lX6_copyFrom_b_108_b {Q : (Sg) → Prop} (S_ : Sg) (hI_ : I9_ S_) (k_13 : Sg → Option (Sg)) (hk_13 : ∀ (z0_ : Sg), G9_ S_ z0_ → wp_ (k_13 z0_) Q)  : ∀ (n : Nat) (x2_15 : Int32) (s_16 : Sg), G9_ S_ s_16 → 0 ≤ x2_15.toInt → (10 - x2_15.toInt).toNat < n → wp_ (lo2 (fX6_copyFrom_b_108_b k_13) n x2_15 s_16) Q := by
  intro n
  induction n with
  | zero =>
    intro x2_15 s_16 _ _ hm_
    exact absurd hm_ (Nat.not_lt_zero _)
  | succ n ih =>
    intro x2_15 s_16 g_s_16 i0_ hm_
    show wp_ (fX6_copyFrom_b_108_b k_13 (lo2 (fX6_copyFrom_b_108_b k_13) n) x2_15 s_16) Q
    have hrec := ih
    generalize lo2 (fX6_copyFrom_b_108_b k_13) n = rc at hrec ⊢
    clear ih
    have hFU_ : FU = 1000000000 := rfl
    unfold fX6_copyFrom_b_108_b
    have L0_ := li_0
    have L1_ := li_1
    have L2_ := li_2
    have L10_ := li_10
    have L17_ := li_17
    have L68_ := li_68
    have L78_ := li_78
    have M1_ := li_m1
    refine wp_if_i (fun h_1_ => ?_) (fun h_1_ => ?_)
    · skip
      have b_2_ : 0 ≤ (gi s_16 2 17).toInt ∧ (gi s_16 2 17).toInt ≤ 10 := g_s_16.1.1 2 17
      have j_3_ := le_ti h_1_
      try simp (disch := omega) only [ti_add, ti_sub, b2t_, b2f_, li_0, li_1, li_2, li_10, li_17, li_68, li_78, li_m1] at j_3_
      exact hk_13 s_16 g_s_16 
    · skip
      have b_4_ : 0 ≤ (gi s_16 2 17).toInt ∧ (gi s_16 2 17).toInt ≤ 10 := g_s_16.1.1 2 17
      have j_5_ := nle_ti h_1_
      try simp (disch := omega) only [ti_add, ti_sub, b2t_, b2f_, li_0, li_1, li_2, li_10, li_17, li_68, li_78, li_m1] at j_5_
      refine wp_chk_i (inb_ti (by first | omega | (simp (disch := omega) only [ti_add, ti_sub, b2t_, b2f_, li_0, li_1, li_2, li_10, li_17, li_68, li_78, li_m1]; omega)) (by first | omega | (simp (disch := omega) only [ti_add, ti_sub, b2t_, b2f_, li_0, li_1, li_2, li_10, li_17, li_68, li_78, li_m1]; omega))) ?_
      apply wp_bv_i
      intro q_18 e_q_18
      have hq_18 : isRd q_18 = true := (by rw [e_q_18]; exact rd_of 68 (by decide) (by first | omega | (simp (disch := omega) only [ti_add, ti_sub, b2t_, b2f_, li_0, li_1, li_2, li_10, li_17, li_68, li_78, li_m1]; omega)) (by first | omega | (simp (disch := omega) only [ti_add, ti_sub, b2t_, b2f_, li_0, li_1, li_2, li_10, li_17, li_68, li_78, li_m1]; omega)))
      have cq_18 := rd_rng hq_18
      refine wp_chk_i hq_18 ?_
      apply wp_bv_i
      intro q_20 e_q_20
      have hq_20 : isRd q_20 = true := (by rw [e_q_20]; exact rd_of 78 (by decide) (by first | omega | (simp (disch := omega) only [ti_add, ti_sub, b2t_, b2f_, li_0, li_1, li_2, li_10, li_17, li_68, li_78, li_m1]; omega)) (by first | omega | (simp (disch := omega) only [ti_add, ti_sub, b2t_, b2f_, li_0, li_1, li_2, li_10, li_17, li_68, li_78, li_m1]; omega)))
      have cq_20 := rd_rng hq_20
      refine wp_chk_i hq_20 ?_
      refine wp_bnv_i (tX3_copyFrom q_18 q_20 s_16 g_s_16.1 hq_18 (by assumption)) (fun s_22 p_s_22 => ?_)
      have g_s_22 := g_s_16.tr p_s_22
      apply wp_bv_i
      intro v_23 e_v_23
      have j_6_ := eq_ti e_v_23
      try simp (disch := omega) only [ti_add, ti_sub, b2t_, b2f_, li_0, li_1, li_2, li_10, li_17, li_68, li_78, li_m1] at j_6_
      exact hrec v_23 s_22 g_s_22 (by first | omega | (simp (disch := omega) only [ti_add, ti_sub, b2t_, b2f_, li_0, li_1, li_2, li_10, li_17, li_68, li_78, li_m1]; omega)) (by first | omega | (simp (disch := omega) only [ti_add, ti_sub, b2t_, b2f_, li_0, li_1, li_2, li_10, li_17, li_68, li_78, li_m1]; omega))
