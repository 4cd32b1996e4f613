set_option maxHeartbeats 1000000 in
set_option maxRecDepth 20000 in
theorem tX9_fitsReadings (a1 : Int32) (s0 : Sg) (h0 : I9_ s0)  : wp_ (fX9_fitsReadings a1 s0) (fun q => G9_ s0 q.2) := by
  have g_s0 : G9_ s0 s0 := G9_.rf h0
  have hFU_ : FU = 1000000000 := rfl
  generalize hQ : (fun q : (Bool × Sg) => G9_ s0 q.2) = Q
  unfold fX9_fitsReadings
  have L0_ := li_0
  have L1_ := li_1
  have M1_ := li_m1
  exact lX9_fitsReadings_2_b s0 h0 a1  (fun q hq => by subst hQ; exact hq)  FU 0 s0 g_s0 (by first | omega | (simp (disch := omega) only [ti_add, ti_sub, b2t_, b2f_, li_0, li_1, li_m1]; omega)) (by first | omega | (simp (disch := omega) only [ti_add, ti_sub, b2t_, b2f_, li_0, li_1, li_m1]; omega))
set_option maxHeartbeats 1000000 in
set_option maxRecDepth 20000 in
theorem lX9_bearUnknown_2_b {Q : (Sg) → Prop} (S_ : Sg) (hI_ : I9_ S_) (a1 : Int32) (hsome : ∀ q : (Sg), G9_ S_ q → Q q)  : ∀ (n : Nat) (x2_1 : Int32) (s_2 : Sg), G9_ S_ s_2 → 0 ≤ x2_1.toInt → (10 - x2_1.toInt).toNat < n → wp_ (lo2 (fX9_bearUnknown_2_b a1) n x2_1 s_2) Q := by
  intro n
  induction n with
  | zero =>
    intro x2_1 s_2 _ _ hm_
    exact absurd hm_ (Nat.not_lt_zero _)
  | succ n ih =>
    intro x2_1 s_2 g_s_2 i0_ hm_
    show wp_ (fX9_bearUnknown_2_b a1 (lo2 (fX9_bearUnknown_2_b a1) n) x2_1 s_2) Q
    have hrec := ih
    generalize lo2 (fX9_bearUnknown_2_b a1) n = rc at hrec ⊢
    clear ih
    have hFU_ : FU = 1000000000 := rfl
    unfold fX9_bearUnknown_2_b
    have L0_ := li_0
    have L1_ := li_1
    have L10_ := li_10
    have L17_ := li_17
    have L68_ := li_68
    have M1_ := li_m1
    refine wp_if_i (fun h_1_ => ?_) (fun h_1_ => ?_)
    · skip
      have b_2_ : 0 ≤ (gi s_2 1 17).toInt ∧ (gi s_2 1 17).toInt ≤ 10 := g_s_2.1.1 1 17
      have j_3_ := le_ti h_1_
      try simp (disch := omega) only [ti_add, ti_sub, b2t_, b2f_, li_0, li_1, li_10, li_17, li_68, li_m1] at j_3_
      exact wp_some_i (hsome (s_2) g_s_2)
    · skip
      have b_4_ : 0 ≤ (gi s_2 1 17).toInt ∧ (gi s_2 1 17).toInt ≤ 10 := g_s_2.1.1 1 17
      have j_5_ := nle_ti h_1_
      try simp (disch := omega) only [ti_add, ti_sub, b2t_, b2f_, li_0, li_1, li_10, li_17, li_68, li_m1] at j_5_
      refine wp_chk_i (inb_ti (by first | omega | (simp (disch := omega) only [ti_add, ti_sub, b2t_, b2f_, li_0, li_1, li_10, li_17, li_68, li_m1]; omega)) (by first | omega | (simp (disch := omega) only [ti_add, ti_sub, b2t_, b2f_, li_0, li_1, li_10, li_17, li_68, li_m1]; omega))) ?_
      apply wp_bv_i
      intro q_4 e_q_4
      have hq_4 : isRd q_4 = true := (by rw [e_q_4]; exact rd_of 68 (by decide) (by first | omega | (simp (disch := omega) only [ti_add, ti_sub, b2t_, b2f_, li_0, li_1, li_10, li_17, li_68, li_m1]; omega)) (by first | omega | (simp (disch := omega) only [ti_add, ti_sub, b2t_, b2f_, li_0, li_1, li_10, li_17, li_68, li_m1]; omega)))
      have cq_4 := rd_rng hq_4
      refine wp_chk_i hq_4 ?_
      refine wp_bnd_i (tX9_borneAt q_4 a1 s_2 g_s_2.1 ) (fun r_6 s_7 p_s_7 => ?_)
      have a_s_7 := p_s_7
      have g_s_7 := g_s_2.tr a_s_7.g
      apply wp_bv_i
      intro s_8 e_s_8
      have g_s_8 : G9_ S_ s_8 := by rw [e_s_8]; exact G9_.si g_s_7 (Or.inr (by have z_ := hq_4; simp only [isRd, Bool.and_eq_true, decide_eq_true_eq] at z_; omega)) (by rw [bd_rd hq_4]; trivial)
      apply wp_bv_i
      intro v_9 e_v_9
      have j_6_ := eq_ti e_v_9
      try simp (disch := omega) only [ti_add, ti_sub, b2t_, b2f_, li_0, li_1, li_10, li_17, li_68, li_m1] at j_6_
      exact hrec v_9 s_8 g_s_8 (by first | omega | (simp (disch := omega) only [ti_add, ti_sub, b2t_, b2f_, li_0, li_1, li_10, li_17, li_68, li_m1]; omega)) (by first | omega | (simp (disch := omega) only [ti_add, ti_sub, b2t_, b2f_, li_0, li_1, li_10, li_17, li_68, li_m1]; omega))
set_option maxHeartbeats 1000000 in
set_option maxRecDepth 20000 in
theorem tX9_bearUnknown (a1 : Int32) (s0 : Sg) (h0 : I9_ s0)  : wp_ (fX9_bearUnknown a1 s0) (fun q => G9_ s0 q) := by
  have g_s0 : G9_ s0 s0 := G9_.rf h0
  have hFU_ : FU = 1000000000 := rfl
  generalize hQ : (fun q : (Sg) => G9_ s0 q) = Q
  unfold fX9_bearUnknown
  have L0_ := li_0
  have L1_ := li_1
  have M1_ := li_m1
  exact lX9_bearUnknown_2_b s0 h0 a1  (fun q hq => by subst hQ; exact hq)  FU 0 s0 g_s0 (by first | omega | (simp (disch := omega) only [ti_add, ti_sub, b2t_, b2f_, li_0, li_1, li_m1]; omega)) (by first | omega | (simp (disch := omega) only [ti_add, ti_sub, b2t_, b2f_, li_0, li_1, li_m1]; omega))
set_option maxHeartbeats 1000000 in
set_option maxRecDepth 20000 in
theorem tX9_reading (a1 : Int32) (a2 : Int32) (s0 : Sg) (h0 : I9_ s0)  : wp_ (fX9_reading a1 a2 s0) (fun q => G9_ s0 q.2) := by
  have g_s0 : G9_ s0 s0 := G9_.rf h0
  have hFU_ : FU = 1000000000 := rfl
  generalize hQ : (fun q : (Int32 × Sg) => G9_ s0 q.2) = Q
  unfold fX9_reading
  have L0_ := li_0
  have L1_ := li_1
  have L2_ := li_2
  have L3_ := li_3
  have L6_ := li_6
  have L7_ := li_7
  have L8_ := li_8
  have L9_ := li_9
  have L10_ := li_10
  have L17_ := li_17
  have L68_ := li_68
  have M1_ := li_m1
  refine wp_bnd_i (tX9_isPan a1 s0 g_s0.1 ) (fun r_1 s_2 p_s_2 => ?_)
  have e_s_2 : s_2 = s0 := p_s_2
  have g_s_2 : G9_ s0 s_2 := by rw [e_s_2]; exact g_s0
  refine wp_if_i (fun h_1_ => ?_) (fun h_1_ => ?_)
  · skip
    have b_2_ := b2i_bd r_1
    have j_3_ := eq_ti h_1_
    try simp (disch := omega) only [ti_add, ti_sub, b2t_, b2f_, li_0, li_1, li_2, li_3, li_6, li_7, li_8, li_9, li_10, li_17, li_68, li_m1] at j_3_
    exact wp_some_i (by subst hQ; exact g_s_2)
  · skip
    have b_4_ := b2i_bd r_1
    have j_5_ := ne_ti h_1_
    try simp (disch := omega) only [ti_add, ti_sub, b2t_, b2f_, li_0, li_1, li_2, li_3, li_6, li_7, li_8, li_9, li_10, li_17, li_68, li_m1] at j_5_
    refine wp_bnd_i (tX9_within a2 0 2 s_2 g_s_2.1 ) (fun r_3 s_4 p_s_4 => ?_)
    have e_s_4 : s_4 = s_2 := p_s_4.1
    have g_s_4 : G9_ s0 s_4 := by rw [e_s_4]; exact g_s_2
    have f_s_4 := p_s_4.2
    try dsimp only at f_s_4
    try simp (disch := omega) only [ti_add, ti_sub, b2t_, b2f_, li_0, li_1, li_2, li_3, li_6, li_7, li_8, li_9, li_10, li_17, li_68, li_m1] at f_s_4
    refine wp_if_i (fun h_6_ => ?_) (fun h_6_ => ?_)
    · skip
      have b_7_ := b2i_bd r_3
      have j_8_ := eq_ti h_6_
      try simp (disch := omega) only [ti_add, ti_sub, b2t_, b2f_, li_0, li_1, li_2, li_3, li_6, li_7, li_8, li_9, li_10, li_17, li_68, li_m1] at j_8_
      exact wp_some_i (by subst hQ; exact g_s_4)
    · skip
      have b_9_ := b2i_bd r_3
      have j_10_ := ne_ti h_6_
      try simp (disch := omega) only [ti_add, ti_sub, b2t_, b2f_, li_0, li_1, li_2, li_3, li_6, li_7, li_8, li_9, li_10, li_17, li_68, li_m1] at j_10_
      refine wp_if_i (fun h_11_ => ?_) (fun h_11_ => ?_)
      · skip
        have b_12_ : 0 ≤ (gi s0 1 17).toInt ∧ (gi s0 1 17).toInt ≤ 10 := g_s0.1.1 1 17
        have r_13_ : (gi s_2 1 17).toInt = (gi s0 1 17).toInt := by rw [e_s_2]
        have b_14_ : 0 ≤ (gi s_2 1 17).toInt ∧ (gi s_2 1 17).toInt ≤ 10 := g_s_2.1.1 1 17
        have r_15_ : (gi s_4 1 17).toInt = (gi s_2 1 17).toInt := by rw [e_s_4]
        have b_16_ : 0 ≤ (gi s_4 1 17).toInt ∧ (gi s_4 1 17).toInt ≤ 10 := g_s_4.1.1 1 17
        have j_17_ := lt_ti h_11_
        try simp (disch := omega) only [ti_add, ti_sub, b2t_, b2f_, li_0, li_1, li_2, li_3, li_6, li_7, li_8, li_9, li_10, li_17, li_68, li_m1] at j_17_
        refine wp_bnv_i (tX9_weighWhatLies s_4 g_s_4.1 ) (fun s_5 p_s_5 => ?_)
        have a_s_5 := p_s_5
        have g_s_5 := g_s_4.tr a_s_5.g
        have r_18_ : (gi s_5 1 17).toInt = (gi s_4 1 17).toInt := by rw [a_s_5.2.2.2 1 (by first | decide | omega) (by first | decide | omega) (by first | decide | omega)]
        have b_19_ : 0 ≤ (gi s_5 1 17).toInt ∧ (gi s_5 1 17).toInt ≤ 10 := g_s_5.1.1 1 17
        refine wp_chk_i (inb_ti (by first | omega | (simp (disch := omega) only [ti_add, ti_sub, b2t_, b2f_, li_0, li_1, li_2, li_3, li_6, li_7, li_8, li_9, li_10, li_17, li_68, li_m1]; omega)) (by first | omega | (simp (disch := omega) only [ti_add, ti_sub, b2t_, b2f_, li_0, li_1, li_2, li_3, li_6, li_7, li_8, li_9, li_10, li_17, li_68, li_m1]; omega))) ?_
        apply wp_bv_i
        intro q_7 e_q_7
        have hq_7 : isRd q_7 = true := (by rw [e_q_7]; exact rd_of 68 (by decide) (by first | omega | (simp (disch := omega) only [ti_add, ti_sub, b2t_, b2f_, li_0, li_1, li_2, li_3, li_6, li_7, li_8, li_9, li_10, li_17, li_68, li_m1]; omega)) (by first | omega | (simp (disch := omega) only [ti_add, ti_sub, b2t_, b2f_, li_0, li_1, li_2, li_3, li_6, li_7, li_8, li_9, li_10, li_17, li_68, li_m1]; omega)))
        have cq_7 := rd_rng hq_7
        refine wp_chk_i hq_7 ?_
        apply wp_bv_i
        intro s_9 e_s_9
        have g_s_9 : G9_ s0 s_9 := by rw [e_s_9]; exact G9_.si g_s_5 (Or.inr (by have z_ := hq_7; simp only [isRd, Bool.and_eq_true, decide_eq_true_eq] at z_; omega)) (by rw [bd_rd hq_7]; trivial)
        apply wp_bv_i
        intro s_10 e_s_10
        have g_s_10 : G9_ s0 s_10 := by rw [e_s_10]; exact G9_.si g_s_9 (Or.inr (by have z_ := hq_7; simp only [isRd, Bool.and_eq_true, decide_eq_true_eq] at z_; omega)) (by rw [bd_rd hq_7]; trivial)
        refine wp_bnv_i (tX8_copyWorld_r q_7 s_10 g_s_10.1 hq_7) (fun s_11 p_s_11 => ?_)
        have g_s_11 := g_s_10.tr p_s_11.1
        have f_s_11 := p_s_11.2
        try dsimp only at f_s_11
        try simp (disch := omega) only [ti_add, ti_sub, b2t_, b2f_, li_0, li_1, li_2, li_3, li_6, li_7, li_8, li_9, li_10, li_17, li_68, li_m1] at f_s_11
        apply wp_bv_i
        intro s_12 e_s_12
        have g_s_12 : G9_ s0 s_12 := by rw [e_s_12]; exact G9_.si g_s_11 (Or.inr (by have z_ := hq_7; simp only [isRd, Bool.and_eq_true, decide_eq_true_eq] at z_; omega)) (by rw [bd_rd hq_7]; trivial)
        apply wp_bv_i
        intro s_13 e_s_13
        have g_s_13 : G9_ s0 s_13 := by rw [e_s_13]; exact G9_.si g_s_12 (Or.inr (by have z_ := hq_7; simp only [isRd, Bool.and_eq_true, decide_eq_true_eq] at z_; omega)) (by rw [bd_rd hq_7]; trivial)
        have r_20_ : (gi s_9 1 17).toInt = (gi s_5 1 17).toInt := by rw [e_s_9]; rw [gsi_k (by first | decide | omega)]
        have b_21_ : 0 ≤ (gi s_9 1 17).toInt ∧ (gi s_9 1 17).toInt ≤ 10 := g_s_9.1.1 1 17
        have r_22_ : (gi s_10 1 17).toInt = (gi s_9 1 17).toInt := by rw [e_s_10]; rw [gsi_k (by first | decide | omega)]
        have b_23_ : 0 ≤ (gi s_10 1 17).toInt ∧ (gi s_10 1 17).toInt ≤ 10 := g_s_10.1.1 1 17
        have r_24_ : (gi s_11 1 17).toInt = (gi s_10 1 17).toInt := by rw [f_s_11 1 (by omega) (by omega)]
        have b_25_ : 0 ≤ (gi s_11 1 17).toInt ∧ (gi s_11 1 17).toInt ≤ 10 := g_s_11.1.1 1 17
        have r_26_ : (gi s_12 1 17).toInt = (gi s_11 1 17).toInt := by rw [e_s_12]; rw [gsi_k (by first | decide | omega)]
        have b_27_ : 0 ≤ (gi s_12 1 17).toInt ∧ (gi s_12 1 17).toInt ≤ 10 := g_s_12.1.1 1 17
        have r_28_ : (gi s_13 1 17).toInt = (gi s_12 1 17).toInt := by rw [e_s_13]; rw [gsi_k (by first | decide | omega)]
        have b_29_ : 0 ≤ (gi s_13 1 17).toInt ∧ (gi s_13 1 17).toInt ≤ 10 := g_s_13.1.1 1 17
        apply wp_bv_i
        intro s_14 e_s_14
        have g_s_14 : G9_ s0 s_14 := by rw [e_s_14]; exact G9_.si g_s_13 (by first | decide | omega) (show 0 ≤ ((((gi s_13 1 17) + 1) : Int32)).toInt ∧ ((((gi s_13 1 17) + 1) : Int32)).toInt ≤ 10 from ⟨by first | omega | (simp (disch := omega) only [ti_add, ti_sub, b2t_, b2f_, li_0, li_1, li_2, li_3, li_6, li_7, li_8, li_9, li_10, li_17, li_68, li_m1]; omega), by first | omega | (simp (disch := omega) only [ti_add, ti_sub, b2t_, b2f_, li_0, li_1, li_2, li_3, li_6, li_7, li_8, li_9, li_10, li_17, li_68, li_m1]; omega)⟩)
        have r_30_ : (gi s_14 1 17).toInt = ((((gi s_13 1 17) + 1) : Int32)).toInt := by rw [e_s_14]; rw [gsi_eq]
        try simp (disch := omega) only [ti_add, ti_sub, b2t_, b2f_, li_0, li_1, li_2, li_3, li_6, li_7, li_8, li_9, li_10, li_17, li_68, li_m1] at r_30_
        have b_31_ : 0 ≤ (gi s_14 1 17).toInt ∧ (gi s_14 1 17).toInt ≤ 10 := g_s_14.1.1 1 17
        exact wp_some_i (by subst hQ; exact g_s_14)
      · skip
        have b_32_ : 0 ≤ (gi s0 1 17).toInt ∧ (gi s0 1 17).toInt ≤ 10 := g_s0.1.1 1 17
        have r_33_ : (gi s_2 1 17).toInt = (gi s0 1 17).toInt := by rw [e_s_2]
        have b_34_ : 0 ≤ (gi s_2 1 17).toInt ∧ (gi s_2 1 17).toInt ≤ 10 := g_s_2.1.1 1 17
        have r_35_ : (gi s_4 1 17).toInt = (gi s_2 1 17).toInt := by rw [e_s_4]
        have b_36_ : 0 ≤ (gi s_4 1 17).toInt ∧ (gi s_4 1 17).toInt ≤ 10 := g_s_4.1.1 1 17
        have j_37_ := nlt_ti h_11_
        try simp (disch := omega) only [ti_add, ti_sub, b2t_, b2f_, li_0, li_1, li_2, li_3, li_6, li_7, li_8, li_9, li_10, li_17, li_68, li_m1] at j_37_
        exact wp_some_i (by subst hQ; exact g_s_4)
set_option maxHeartbeats 1000000 in
set_option maxRecDepth 20000 in
theorem lX9_span_21_b {Q : (Int32 × Sg) → Prop} (S_ : Sg) (hI_ : I9_ S_) (k_7 : Int32 → Int32 → Int32 → Sg → Option (Int32 × Sg)) (hk_7 : ∀ (z0_ : Int32) (z1_ : Int32) (z2_ : Int32) (z3_ : Sg), G9_ S_ z3_ → wp_ (k_7 z0_ z1_ z2_ z3_) Q)  : ∀ (n : Nat) (x2_8 : Int32) (x3_9 : Int32) (x4_10 : Int32) (x5_11 : Int32) (s_12 : Sg), G9_ S_ s_12 → 0 ≤ x5_11.toInt → (1000 - x5_11.toInt).toNat < n → wp_ (lo5 (fX9_span_21_b k_7) n x2_8 x3_9 x4_10 x5_11 s_12) Q := by
  intro n
  induction n with
  | zero =>
    intro x2_8 x3_9 x4_10 x5_11 s_12 _ _ hm_
    exact absurd hm_ (Nat.not_lt_zero _)
  | succ n ih =>
    intro x2_8 x3_9 x4_10 x5_11 s_12 g_s_12 i0_ hm_
    show wp_ (fX9_span_21_b k_7 (lo5 (fX9_span_21_b k_7) n) x2_8 x3_9 x4_10 x5_11 s_12) Q
    have hrec := ih
    generalize lo5 (fX9_span_21_b k_7) n = rc at hrec ⊢
    clear ih
    have hFU_ : FU = 1000000000 := rfl
    unfold fX9_span_21_b
    have L0_ := li_0
    have L1_ := li_1
    have L999_ := li_999
    have M1_ := li_m1
    refine wp_if_i (fun h_1_ => ?_) (fun h_1_ => ?_)
    · skip
      have j_2_ := lt_ti h_1_
      try simp (disch := omega) only [ti_add, ti_sub, b2t_, b2f_, li_0, li_1, li_999, li_m1] at j_2_
      exact hk_7 x2_8 x3_9 x4_10 s_12 g_s_12 
    · skip
      have j_3_ := nlt_ti h_1_
      try simp (disch := omega) only [ti_add, ti_sub, b2t_, b2f_, li_0, li_1, li_999, li_m1] at j_3_
      refine wp_bnd_i (tX9_fitsReadings x5_11 s_12 g_s_12.1 ) (fun r_13 s_14 p_s_14 => ?_)
      have g_s_14 := g_s_12.tr p_s_14
      refine wp_jn (fun k_18 => ∀ (x2_15 : Int32) (x3_16 : Int32) (x4_17 : Int32), wp_ (k_18 x2_15 x3_16 x4_17) Q) ?_ (fun k_18 hk_18 => ?_)
      · intro x2_15 x3_16 x4_17
        try dsimp only
        apply wp_bv_i
        intro v_19 e_v_19
        have j_4_ := eq_ti e_v_19
        try simp (disch := omega) only [ti_add, ti_sub, b2t_, b2f_, li_0, li_1, li_999, li_m1] at j_4_
        exact hrec x2_15 x3_16 x4_17 v_19 s_14 g_s_14 (by first | omega | (simp (disch := omega) only [ti_add, ti_sub, b2t_, b2f_, li_0, li_1, li_999, li_m1]; omega)) (by first | omega | (simp (disch := omega) only [ti_add, ti_sub, b2t_, b2f_, li_0, li_1, li_999, li_m1]; omega))
      refine wp_if_i (fun h_5_ => ?_) (fun h_5_ => ?_)
      · skip
        have b_6_ := b2i_bd r_13
        have j_7_ := eq_ti h_5_
        try simp (disch := omega) only [ti_add, ti_sub, b2t_, b2f_, li_0, li_1, li_999, li_m1] at j_7_
        exact hk_18 x2_8 x3_9 x4_10  
      · skip
        have b_8_ := b2i_bd r_13
        have j_9_ := ne_ti h_5_
        try simp (disch := omega) only [ti_add, ti_sub, b2t_, b2f_, li_0, li_1, li_999, li_m1] at j_9_
        apply wp_bv_i
        intro v_20 e_v_20
        have j_10_ := eq_ti e_v_20
        try simp (disch := omega) only [ti_add, ti_sub, b2t_, b2f_, li_0, li_1, li_999, li_m1] at j_10_
        refine wp_jn (fun k_22 => ∀ (y_21 : Int32), wp_ (k_22 y_21) Q) ?_ (fun k_22 hk_22 => ?_)
        · intro y_21
          try dsimp only
          exact hk_18 v_20 y_21 x5_11  
        refine wp_if_i (fun h_11_ => ?_) (fun h_11_ => ?_)
        · skip
          have j_12_ := eq_ti h_11_
          try simp (disch := omega) only [ti_add, ti_sub, b2t_, b2f_, li_0, li_1, li_999, li_m1] at j_12_
          exact hk_22 x5_11  
        · skip
          have j_13_ := ne_ti h_11_
          try simp (disch := omega) only [ti_add, ti_sub, b2t_, b2f_, li_0, li_1, li_999, li_m1] at j_13_
          exact hk_22 x3_9  
set_option maxHeartbeats 1000000 in
set_option maxRecDepth 20000 in
theorem tX9_span (a1 : Int32) (s0 : Sg) (h0 : I9_ s0)  : wp_ (fX9_span a1 s0) (fun q => G9_ s0 q.2) := by
  have g_s0 : G9_ s0 s0 := G9_.rf h0
  have hFU_ : FU = 1000000000 := rfl
  generalize hQ : (fun q : (Int32 × Sg) => G9_ s0 q.2) = Q
  unfold fX9_span
  have L0_ := li_0
  have L1_ := li_1
  have L2_ := li_2
  have M1_ := li_m1
  refine wp_bnd_i (tX9_within a1 0 2 s0 g_s0.1 ) (fun r_1 s_2 p_s_2 => ?_)
  have e_s_2 : s_2 = s0 := p_s_2.1
  have g_s_2 : G9_ s0 s_2 := by rw [e_s_2]; exact g_s0
  have f_s_2 := p_s_2.2
  try dsimp only at f_s_2
  try simp (disch := omega) only [ti_add, ti_sub, b2t_, b2f_, li_0, li_1, li_2, li_m1] at f_s_2
  refine wp_if_i (fun h_1_ => ?_) (fun h_1_ => ?_)
  · skip
    have b_2_ := b2i_bd r_1
    have j_3_ := eq_ti h_1_
    try simp (disch := omega) only [ti_add, ti_sub, b2t_, b2f_, li_0, li_1, li_2, li_m1] at j_3_
    exact wp_some_i (by subst hQ; exact g_s_2)
  · skip
    have b_4_ := b2i_bd r_1
    have j_5_ := ne_ti h_1_
    try simp (disch := omega) only [ti_add, ti_sub, b2t_, b2f_, li_0, li_1, li_2, li_m1] at j_5_
    refine wp_jn (fun k_7 => ∀ (x2_3 : Int32) (x3_4 : Int32) (x4_5 : Int32) (s_6 : Sg), G9_ s0 s_6 → wp_ (k_7 x2_3 x3_4 x4_5 s_6) Q) ?_ (fun k_7 hk_7 => ?_)
    · intro x2_3 x3_4 x4_5 s_6 g_s_6
      try dsimp only
      refine wp_if_i (fun h_6_ => ?_) (fun h_6_ => ?_)
      · skip
        have j_7_ := eq_ti h_6_
        try simp (disch := omega) only [ti_add, ti_sub, b2t_, b2f_, li_0, li_1, li_2, li_m1] at j_7_
        exact wp_some_i (by subst hQ; exact g_s_6)
      · skip
        have j_8_ := ne_ti h_6_
        try simp (disch := omega) only [ti_add, ti_sub, b2t_, b2f_, li_0, li_1, li_2, li_m1] at j_8_
        refine wp_if_i (fun h_9_ => ?_) (fun h_9_ => ?_)
        · skip
          have j_10_ := eq_ti h_9_
          try simp (disch := omega) only [ti_add, ti_sub, b2t_, b2f_, li_0, li_1, li_2, li_m1] at j_10_
          exact wp_some_i (by subst hQ; exact g_s_6)
        · skip
          have j_11_ := ne_ti h_9_
          try simp (disch := omega) only [ti_add, ti_sub, b2t_, b2f_, li_0, li_1, li_2, li_m1] at j_11_
          exact wp_some_i (by subst hQ; exact g_s_6)
    exact lX9_span_21_b s0 h0 k_7 hk_7  FU 0 (-1) (-1) 1 s_2 g_s_2 (by first | omega | (simp (disch := omega) only [ti_add, ti_sub, b2t_, b2f_, li_0, li_1, li_2, li_m1]; omega)) (by first | omega | (simp (disch := omega) only [ti_add, ti_sub, b2t_, b2f_, li_0, li_1, li_2, li_m1]; omega))
set_option maxHeartbeats 1000000 in
set_option maxRecDepth 20000 in
theorem lX9_bent_45_b {Q : (Int32 × Sg) → Prop} (S_ : Sg) (hI_ : I9_ S_) (x5_12 : Int32) (k_17 : Int32 → Int32 → Sg → Option (Int32 × Sg)) (hk_17 : ∀ (z0_ : Int32) (z1_ : Int32) (z2_ : Sg), z2_ = S_ → wp_ (k_17 z0_ z1_ z2_) Q)  : ∀ (n : Nat) (x3_19 : Int32) (x4_20 : Int32) (x6_21 : Int32) (s_22 : Sg), s_22 = S_ → 0 ≤ x6_21.toInt → (21 - x6_21.toInt).toNat < n → wp_ (lo4 (fX9_bent_45_b x5_12 k_17) n x3_19 x4_20 x6_21 s_22) Q := by
  intro n
  induction n with
  | zero =>
    intro x3_19 x4_20 x6_21 s_22 _ _ hm_
    exact absurd hm_ (Nat.not_lt_zero _)
  | succ n ih =>
    intro x3_19 x4_20 x6_21 s_22 e_s_22 i0_ hm_
    show wp_ (fX9_bent_45_b x5_12 k_17 (lo4 (fX9_bent_45_b x5_12 k_17) n) x3_19 x4_20 x6_21 s_22) Q
    have hrec := ih
    generalize lo4 (fX9_bent_45_b x5_12 k_17) n = rc at hrec ⊢
    clear ih
    have hFU_ : FU = 1000000000 := rfl
    unfold fX9_bent_45_b
    have L0_ := li_0
    have L1_ := li_1
    have L20_ := li_20
    have L100_ := li_100
    have M1_ := li_m1
    have g_s_22 : G9_ S_ s_22 := by rw [e_s_22]; exact G9_.rf hI_
    refine wp_if_i (fun h_1_ => ?_) (fun h_1_ => ?_)
    · skip
      have j_2_ := lt_ti h_1_
      try simp (disch := omega) only [ti_add, ti_sub, b2t_, b2f_, li_0, li_1, li_20, li_100, li_m1] at j_2_
      exact hk_17 x3_19 x4_20 s_22 (by rw [e_s_22]) 
    · skip
      have j_3_ := nlt_ti h_1_
      try simp (disch := omega) only [ti_add, ti_sub, b2t_, b2f_, li_0, li_1, li_20, li_100, li_m1] at j_3_
      refine wp_bnd_i (tX9_armsFitReadings x5_12 x6_21 s_22 g_s_22.1 ) (fun r_23 s_24 p_s_24 => ?_)
      have e_s_24 : s_24 = s_22 := p_s_24
      have g_s_24 : G9_ S_ s_24 := by rw [e_s_24]; exact g_s_22
      refine wp_jn (fun k_27 => ∀ (x3_25 : Int32) (x4_26 : Int32), wp_ (k_27 x3_25 x4_26) Q) ?_ (fun k_27 hk_27 => ?_)
      · intro x3_25 x4_26
        try dsimp only
        apply wp_bv_i
        intro v_28 e_v_28
        have j_4_ := eq_ti e_v_28
        try simp (disch := omega) only [ti_add, ti_sub, b2t_, b2f_, li_0, li_1, li_20, li_100, li_m1] at j_4_
        exact hrec x3_25 x4_26 v_28 s_24 (by rw [e_s_24, e_s_22]) (by first | omega | (simp (disch := omega) only [ti_add, ti_sub, b2t_, b2f_, li_0, li_1, li_20, li_100, li_m1]; omega)) (by first | omega | (simp (disch := omega) only [ti_add, ti_sub, b2t_, b2f_, li_0, li_1, li_20, li_100, li_m1]; omega))
      refine wp_if_i (fun h_5_ => ?_) (fun h_5_ => ?_)
      · skip
        have b_6_ := b2i_bd r_23
        have j_7_ := eq_ti h_5_
        try simp (disch := omega) only [ti_add, ti_sub, b2t_, b2f_, li_0, li_1, li_20, li_100, li_m1] at j_7_
        exact hk_27 x3_19 x4_20  
      · skip
        have b_8_ := b2i_bd r_23
        have j_9_ := ne_ti h_5_
        try simp (disch := omega) only [ti_add, ti_sub, b2t_, b2f_, li_0, li_1, li_20, li_100, li_m1] at j_9_
        apply wp_bv_i
        intro v_29 e_v_29
        have j_10_ := eq_ti e_v_29
        try simp (disch := omega) only [ti_add, ti_sub, b2t_, b2f_, li_0, li_1, li_20, li_100, li_m1] at j_10_
        refine wp_jn (fun k_31 => ∀ (y_30 : Int32), wp_ (k_31 y_30) Q) ?_ (fun k_31 hk_31 => ?_)
        · intro y_30
          try dsimp only
          exact hk_27 v_29 y_30  
        refine wp_if_i (fun h_11_ => ?_) (fun h_11_ => ?_)
        · skip
          have j_12_ := eq_ti h_11_
          try simp (disch := omega) only [ti_add, ti_sub, b2t_, b2f_, li_0, li_1, li_20, li_100, li_m1] at j_12_
          exact hk_31 ((100 * x5_12) + x6_21)  
        · skip
          have j_13_ := ne_ti h_11_
          try simp (disch := omega) only [ti_add, ti_sub, b2t_, b2f_, li_0, li_1, li_20, li_100, li_m1] at j_13_
          exact hk_31 x4_20  
set_option maxHeartbeats 1000000 in
set_option maxRecDepth 20000 in
theorem lX9_bent_35_b {Q : (Int32 × Sg) → Prop} (S_ : Sg) (hI_ : I9_ S_) (k_9 : Int32 → Int32 → Sg → Option (Int32 × Sg)) (hk_9 : ∀ (z0_ : Int32) (z1_ : Int32) (z2_ : Sg), z2_ = S_ → wp_ (k_9 z0_ z1_ z2_) Q)  : ∀ (n : Nat) (x3_10 : Int32) (x4_11 : Int32) (x5_12 : Int32) (s_13 : Sg), s_13 = S_ → 0 ≤ x5_12.toInt → (21 - x5_12.toInt).toNat < n → wp_ (lo4 (fX9_bent_35_b k_9) n x3_10 x4_11 x5_12 s_13) Q := by
  intro n
  induction n with
  | zero =>
    intro x3_10 x4_11 x5_12 s_13 _ _ hm_
    exact absurd hm_ (Nat.not_lt_zero _)
  | succ n ih =>
    intro x3_10 x4_11 x5_12 s_13 e_s_13 i0_ hm_
    show wp_ (fX9_bent_35_b k_9 (lo4 (fX9_bent_35_b k_9) n) x3_10 x4_11 x5_12 s_13) Q
    have hrec := ih
    generalize lo4 (fX9_bent_35_b k_9) n = rc at hrec ⊢
    clear ih
    have hFU_ : FU = 1000000000 := rfl
    unfold fX9_bent_35_b
    have L0_ := li_0
    have L1_ := li_1
    have L20_ := li_20
    have M1_ := li_m1
    have g_s_13 : G9_ S_ s_13 := by rw [e_s_13]; exact G9_.rf hI_
    refine wp_if_i (fun h_1_ => ?_) (fun h_1_ => ?_)
    · skip
      have j_2_ := lt_ti h_1_
      try simp (disch := omega) only [ti_add, ti_sub, b2t_, b2f_, li_0, li_1, li_20, li_m1] at j_2_
      exact hk_9 x3_10 x4_11 s_13 (by rw [e_s_13]) 
    · skip
      have j_3_ := nlt_ti h_1_
      try simp (disch := omega) only [ti_add, ti_sub, b2t_, b2f_, li_0, li_1, li_20, li_m1] at j_3_
      refine wp_jn (fun k_17 => ∀ (x3_14 : Int32) (x4_15 : Int32) (s_16 : Sg), s_16 = S_ → wp_ (k_17 x3_14 x4_15 s_16) Q) ?_ (fun k_17 hk_17 => ?_)
      · intro x3_14 x4_15 s_16 e_s_16
        have g_s_16 : G9_ S_ s_16 := by rw [e_s_16]; exact (G9_.rf hI_)
        try dsimp only
        apply wp_bv_i
        intro v_18 e_v_18
        have j_4_ := eq_ti e_v_18
        try simp (disch := omega) only [ti_add, ti_sub, b2t_, b2f_, li_0, li_1, li_20, li_m1] at j_4_
        exact hrec x3_14 x4_15 v_18 s_16 (by rw [e_s_16]) (by first | omega | (simp (disch := omega) only [ti_add, ti_sub, b2t_, b2f_, li_0, li_1, li_20, li_m1]; omega)) (by first | omega | (simp (disch := omega) only [ti_add, ti_sub, b2t_, b2f_, li_0, li_1, li_20, li_m1]; omega))
      exact lX9_bent_45_b S_ hI_ x5_12 k_17 hk_17  FU x3_10 x4_11 1 s_13 (by rw [e_s_13]) (by first | omega | (simp (disch := omega) only [ti_add, ti_sub, b2t_, b2f_, li_0, li_1, li_20, li_m1]; omega)) (by first | omega | (simp (disch := omega) only [ti_add, ti_sub, b2t_, b2f_, li_0, li_1, li_20, li_m1]; omega))
set_option maxHeartbeats 1000000 in
set_option maxRecDepth 20000 in
theorem tX9_bent (a1 : Int32) (a2 : Int32) (s0 : Sg) (h0 : I9_ s0)  : wp_ (fX9_bent a1 a2 s0) (fun q => G9_ s0 q.2) := by
  have g_s0 : G9_ s0 s0 := G9_.rf h0
  have hFU_ : FU = 1000000000 := rfl
  generalize hQ : (fun q : (Int32 × Sg) => G9_ s0 q.2) = Q
  unfold fX9_bent
  have L0_ := li_0
  have L1_ := li_1
  have L999_ := li_999
  have M1_ := li_m1
  refine wp_bnd_i (tX9_within a1 1 999 s0 g_s0.1 ) (fun r_1 s_2 p_s_2 => ?_)
  have e_s_2 : s_2 = s0 := p_s_2.1
  have g_s_2 : G9_ s0 s_2 := by rw [e_s_2]; exact g_s0
  have f_s_2 := p_s_2.2
  try dsimp only at f_s_2
  try simp (disch := omega) only [ti_add, ti_sub, b2t_, b2f_, li_0, li_1, li_999, li_m1] at f_s_2
  refine wp_if_i (fun h_1_ => ?_) (fun h_1_ => ?_)
  · skip
    have b_2_ := b2i_bd r_1
    have j_3_ := eq_ti h_1_
    try simp (disch := omega) only [ti_add, ti_sub, b2t_, b2f_, li_0, li_1, li_999, li_m1] at j_3_
    exact wp_some_i (by subst hQ; exact g_s_2)
  · skip
    have b_4_ := b2i_bd r_1
    have j_5_ := ne_ti h_1_
    try simp (disch := omega) only [ti_add, ti_sub, b2t_, b2f_, li_0, li_1, li_999, li_m1] at j_5_
    refine wp_bnd_i (tX9_within a2 0 1 s_2 g_s_2.1 ) (fun r_3 s_4 p_s_4 => ?_)
    have e_s_4 : s_4 = s_2 := p_s_4.1
    have g_s_4 : G9_ s0 s_4 := by rw [e_s_4]; exact g_s_2
    have f_s_4 := p_s_4.2
    try dsimp only at f_s_4
    try simp (disch := omega) only [ti_add, ti_sub, b2t_, b2f_, li_0, li_1, li_999, li_m1] at f_s_4
    refine wp_if_i (fun h_6_ => ?_) (fun h_6_ => ?_)
    · skip
      have b_7_ := b2i_bd r_3
      have j_8_ := eq_ti h_6_
      try simp (disch := omega) only [ti_add, ti_sub, b2t_, b2f_, li_0, li_1, li_999, li_m1] at j_8_
      exact wp_some_i (by subst hQ; exact g_s_4)
    · skip
      have b_9_ := b2i_bd r_3
      have j_10_ := ne_ti h_6_
      try simp (disch := omega) only [ti_add, ti_sub, b2t_, b2f_, li_0, li_1, li_999, li_m1] at j_10_
      refine wp_bnv_i (tX9_bearUnknown a1 s_4 g_s_4.1 ) (fun s_5 p_s_5 => ?_)
      have g_s_5 := g_s_4.tr p_s_5
      refine wp_jn (fun k_9 => ∀ (x3_6 : Int32) (x4_7 : Int32) (s_8 : Sg), G9_ s0 s_8 → wp_ (k_9 x3_6 x4_7 s_8) Q) ?_ (fun k_9 hk_9 => ?_)
      · intro x3_6 x4_7 s_8 g_s_8
        try dsimp only
        refine wp_if_i (fun h_11_ => ?_) (fun h_11_ => ?_)
        · skip
          have j_12_ := eq_ti h_11_
          try simp (disch := omega) only [ti_add, ti_sub, b2t_, b2f_, li_0, li_1, li_999, li_m1] at j_12_
          exact wp_some_i (by subst hQ; exact g_s_8)
        · skip
          have j_13_ := ne_ti h_11_
          try simp (disch := omega) only [ti_add, ti_sub, b2t_, b2f_, li_0, li_1, li_999, li_m1] at j_13_
          exact wp_some_i (by subst hQ; exact g_s_8)
      exact lX9_bent_35_b s_5 g_s_5.1 k_9 (fun z0_ z1_ z2_ e_  => hk_9 z0_ z1_ z2_ (by rw [e_]; exact g_s_5) )  FU 0 (-1) 1 s_5 rfl (by first | omega | (simp (disch := omega) only [ti_add, ti_sub, b2t_, b2f_, li_0, li_1, li_999, li_m1]; omega)) (by first | omega | (simp (disch := omega) only [ti_add, ti_sub, b2t_, b2f_, li_0, li_1, li_999, li_m1]; omega))
set_option maxHeartbeats 1000000 in
set_option maxRecDepth 20000 in
theorem lX9_rest_53_b {Q : (Int32 × Sg) → Prop} (S_ : Sg) (hI_ : I9_ S_) (a2 : Int32) (k_11 : Int32 → Int32 → Sg → Option (Int32 × Sg)) (hk_11 : ∀ (z0_ : Int32) (z1_ : Int32) (z2_ : Sg), G9_ S_ z2_ → wp_ (k_11 z0_ z1_ z2_) Q) (cp0_ : a2.toInt ≤ 99) : ∀ (n : Nat) (x4_12 : Int32) (x5_13 : Int32) (x6_14 : Int32) (x7_15 : Int32) (x8_16 : Int32) (s_17 : Sg), G9_ S_ s_17 → 0 ≤ x8_16.toInt → (99 - x8_16.toInt).toNat < n → wp_ (lo6 (fX9_rest_53_b a2 k_11) n x4_12 x5_13 x6_14 x7_15 x8_16 s_17) Q := by
  intro n
  induction n with
  | zero =>
    intro x4_12 x5_13 x6_14 x7_15 x8_16 s_17 _ _ hm_
    exact absurd hm_ (Nat.not_lt_zero _)
  | succ n ih =>
    intro x4_12 x5_13 x6_14 x7_15 x8_16 s_17 g_s_17 i0_ hm_
    show wp_ (fX9_rest_53_b a2 k_11 (lo6 (fX9_rest_53_b a2 k_11) n) x4_12 x5_13 x6_14 x7_15 x8_16 s_17) Q
    have hrec := ih
    generalize lo6 (fX9_rest_53_b a2 k_11) n = rc at hrec ⊢
    clear ih
    have hFU_ : FU = 1000000000 := rfl
    unfold fX9_rest_53_b
    have L0_ := li_0
    have L1_ := li_1
    have L2_ := li_2
    have L3_ := li_3
    have L4_ := li_4
    have L6_ := li_6
    have L9_ := li_9
    have L10_ := li_10
    have L19_ := li_19
    have L24_ := li_24
    have L43_ := li_43
    have L167_ := li_167
    have L30089_ := li_30089
    have M1_ := li_m1
    refine wp_if_i (fun h_1_ => ?_) (fun h_1_ => ?_)
    · skip
      have j_2_ := le_ti h_1_
      try simp (disch := omega) only [ti_add, ti_sub, b2t_, b2f_, li_0, li_1, li_2, li_3, li_4, li_6, li_9, li_10, li_19, li_24, li_43, li_167, li_30089, li_m1] at j_2_
      exact hk_11 x5_13 x7_15 s_17 g_s_17 
    · skip
      have j_3_ := nle_ti h_1_
      try simp (disch := omega) only [ti_add, ti_sub, b2t_, b2f_, li_0, li_1, li_2, li_3, li_4, li_6, li_9, li_10, li_19, li_24, li_43, li_167, li_30089, li_m1] at j_3_
      refine wp_bnv_i (tX4_setAir (((gi s_17 1 3) + x8_16) - ((gi s_17 1 3) + x8_16) / 24 * 24) (gi s_17 1 4) ((x4_12 - x4_12 / 19 * 19) - 9) s_17 g_s_17.1 ) (fun s_18 p_s_18 => ?_)
      have a_s_18 := p_s_18
      have g_s_18 := g_s_17.tr a_s_18.g
      refine wp_bnv_i (tX4_weigh (gi s_18 1 9) (gi s_18 1 10) s_18 g_s_18.1 ) (fun s_19 p_s_19 => ?_)
      have a_s_19 := p_s_19
      have g_s_19 := g_s_18.tr a_s_19.g
      refine wp_bnd_i (tX9_leaning (gi s_19 6 4) (gi s_19 1 2) s_19 g_s_19.1 ) (fun r_20 s_21 p_s_21 => ?_)
      have e_s_21 : s_21 = s_19 := p_s_21
      have g_s_21 : G9_ S_ s_21 := by rw [e_s_21]; exact g_s_19
      refine wp_jn (fun k_23 => ∀ (y_22 : Bool), wp_ (k_23 y_22) Q) ?_ (fun k_23 hk_23 => ?_)
      · intro y_22
        try dsimp only
        refine wp_jn (fun k_26 => ∀ (y_24 : Int32) (y_25 : Bool), wp_ (k_26 y_24 y_25) Q) ?_ (fun k_26 hk_26 => ?_)
        · intro y_24 y_25
          try dsimp only
          have b_4_ := b2i_bd y_25
          apply wp_bv_i
          intro v_27 e_v_27
          have j_5_ := eq_ti e_v_27
          try simp (disch := omega) only [ti_add, ti_sub, b2t_, b2f_, li_0, li_1, li_2, li_3, li_4, li_6, li_9, li_10, li_19, li_24, li_43, li_167, li_30089, li_m1] at j_5_
          refine wp_jn (fun k_29 => ∀ (y_28 : Int32), wp_ (k_29 y_28) Q) ?_ (fun k_29 hk_29 => ?_)
          · intro y_28
            try dsimp only
            apply wp_bv_i
            intro v_30 e_v_30
            have j_6_ := eq_ti e_v_30
            try simp (disch := omega) only [ti_add, ti_sub, b2t_, b2f_, li_0, li_1, li_2, li_3, li_4, li_6, li_9, li_10, li_19, li_24, li_43, li_167, li_30089, li_m1] at j_6_
            apply wp_bv_i
            intro v_31 e_v_31
            have j_7_ := eq_ti e_v_31
            try simp (disch := omega) only [ti_add, ti_sub, b2t_, b2f_, li_0, li_1, li_2, li_3, li_4, li_6, li_9, li_10, li_19, li_24, li_43, li_167, li_30089, li_m1] at j_7_
            apply wp_bv_i
            intro v_32 e_v_32
            have j_8_ := eq_ti e_v_32
            try simp (disch := omega) only [ti_add, ti_sub, b2t_, b2f_, li_0, li_1, li_2, li_3, li_4, li_6, li_9, li_10, li_19, li_24, li_43, li_167, li_30089, li_m1] at j_8_
            exact hrec v_31 v_27 y_28 v_30 v_32 s_21 g_s_21 (by first | omega | (simp (disch := omega) only [ti_add, ti_sub, b2t_, b2f_, li_0, li_1, li_2, li_3, li_4, li_6, li_9, li_10, li_19, li_24, li_43, li_167, li_30089, li_m1]; omega)) (by first | omega | (simp (disch := omega) only [ti_add, ti_sub, b2t_, b2f_, li_0, li_1, li_2, li_3, li_4, li_6, li_9, li_10, li_19, li_24, li_43, li_167, li_30089, li_m1]; omega))
          refine wp_if_i (fun h_9_ => ?_) (fun h_9_ => ?_)
          · skip
            have b_10_ := b2i_bd y_22
            have j_11_ := eq_ti h_9_
            try simp (disch := omega) only [ti_add, ti_sub, b2t_, b2f_, li_0, li_1, li_2, li_3, li_4, li_6, li_9, li_10, li_19, li_24, li_43, li_167, li_30089, li_m1] at j_11_
            exact hk_29 0  
          · skip
            have b_12_ := b2i_bd y_22
            have j_13_ := ne_ti h_9_
            try simp (disch := omega) only [ti_add, ti_sub, b2t_, b2f_, li_0, li_1, li_2, li_3, li_4, li_6, li_9, li_10, li_19, li_24, li_43, li_167, li_30089, li_m1] at j_13_
            exact hk_29 (x6_14 + 1)  
        refine wp_if_i (fun h_14_ => ?_) (fun h_14_ => ?_)
        · skip
          have b_15_ := b2i_bd y_22
          have j_16_ := eq_ti h_14_
          try simp (disch := omega) only [ti_add, ti_sub, b2t_, b2f_, li_0, li_1, li_2, li_3, li_4, li_6, li_9, li_10, li_19, li_24, li_43, li_167, li_30089, li_m1] at j_16_
          exact hk_26 x5_13 false  
        · skip
          have b_17_ := b2i_bd y_22
          have j_18_ := ne_ti h_14_
          try simp (disch := omega) only [ti_add, ti_sub, b2t_, b2f_, li_0, li_1, li_2, li_3, li_4, li_6, li_9, li_10, li_19, li_24, li_43, li_167, li_30089, li_m1] at j_18_
          exact hk_26 x5_13 true  
      refine wp_if_i (fun h_19_ => ?_) (fun h_19_ => ?_)
      · skip
        have j_20_ := eq_ti h_19_
        try simp (disch := omega) only [ti_add, ti_sub, b2t_, b2f_, li_0, li_1, li_2, li_3, li_4, li_6, li_9, li_10, li_19, li_24, li_43, li_167, li_30089, li_m1] at j_20_
        exact hk_23 true  
      · skip
        have j_21_ := ne_ti h_19_
        try simp (disch := omega) only [ti_add, ti_sub, b2t_, b2f_, li_0, li_1, li_2, li_3, li_4, li_6, li_9, li_10, li_19, li_24, li_43, li_167, li_30089, li_m1] at j_21_
        exact hk_23 false  
