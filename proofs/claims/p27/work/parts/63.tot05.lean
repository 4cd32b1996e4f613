set_option maxHeartbeats 1000000 in
set_option maxRecDepth 20000 in
theorem tX9_lift (a1 : Int32) (s0 : Sg) (h0 : I9_ s0)  : wp_ (fX9_lift a1 s0) (fun q => G9_ s0 q.2) := by
  have g_s0 : G9_ s0 s0 := G9_.rf h0
  have hFU_ : FU = 1000000000 := rfl
  generalize hQ : (fun q : (Bool × Sg) => G9_ s0 q.2) = Q
  unfold fX9_lift
  have L0_ := li_0
  have L1_ := li_1
  have L9_ := li_9
  have L10_ := li_10
  have L31_ := li_31
  have M1_ := li_m1
  refine wp_bnd_i (tX6_panOf a1 s0 g_s0.1 ) (fun r_1 s_2 p_s_2 => ?_)
  have e_s_2 : s_2 = s0 := p_s_2
  have g_s_2 : G9_ s0 s_2 := by rw [e_s_2]; exact g_s0
  refine wp_if_i (fun h_1_ => ?_) (fun h_1_ => ?_)
  · skip
    have j_2_ := eq_ti h_1_
    try simp (disch := omega) only [ti_add, ti_sub, b2t_, b2f_, li_0, li_1, li_9, li_10, li_31, li_m1] at j_2_
    exact wp_some_i (by subst hQ; exact g_s_2)
  · skip
    have j_3_ := ne_ti h_1_
    try simp (disch := omega) only [ti_add, ti_sub, b2t_, b2f_, li_0, li_1, li_9, li_10, li_31, li_m1] at j_3_
    apply wp_bv_i
    intro v_3 e_v_3
    have j_4_ := eq_ti e_v_3
    try simp (disch := omega) only [ti_add, ti_sub, b2t_, b2f_, li_0, li_1, li_9, li_10, li_31, li_m1] at j_4_
    refine wp_bnd_i (tX9_rearrange ((gi s_2 1 9) &&& v_3) ((gi s_2 1 10) &&& v_3) s_2 g_s_2.1 ) (fun r_4 s_5 p_s_5 => ?_)
    have g_s_5 := g_s_2.tr p_s_5
    exact wp_some_i (by subst hQ; exact g_s_5)
set_option maxHeartbeats 1000000 in
set_option maxRecDepth 20000 in
theorem tX9_put (a1 : Int32) (a2 : Int32) (s0 : Sg) (h0 : I9_ s0)  : wp_ (fX9_put a1 a2 s0) (fun q => G9_ s0 q.2) := by
  have g_s0 : G9_ s0 s0 := G9_.rf h0
  have hFU_ : FU = 1000000000 := rfl
  generalize hQ : (fun q : (Int32 × Sg) => G9_ s0 q.2) = Q
  unfold fX9_put
  have L0_ := li_0
  have L1_ := li_1
  have L2_ := li_2
  have L3_ := li_3
  have L6_ := li_6
  have M1_ := li_m1
  refine wp_bnd_i (tX9_lay a1 a2 s0 g_s0.1 ) (fun r_1 s_2 p_s_2 => ?_)
  have g_s_2 := g_s0.tr p_s_2
  refine wp_if_i (fun h_1_ => ?_) (fun h_1_ => ?_)
  · skip
    have b_2_ := b2i_bd r_1
    have j_3_ := eq_ti h_1_
    try simp (disch := omega) only [ti_add, ti_sub, b2t_, b2f_, li_0, li_1, li_2, li_3, li_6, li_m1] at j_3_
    exact wp_some_i (by subst hQ; exact g_s_2)
  · skip
    have b_4_ := b2i_bd r_1
    have j_5_ := ne_ti h_1_
    try simp (disch := omega) only [ti_add, ti_sub, b2t_, b2f_, li_0, li_1, li_2, li_3, li_6, li_m1] at j_5_
    refine wp_if_i (fun h_6_ => ?_) (fun h_6_ => ?_)
    · skip
      have j_7_ := eq_ti h_6_
      try simp (disch := omega) only [ti_add, ti_sub, b2t_, b2f_, li_0, li_1, li_2, li_3, li_6, li_m1] at j_7_
      exact wp_some_i (by subst hQ; exact g_s_2)
    · skip
      have j_8_ := ne_ti h_6_
      try simp (disch := omega) only [ti_add, ti_sub, b2t_, b2f_, li_0, li_1, li_2, li_3, li_6, li_m1] at j_8_
      exact wp_some_i (by subst hQ; exact g_s_2)
set_option maxHeartbeats 1000000 in
set_option maxRecDepth 20000 in
theorem tX9_take (a1 : Int32) (s0 : Sg) (h0 : I9_ s0)  : wp_ (fX9_take a1 s0) (fun q => G9_ s0 q.2) := by
  have g_s0 : G9_ s0 s0 := G9_.rf h0
  have hFU_ : FU = 1000000000 := rfl
  generalize hQ : (fun q : (Int32 × Sg) => G9_ s0 q.2) = Q
  unfold fX9_take
  have L0_ := li_0
  have L1_ := li_1
  have M1_ := li_m1
  refine wp_bnd_i (tX6_panOf a1 s0 g_s0.1 ) (fun r_1 s_2 p_s_2 => ?_)
  have e_s_2 : s_2 = s0 := p_s_2
  have g_s_2 : G9_ s0 s_2 := by rw [e_s_2]; exact g_s0
  refine wp_bnd_i (tX9_lift a1 s_2 g_s_2.1 ) (fun r_3 s_4 p_s_4 => ?_)
  have g_s_4 := g_s_2.tr p_s_4
  refine wp_if_i (fun h_1_ => ?_) (fun h_1_ => ?_)
  · skip
    have b_2_ := b2i_bd r_3
    have j_3_ := eq_ti h_1_
    try simp (disch := omega) only [ti_add, ti_sub, b2t_, b2f_, li_0, li_1, li_m1] at j_3_
    exact wp_some_i (by subst hQ; exact g_s_4)
  · skip
    have b_4_ := b2i_bd r_3
    have j_5_ := ne_ti h_1_
    try simp (disch := omega) only [ti_add, ti_sub, b2t_, b2f_, li_0, li_1, li_m1] at j_5_
    exact wp_some_i (by subst hQ; exact g_s_4)
set_option maxHeartbeats 1000000 in
set_option maxRecDepth 20000 in
theorem tX8_copyWorld_q (q0 : Nat) (a1 : Nat) (s0 : Sg) (h0 : I9_ s0) (hq : isRd q0 = true) (hq2 : isRd a1 = true) : wp_ (fX8_copyWorld_q q0 a1 s0) (fun q => G9_ s0 q) := by
  have g_s0 : G9_ s0 s0 := G9_.rf h0
  have hFU_ : FU = 1000000000 := rfl
  generalize hQ : (fun q : (Sg) => G9_ s0 q) = Q
  unfold fX8_copyWorld_q
  have L0_ := li_0
  have L1_ := li_1
  have L2_ := li_2
  have L3_ := li_3
  have L4_ := li_4
  have L5_ := li_5
  have M1_ := li_m1
  have cq0 := rd_rng hq
  have ca1 := rd_rng hq2
  apply wp_bv_i
  intro s_1 e_s_1
  have g_s_1 : G9_ s0 s_1 := by rw [e_s_1]; exact G9_.si g_s0 (Or.inr (by have z_ := hq; simp only [isRd, Bool.and_eq_true, decide_eq_true_eq] at z_; omega)) (by rw [bd_rd hq]; trivial)
  apply wp_bv_i
  intro s_2 e_s_2
  have g_s_2 : G9_ s0 s_2 := by rw [e_s_2]; exact G9_.si g_s_1 (Or.inr (by have z_ := hq; simp only [isRd, Bool.and_eq_true, decide_eq_true_eq] at z_; omega)) (by rw [bd_rd hq]; trivial)
  apply wp_bv_i
  intro s_3 e_s_3
  have g_s_3 : G9_ s0 s_3 := by rw [e_s_3]; exact G9_.si g_s_2 (Or.inr (by have z_ := hq; simp only [isRd, Bool.and_eq_true, decide_eq_true_eq] at z_; omega)) (by rw [bd_rd hq]; trivial)
  apply wp_bv_i
  intro s_4 e_s_4
  have g_s_4 : G9_ s0 s_4 := by rw [e_s_4]; exact G9_.si g_s_3 (Or.inr (by have z_ := hq; simp only [isRd, Bool.and_eq_true, decide_eq_true_eq] at z_; omega)) (by rw [bd_rd hq]; trivial)
  apply wp_bv_i
  intro s_5 e_s_5
  have g_s_5 : G9_ s0 s_5 := by rw [e_s_5]; exact G9_.si g_s_4 (Or.inr (by have z_ := hq; simp only [isRd, Bool.and_eq_true, decide_eq_true_eq] at z_; omega)) (by rw [bd_rd hq]; trivial)
  apply wp_bv_i
  intro s_6 e_s_6
  have g_s_6 : G9_ s0 s_6 := by rw [e_s_6]; exact G9_.si g_s_5 (Or.inr (by have z_ := hq; simp only [isRd, Bool.and_eq_true, decide_eq_true_eq] at z_; omega)) (by rw [bd_rd hq]; trivial)
  exact wp_some_i (by subst hQ; exact g_s_6)
set_option maxHeartbeats 1000000 in
set_option maxRecDepth 20000 in
theorem tX3_copyFrom (q0 : Nat) (a1 : Nat) (s0 : Sg) (h0 : I9_ s0) (hq : isRd q0 = true) (hq2 : isRd a1 = true) : wp_ (fX3_copyFrom q0 a1 s0) (fun q => G9_ s0 q) := by
  have g_s0 : G9_ s0 s0 := G9_.rf h0
  have hFU_ : FU = 1000000000 := rfl
  generalize hQ : (fun q : (Sg) => G9_ s0 q) = Q
  unfold fX3_copyFrom
  have L0_ := li_0
  have L1_ := li_1
  have L6_ := li_6
  have L7_ := li_7
  have L8_ := li_8
  have L9_ := li_9
  have M1_ := li_m1
  have cq0 := rd_rng hq
  have ca1 := rd_rng hq2
  refine wp_bnv_i (tX8_copyWorld_q q0 a1 s0 g_s0.1 hq (by assumption)) (fun s_1 p_s_1 => ?_)
  have g_s_1 := g_s0.tr p_s_1
  apply wp_bv_i
  intro s_2 e_s_2
  have g_s_2 : G9_ s0 s_2 := by rw [e_s_2]; exact G9_.si g_s_1 (Or.inr (by have z_ := hq; simp only [isRd, Bool.and_eq_true, decide_eq_true_eq] at z_; omega)) (by rw [bd_rd hq]; trivial)
  apply wp_bv_i
  intro s_3 e_s_3
  have g_s_3 : G9_ s0 s_3 := by rw [e_s_3]; exact G9_.si g_s_2 (Or.inr (by have z_ := hq; simp only [isRd, Bool.and_eq_true, decide_eq_true_eq] at z_; omega)) (by rw [bd_rd hq]; trivial)
  apply wp_bv_i
  intro s_4 e_s_4
  have g_s_4 : G9_ s0 s_4 := by rw [e_s_4]; exact G9_.si g_s_3 (Or.inr (by have z_ := hq; simp only [isRd, Bool.and_eq_true, decide_eq_true_eq] at z_; omega)) (by rw [bd_rd hq]; trivial)
  apply wp_bv_i
  intro s_5 e_s_5
  have g_s_5 : G9_ s0 s_5 := by rw [e_s_5]; exact G9_.si g_s_4 (Or.inr (by have z_ := hq; simp only [isRd, Bool.and_eq_true, decide_eq_true_eq] at z_; omega)) (by rw [bd_rd hq]; trivial)
  exact wp_some_i (by subst hQ; exact g_s_5)
set_option maxHeartbeats 1000000 in
set_option maxRecDepth 20000 in
theorem tX3_agrees (q0 : Nat) (a1 : Int32) (a2 : Int32) (s0 : Sg) (h0 : I9_ s0)  : wp_ (fX3_agrees q0 a1 a2 s0) (fun q => q.2 = s0) := by
  have g_s0 : G9_ s0 s0 := G9_.rf h0
  have hFU_ : FU = 1000000000 := rfl
  generalize hQ : (fun q : (Bool × Sg) => q.2 = s0) = Q
  unfold fX3_agrees
  have L0_ := li_0
  have L1_ := li_1
  have L2_ := li_2
  have L5_ := li_5
  have L6_ := li_6
  have L7_ := li_7
  have L8_ := li_8
  have L9_ := li_9
  have L10_ := li_10
  have M1_ := li_m1
  refine wp_jn (fun k_2 => ∀ (y_1 : Int32), wp_ (k_2 y_1) Q) ?_ (fun k_2 hk_2 => ?_)
  · intro y_1
    try dsimp only
    refine wp_jn (fun k_4 => ∀ (y_3 : Int32), wp_ (k_4 y_3) Q) ?_ (fun k_4 hk_4 => ?_)
    · intro y_3
      try dsimp only
      apply wp_bv_i
      intro v_5 e_v_5
      have j_1_ := eq_ti e_v_5
      try simp (disch := omega) only [ti_add, ti_sub, b2t_, b2f_, li_0, li_1, li_2, li_5, li_6, li_7, li_8, li_9, li_10, li_m1] at j_1_
      refine wp_bnd_i (tX9_leaning v_5 (gi s0 q0 2) s0 g_s0.1 ) (fun r_6 s_7 p_s_7 => ?_)
      have e_s_7 : s_7 = s0 := p_s_7
      have g_s_7 : G9_ s0 s_7 := by rw [e_s_7]; exact g_s0
      refine wp_if_i (fun h_2_ => ?_) (fun h_2_ => ?_)
      · skip
        have j_3_ := eq_ti h_2_
        try simp (disch := omega) only [ti_add, ti_sub, b2t_, b2f_, li_0, li_1, li_2, li_5, li_6, li_7, li_8, li_9, li_10, li_m1] at j_3_
        exact wp_some_i (by subst hQ; exact (by rw [e_s_7]))
      · skip
        have j_4_ := ne_ti h_2_
        try simp (disch := omega) only [ti_add, ti_sub, b2t_, b2f_, li_0, li_1, li_2, li_5, li_6, li_7, li_8, li_9, li_10, li_m1] at j_4_
        exact wp_some_i (by subst hQ; exact (by rw [e_s_7]))
    refine wp_if_i (fun h_5_ => ?_) (fun h_5_ => ?_)
    · skip
      have j_6_ := eq_ti h_5_
      try simp (disch := omega) only [ti_add, ti_sub, b2t_, b2f_, li_0, li_1, li_2, li_5, li_6, li_7, li_8, li_9, li_10, li_m1] at j_6_
      exact hk_4 ((gi s0 q0 9) + (gi s0 q0 10))  
    · skip
      have j_7_ := ne_ti h_5_
      try simp (disch := omega) only [ti_add, ti_sub, b2t_, b2f_, li_0, li_1, li_2, li_5, li_6, li_7, li_8, li_9, li_10, li_m1] at j_7_
      exact hk_4 (gi s0 q0 9)  
  refine wp_if_i (fun h_8_ => ?_) (fun h_8_ => ?_)
  · skip
    have j_9_ := eq_ti h_8_
    try simp (disch := omega) only [ti_add, ti_sub, b2t_, b2f_, li_0, li_1, li_2, li_5, li_6, li_7, li_8, li_9, li_10, li_m1] at j_9_
    exact hk_2 ((gi s0 q0 8) + (gi s0 q0 10))  
  · skip
    have j_10_ := ne_ti h_8_
    try simp (disch := omega) only [ti_add, ti_sub, b2t_, b2f_, li_0, li_1, li_2, li_5, li_6, li_7, li_8, li_9, li_10, li_m1] at j_10_
    exact hk_2 (gi s0 q0 8)  
set_option maxHeartbeats 1000000 in
set_option maxRecDepth 20000 in
theorem lX9_armsFitReadings_2_b {Q : (Bool × Sg) → Prop} (S_ : Sg) (hI_ : I9_ S_) (a1 : Int32) (a2 : Int32) (hsome : ∀ q : (Bool × Sg), q.2 = S_ → Q q)  : ∀ (n : Nat) (x3_1 : Int32) (s_2 : Sg), s_2 = S_ → 0 ≤ x3_1.toInt → (10 - x3_1.toInt).toNat < n → wp_ (lo2 (fX9_armsFitReadings_2_b a1 a2) n x3_1 s_2) Q := by
  intro n
  induction n with
  | zero =>
    intro x3_1 s_2 _ _ hm_
    exact absurd hm_ (Nat.not_lt_zero _)
  | succ n ih =>
    intro x3_1 s_2 e_s_2 i0_ hm_
    show wp_ (fX9_armsFitReadings_2_b a1 a2 (lo2 (fX9_armsFitReadings_2_b a1 a2) n) x3_1 s_2) Q
    have hrec := ih
    generalize lo2 (fX9_armsFitReadings_2_b a1 a2) n = rc at hrec ⊢
    clear ih
    have hFU_ : FU = 1000000000 := rfl
    unfold fX9_armsFitReadings_2_b
    have L0_ := li_0
    have L1_ := li_1
    have L10_ := li_10
    have L17_ := li_17
    have L68_ := li_68
    have M1_ := li_m1
    have g_s_2 : G9_ S_ s_2 := by rw [e_s_2]; exact G9_.rf hI_
    refine wp_if_i (fun h_1_ => ?_) (fun h_1_ => ?_)
    · skip
      have b_2_ : 0 ≤ (gi S_ 1 17).toInt ∧ (gi S_ 1 17).toInt ≤ 10 := (G9_.rf hI_).1.1 1 17
      have r_3_ : (gi s_2 1 17).toInt = (gi S_ 1 17).toInt := by rw [e_s_2]
      have b_4_ : 0 ≤ (gi s_2 1 17).toInt ∧ (gi s_2 1 17).toInt ≤ 10 := g_s_2.1.1 1 17
      have j_5_ := le_ti h_1_
      try simp (disch := omega) only [ti_add, ti_sub, b2t_, b2f_, li_0, li_1, li_10, li_17, li_68, li_m1] at j_5_
      exact wp_some_i (hsome (true, s_2) (by rw [e_s_2]))
    · skip
      have b_6_ : 0 ≤ (gi S_ 1 17).toInt ∧ (gi S_ 1 17).toInt ≤ 10 := (G9_.rf hI_).1.1 1 17
      have r_7_ : (gi s_2 1 17).toInt = (gi S_ 1 17).toInt := by rw [e_s_2]
      have b_8_ : 0 ≤ (gi s_2 1 17).toInt ∧ (gi s_2 1 17).toInt ≤ 10 := g_s_2.1.1 1 17
      have j_9_ := nle_ti h_1_
      try simp (disch := omega) only [ti_add, ti_sub, b2t_, b2f_, li_0, li_1, li_10, li_17, li_68, li_m1] at j_9_
      refine wp_chk_i (inb_ti (by first | omega | (simp (disch := omega) only [ti_add, ti_sub, b2t_, b2f_, li_0, li_1, li_10, li_17, li_68, li_m1]; omega)) (by first | omega | (simp (disch := omega) only [ti_add, ti_sub, b2t_, b2f_, li_0, li_1, li_10, li_17, li_68, li_m1]; omega))) ?_
      apply wp_bv_i
      intro q_4 e_q_4
      have hq_4 : isRd q_4 = true := (by rw [e_q_4]; exact rd_of 68 (by decide) (by first | omega | (simp (disch := omega) only [ti_add, ti_sub, b2t_, b2f_, li_0, li_1, li_10, li_17, li_68, li_m1]; omega)) (by first | omega | (simp (disch := omega) only [ti_add, ti_sub, b2t_, b2f_, li_0, li_1, li_10, li_17, li_68, li_m1]; omega)))
      have cq_4 := rd_rng hq_4
      refine wp_chk_i hq_4 ?_
      refine wp_bnd_i (tX3_agrees q_4 a1 a2 s_2 g_s_2.1 ) (fun r_6 s_7 p_s_7 => ?_)
      have e_s_7 : s_7 = s_2 := p_s_7
      have g_s_7 : G9_ S_ s_7 := by rw [e_s_7]; exact g_s_2
      refine wp_if_i (fun h_10_ => ?_) (fun h_10_ => ?_)
      · skip
        have b_11_ := b2i_bd r_6
        have j_12_ := eq_ti h_10_
        try simp (disch := omega) only [ti_add, ti_sub, b2t_, b2f_, li_0, li_1, li_10, li_17, li_68, li_m1] at j_12_
        exact wp_some_i (hsome (false, s_7) (by rw [e_s_7, e_s_2]))
      · skip
        have b_13_ := b2i_bd r_6
        have j_14_ := ne_ti h_10_
        try simp (disch := omega) only [ti_add, ti_sub, b2t_, b2f_, li_0, li_1, li_10, li_17, li_68, li_m1] at j_14_
        apply wp_bv_i
        intro v_8 e_v_8
        have j_15_ := eq_ti e_v_8
        try simp (disch := omega) only [ti_add, ti_sub, b2t_, b2f_, li_0, li_1, li_10, li_17, li_68, li_m1] at j_15_
        exact hrec v_8 s_7 (by rw [e_s_7, e_s_2]) (by first | omega | (simp (disch := omega) only [ti_add, ti_sub, b2t_, b2f_, li_0, li_1, li_10, li_17, li_68, li_m1]; omega)) (by first | omega | (simp (disch := omega) only [ti_add, ti_sub, b2t_, b2f_, li_0, li_1, li_10, li_17, li_68, li_m1]; omega))
set_option maxHeartbeats 1000000 in
set_option maxRecDepth 20000 in
theorem tX9_armsFitReadings (a1 : Int32) (a2 : Int32) (s0 : Sg) (h0 : I9_ s0)  : wp_ (fX9_armsFitReadings a1 a2 s0) (fun q => q.2 = s0) := by
  have g_s0 : G9_ s0 s0 := G9_.rf h0
  have hFU_ : FU = 1000000000 := rfl
  generalize hQ : (fun q : (Bool × Sg) => q.2 = s0) = Q
  unfold fX9_armsFitReadings
  have L0_ := li_0
  have L1_ := li_1
  have M1_ := li_m1
  exact lX9_armsFitReadings_2_b s0 h0 a1 a2  (fun q hq => by subst hQ; exact hq)  FU 0 s0 rfl (by first | omega | (simp (disch := omega) only [ti_add, ti_sub, b2t_, b2f_, li_0, li_1, li_m1]; omega)) (by first | omega | (simp (disch := omega) only [ti_add, ti_sub, b2t_, b2f_, li_0, li_1, li_m1]; omega))
set_option maxHeartbeats 1000000 in
set_option maxRecDepth 20000 in
theorem tX9_borneAt (a1 : Nat) (a2 : Int32) (s0 : Sg) (h0 : I9_ s0)  : wp_ (fX9_borneAt a1 a2 s0) (fun q => A9_ s0 q.2) := by
  have g_s0 : A9_ s0 s0 := A9_.rf h0
  have hFU_ : FU = 1000000000 := rfl
  generalize hQ : (fun q : (Int32 × Sg) => A9_ s0 q.2) = Q
  unfold fX9_borneAt
  have L0_ := li_0
  have L1_ := li_1
  have L3_ := li_3
  have L4_ := li_4
  have L5_ := li_5
  have L6_ := li_6
  have L12_ := li_12
  have L13_ := li_13
  have M1_ := li_m1
  refine wp_bnv_i (tX4_setAir (gi s0 a1 3) (gi s0 a1 4) (gi s0 a1 5) s0 g_s0.1 ) (fun s_1 p_s_1 => ?_)
  have g_s_1 := g_s0.tr p_s_1
  have a_s_1 := p_s_1
  refine wp_bnd_i (tX4_borne (gr s_1 1 13) 12 a2 0 (gi s_1 a1 6) s_1 g_s_1.1 g_s_1.1.2.1) (fun r_2 s_3 p_s_3 => ?_)
  have g_s_3 := g_s_1.tr p_s_3
  have a_s_3 := p_s_3
  exact wp_some_i (by subst hQ; exact g_s_3)
set_option maxHeartbeats 1000000 in
set_option maxRecDepth 20000 in
theorem lX9_fitsReadings_2_b {Q : (Bool × Sg) → Prop} (S_ : Sg) (hI_ : I9_ S_) (a1 : Int32) (hsome : ∀ q : (Bool × Sg), G9_ S_ q.2 → Q q)  : ∀ (n : Nat) (x2_1 : Int32) (s_2 : Sg), G9_ S_ s_2 → 0 ≤ x2_1.toInt → (10 - x2_1.toInt).toNat < n → wp_ (lo2 (fX9_fitsReadings_2_b a1) n x2_1 s_2) Q := by
  intro n
  induction n with
  | zero =>
    intro x2_1 s_2 _ _ hm_
    exact absurd hm_ (Nat.not_lt_zero _)
  | succ n ih =>
    intro x2_1 s_2 g_s_2 i0_ hm_
    show wp_ (fX9_fitsReadings_2_b a1 (lo2 (fX9_fitsReadings_2_b a1) n) x2_1 s_2) Q
    have hrec := ih
    generalize lo2 (fX9_fitsReadings_2_b a1) n = rc at hrec ⊢
    clear ih
    have hFU_ : FU = 1000000000 := rfl
    unfold fX9_fitsReadings_2_b
    have L0_ := li_0
    have L1_ := li_1
    have L10_ := li_10
    have L17_ := li_17
    have L68_ := li_68
    have M1_ := li_m1
    refine wp_if_i (fun h_1_ => ?_) (fun h_1_ => ?_)
    · skip
      have b_2_ : 0 ≤ (gi s_2 1 17).toInt ∧ (gi s_2 1 17).toInt ≤ 10 := g_s_2.1.1 1 17
      have j_3_ := le_ti h_1_
      try simp (disch := omega) only [ti_add, ti_sub, b2t_, b2f_, li_0, li_1, li_10, li_17, li_68, li_m1] at j_3_
      exact wp_some_i (hsome (true, s_2) g_s_2)
    · skip
      have b_4_ : 0 ≤ (gi s_2 1 17).toInt ∧ (gi s_2 1 17).toInt ≤ 10 := g_s_2.1.1 1 17
      have j_5_ := nle_ti h_1_
      try simp (disch := omega) only [ti_add, ti_sub, b2t_, b2f_, li_0, li_1, li_10, li_17, li_68, li_m1] at j_5_
      refine wp_chk_i (inb_ti (by first | omega | (simp (disch := omega) only [ti_add, ti_sub, b2t_, b2f_, li_0, li_1, li_10, li_17, li_68, li_m1]; omega)) (by first | omega | (simp (disch := omega) only [ti_add, ti_sub, b2t_, b2f_, li_0, li_1, li_10, li_17, li_68, li_m1]; omega))) ?_
      apply wp_bv_i
      intro q_4 e_q_4
      have hq_4 : isRd q_4 = true := (by rw [e_q_4]; exact rd_of 68 (by decide) (by first | omega | (simp (disch := omega) only [ti_add, ti_sub, b2t_, b2f_, li_0, li_1, li_10, li_17, li_68, li_m1]; omega)) (by first | omega | (simp (disch := omega) only [ti_add, ti_sub, b2t_, b2f_, li_0, li_1, li_10, li_17, li_68, li_m1]; omega)))
      have cq_4 := rd_rng hq_4
      refine wp_chk_i hq_4 ?_
      refine wp_bnd_i (tX9_borneAt q_4 a1 s_2 g_s_2.1 ) (fun r_6 s_7 p_s_7 => ?_)
      have a_s_7 := p_s_7
      have g_s_7 := g_s_2.tr a_s_7.g
      apply wp_bv_i
      intro s_8 e_s_8
      have g_s_8 : G9_ S_ s_8 := by rw [e_s_8]; exact G9_.si g_s_7 (Or.inr (by have z_ := hq_4; simp only [isRd, Bool.and_eq_true, decide_eq_true_eq] at z_; omega)) (by rw [bd_rd hq_4]; trivial)
      refine wp_bnd_i (tX3_agrees q_4 (gi s_8 q_4 0) (gi s_8 q_4 1) s_8 g_s_8.1 ) (fun r_9 s_10 p_s_10 => ?_)
      have e_s_10 : s_10 = s_8 := p_s_10
      have g_s_10 : G9_ S_ s_10 := by rw [e_s_10]; exact g_s_8
      refine wp_if_i (fun h_6_ => ?_) (fun h_6_ => ?_)
      · skip
        have b_7_ := b2i_bd r_9
        have j_8_ := eq_ti h_6_
        try simp (disch := omega) only [ti_add, ti_sub, b2t_, b2f_, li_0, li_1, li_10, li_17, li_68, li_m1] at j_8_
        exact wp_some_i (hsome (false, s_10) g_s_10)
      · skip
        have b_9_ := b2i_bd r_9
        have j_10_ := ne_ti h_6_
        try simp (disch := omega) only [ti_add, ti_sub, b2t_, b2f_, li_0, li_1, li_10, li_17, li_68, li_m1] at j_10_
        apply wp_bv_i
        intro v_11 e_v_11
        have j_11_ := eq_ti e_v_11
        try simp (disch := omega) only [ti_add, ti_sub, b2t_, b2f_, li_0, li_1, li_10, li_17, li_68, li_m1] at j_11_
        exact hrec v_11 s_10 g_s_10 (by first | omega | (simp (disch := omega) only [ti_add, ti_sub, b2t_, b2f_, li_0, li_1, li_10, li_17, li_68, li_m1]; omega)) (by first | omega | (simp (disch := omega) only [ti_add, ti_sub, b2t_, b2f_, li_0, li_1, li_10, li_17, li_68, li_m1]; omega))
