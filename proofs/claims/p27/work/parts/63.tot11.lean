set_option maxHeartbeats 1000000 in
set_option maxRecDepth 20000 in
theorem tX1_leastTurn (s0 : Sg) (h0 : I9_ s0)  : wp_ (fX1_leastTurn s0) (fun q => G9_ s0 q.2) := by
  have g_s0 : G9_ s0 s0 := G9_.rf h0
  have hFU_ : FU = 1000000000 := rfl
  generalize hQ : (fun q : (Int32 × Sg) => G9_ s0 q.2) = Q
  unfold fX1_leastTurn
  have L0_ := li_0
  have L1_ := li_1
  have L7_ := li_7
  have L25_ := li_25
  have L31_ := li_31
  have L1024_ := li_1024
  have L1000000000_ := li_1000000000
  have M1_ := li_m1
  have b_1_ : 0 ≤ (gi s0 7 1).toInt ∧ (gi s0 7 1).toInt ≤ 10 := g_s0.1.1 7 1
  have sh_2_ := shl_le (gi s0 7 1) 10 (by first | omega | (simp (disch := omega) only [ti_add, ti_sub, b2t_, b2f_, li_0, li_1, li_7, li_25, li_31, li_1024, li_1000000000, li_m1]; omega)) (by first | omega | (simp (disch := omega) only [ti_add, ti_sub, b2t_, b2f_, li_0, li_1, li_7, li_25, li_31, li_1024, li_1000000000, li_m1]; omega)) (by decide)
  try simp only [Nat.reducePow, Nat.cast_ofNat, Int.reducePow] at sh_2_
  apply wp_bv_i
  intro v_1 e_v_1
  have j_3_ := eq_ti e_v_1
  try simp (disch := omega) only [ti_add, ti_sub, b2t_, b2f_, li_0, li_1, li_7, li_25, li_31, li_1024, li_1000000000, li_m1] at j_3_
  refine wp_chk_i (inb_ti (by first | omega | (simp (disch := omega) only [ti_add, ti_sub, b2t_, b2f_, li_0, li_1, li_7, li_25, li_31, li_1024, li_1000000000, li_m1]; omega)) (by first | omega | (simp (disch := omega) only [ti_add, ti_sub, b2t_, b2f_, li_0, li_1, li_7, li_25, li_31, li_1024, li_1000000000, li_m1]; omega))) ?_
  apply wp_bv_i
  intro s_3 e_s_3
  have g_s_3 : G9_ s0 s_3 := by rw [e_s_3]; exact G9_.si g_s0 (by first | decide | omega) trivial
  apply wp_bv_i
  intro v_4 e_v_4
  have j_4_ := eq_ti e_v_4
  try simp (disch := omega) only [ti_add, ti_sub, b2t_, b2f_, li_0, li_1, li_7, li_25, li_31, li_1024, li_1000000000, li_m1] at j_4_
  refine wp_jn (fun k_6 => ∀ (s_5 : Sg), G9_ s0 s_5 → wp_ (k_6 s_5) Q) ?_ (fun k_6 hk_6 => ?_)
  · intro s_5 g_s_5
    try dsimp only
    refine wp_if_i (fun h_5_ => ?_) (fun h_5_ => ?_)
    · skip
      have j_6_ := eq_ti h_5_
      try simp (disch := omega) only [ti_add, ti_sub, b2t_, b2f_, li_0, li_1, li_7, li_25, li_31, li_1024, li_1000000000, li_m1] at j_6_
      exact wp_some_i (by subst hQ; exact g_s_5)
    · skip
      have j_7_ := ne_ti h_5_
      try simp (disch := omega) only [ti_add, ti_sub, b2t_, b2f_, li_0, li_1, li_7, li_25, li_31, li_1024, li_1000000000, li_m1] at j_7_
      exact wp_some_i (by subst hQ; exact g_s_5)
  exact lX1_leastTurn_20_b s0 h0 k_6 hk_6  FU v_4 s_3 g_s_3 (by first | omega | (simp (disch := omega) only [ti_add, ti_sub, b2t_, b2f_, li_0, li_1, li_7, li_25, li_31, li_1024, li_1000000000, li_m1]; omega)) (by first | omega | (simp (disch := omega) only [ti_add, ti_sub, b2t_, b2f_, li_0, li_1, li_7, li_25, li_31, li_1024, li_1000000000, li_m1]; omega))
set_option maxHeartbeats 1000000 in
set_option maxRecDepth 20000 in
theorem lX1_gentleThing_8_b {Q : (Int32 × Sg) → Prop} (S_ : Sg) (hI_ : I9_ S_) (a1 : Int32) (a2 : Int32) (hsome : ∀ q : (Int32 × Sg), q.2 = S_ → Q q) (cp0_ : a1.toInt ≤ 62) : ∀ (n : Nat) (x3_1 : Int32) (x4_2 : Int32) (x5_3 : Int32) (s_4 : Sg), s_4 = S_ → 0 ≤ x3_1.toInt ∧ x3_1.toInt ≤ 1023 → 0 ≤ x5_3.toInt → (63 - x5_3.toInt).toNat < n → wp_ (lo4 (fX1_gentleThing_8_b a1 a2) n x3_1 x4_2 x5_3 s_4) Q := by
  intro n
  induction n with
  | zero =>
    intro x3_1 x4_2 x5_3 s_4 _ _ _ hm_
    exact absurd hm_ (Nat.not_lt_zero _)
  | succ n ih =>
    intro x3_1 x4_2 x5_3 s_4 e_s_4 i0_ i1_ hm_
    show wp_ (fX1_gentleThing_8_b a1 a2 (lo4 (fX1_gentleThing_8_b a1 a2) n) x3_1 x4_2 x5_3 s_4) Q
    have hrec := ih
    generalize lo4 (fX1_gentleThing_8_b a1 a2) n = rc at hrec ⊢
    clear ih
    have hFU_ : FU = 1000000000 := rfl
    unfold fX1_gentleThing_8_b
    have L0_ := li_0
    have L1_ := li_1
    have L10_ := li_10
    have L21_ := li_21
    have L31_ := li_31
    have M1_ := li_m1
    have g_s_4 : G9_ S_ s_4 := by rw [e_s_4]; exact G9_.rf hI_
    refine wp_if_i (fun h_1_ => ?_) (fun h_1_ => ?_)
    · skip
      have j_2_ := lt_ti h_1_
      try simp (disch := omega) only [ti_add, ti_sub, b2t_, b2f_, li_0, li_1, li_10, li_21, li_31, li_m1] at j_2_
      exact wp_some_i (hsome (x4_2, s_4) (by rw [e_s_4]))
    · skip
      have j_3_ := nlt_ti h_1_
      try simp (disch := omega) only [ti_add, ti_sub, b2t_, b2f_, li_0, li_1, li_10, li_21, li_31, li_m1] at j_3_
      refine wp_bnd_i (tX1_nextMember x3_1 a2 s_4 g_s_4.1 (by first | omega | (simp (disch := omega) only [ti_add, ti_sub, b2t_, b2f_, li_0, li_1, li_10, li_21, li_31, li_m1]; omega))) (fun r_5 s_6 p_s_6 => ?_)
      have e_s_6 : s_6 = s_4 := p_s_6.1
      have g_s_6 : G9_ S_ s_6 := by rw [e_s_6]; exact g_s_4
      have f_s_6 := p_s_6.2
      try dsimp only at f_s_6
      try simp (disch := omega) only [ti_add, ti_sub, b2t_, b2f_, li_0, li_1, li_10, li_21, li_31, li_m1] at f_s_6
      refine wp_if_i (fun h_4_ => ?_) (fun h_4_ => ?_)
      · skip
        have j_5_ := eq_ti h_4_
        try simp (disch := omega) only [ti_add, ti_sub, b2t_, b2f_, li_0, li_1, li_10, li_21, li_31, li_m1] at j_5_
        exact wp_some_i (hsome ((-1), s_6) (by rw [e_s_6, e_s_4]))
      · skip
        have j_6_ := ne_ti h_4_
        try simp (disch := omega) only [ti_add, ti_sub, b2t_, b2f_, li_0, li_1, li_10, li_21, li_31, li_m1] at j_6_
        refine wp_chk_i (inb_ti (by first | omega | (simp (disch := omega) only [ti_add, ti_sub, b2t_, b2f_, li_0, li_1, li_10, li_21, li_31, li_m1]; omega)) (by first | omega | (simp (disch := omega) only [ti_add, ti_sub, b2t_, b2f_, li_0, li_1, li_10, li_21, li_31, li_m1]; omega))) ?_
        apply wp_bv_i
        intro v_8 e_v_8
        have j_7_ := eq_ti e_v_8
        try simp (disch := omega) only [ti_add, ti_sub, b2t_, b2f_, li_0, li_1, li_10, li_21, li_31, li_m1] at j_7_
        apply wp_bv_i
        intro v_9 e_v_9
        have z_ := bit_clr x3_1 r_5 (by omega) (by omega) (by omega) (by omega) (f_s_6.resolve_left (by omega)).2.2
        rw [← e_v_9] at z_
        have j_8_ := eq_ti e_v_9
        try simp (disch := omega) only [ti_add, ti_sub, b2t_, b2f_, li_0, li_1, li_10, li_21, li_31, li_m1] at j_8_
        apply wp_bv_i
        intro v_10 e_v_10
        have j_9_ := eq_ti e_v_10
        try simp (disch := omega) only [ti_add, ti_sub, b2t_, b2f_, li_0, li_1, li_10, li_21, li_31, li_m1] at j_9_
        exact hrec v_9 v_8 v_10 s_6 (by rw [e_s_6, e_s_4]) (by first | omega | (simp (disch := omega) only [ti_add, ti_sub, b2t_, b2f_, li_0, li_1, li_10, li_21, li_31, li_m1]; omega)) (by first | omega | (simp (disch := omega) only [ti_add, ti_sub, b2t_, b2f_, li_0, li_1, li_10, li_21, li_31, li_m1]; omega)) (by first | omega | (simp (disch := omega) only [ti_add, ti_sub, b2t_, b2f_, li_0, li_1, li_10, li_21, li_31, li_m1]; omega))
set_option maxHeartbeats 1000000 in
set_option maxRecDepth 20000 in
theorem tX1_gentleThing (a1 : Int32) (a2 : Int32) (s0 : Sg) (h0 : I9_ s0) (ha : a1.toInt ≤ 62) : wp_ (fX1_gentleThing a1 a2 s0) (fun q => q.2 = s0) := by
  have g_s0 : G9_ s0 s0 := G9_.rf h0
  have hFU_ : FU = 1000000000 := rfl
  generalize hQ : (fun q : (Int32 × Sg) => q.2 = s0) = Q
  unfold fX1_gentleThing
  have L0_ := li_0
  have L1_ := li_1
  have M1_ := li_m1
  exact lX1_gentleThing_8_b s0 h0 a1 a2  (fun q hq => by subst hQ; exact hq) (by first | omega | (simp (disch := omega) only [ti_add, ti_sub, b2t_, b2f_, li_0, li_1, li_m1]; omega)) FU 0 (-1) 0 s0 rfl (by first | omega | (simp (disch := omega) only [ti_add, ti_sub, b2t_, b2f_, li_0, li_1, li_m1]; omega)) (by first | omega | (simp (disch := omega) only [ti_add, ti_sub, b2t_, b2f_, li_0, li_1, li_m1]; omega)) (by first | omega | (simp (disch := omega) only [ti_add, ti_sub, b2t_, b2f_, li_0, li_1, li_m1]; omega))
set_option maxHeartbeats 1000000 in
set_option maxRecDepth 20000 in
theorem lX1_prepare_116_b {Q : (Sg) → Prop} (S_ : Sg) (hI_ : I9_ S_)  (hsome : ∀ q : (Sg), G9_ S_ q → Q q)  : ∀ (n : Nat) (x5_6 : Int32) (s_7 : Sg), G9_ S_ s_7 → 1 ≤ x5_6.toInt → (1024 - x5_6.toInt).toNat < n → wp_ (lo2 (fX1_prepare_116_b ) n x5_6 s_7) Q := by
  intro n
  induction n with
  | zero =>
    intro x5_6 s_7 _ _ hm_
    exact absurd hm_ (Nat.not_lt_zero _)
  | succ n ih =>
    intro x5_6 s_7 g_s_7 i0_ hm_
    show wp_ (fX1_prepare_116_b  (lo2 (fX1_prepare_116_b ) n) x5_6 s_7) Q
    have hrec := ih
    generalize lo2 (fX1_prepare_116_b ) n = rc at hrec ⊢
    clear ih
    have hFU_ : FU = 1000000000 := rfl
    unfold fX1_prepare_116_b
    have L0_ := li_0
    have L1_ := li_1
    have L4_ := li_4
    have L6_ := li_6
    have L7_ := li_7
    have L13_ := li_13
    have L22_ := li_22
    have L23_ := li_23
    have L24_ := li_24
    have L31_ := li_31
    have L1024_ := li_1024
    have L1000000000_ := li_1000000000
    have M1_ := li_m1
    refine wp_if_i (fun h_1_ => ?_) (fun h_1_ => ?_)
    · skip
      have b_2_ : 0 ≤ (gi s_7 7 1).toInt ∧ (gi s_7 7 1).toInt ≤ 10 := g_s_7.1.1 7 1
      have sh_3_ := shl_le (gi s_7 7 1) 10 (by first | omega | (simp (disch := omega) only [ti_add, ti_sub, b2t_, b2f_, li_0, li_1, li_4, li_6, li_7, li_13, li_22, li_23, li_24, li_31, li_1024, li_1000000000, li_m1]; omega)) (by first | omega | (simp (disch := omega) only [ti_add, ti_sub, b2t_, b2f_, li_0, li_1, li_4, li_6, li_7, li_13, li_22, li_23, li_24, li_31, li_1024, li_1000000000, li_m1]; omega)) (by decide)
      try simp only [Nat.reducePow, Nat.cast_ofNat, Int.reducePow] at sh_3_
      have j_4_ := le_ti h_1_
      try simp (disch := omega) only [ti_add, ti_sub, b2t_, b2f_, li_0, li_1, li_4, li_6, li_7, li_13, li_22, li_23, li_24, li_31, li_1024, li_1000000000, li_m1] at j_4_
      exact wp_some_i (hsome (s_7) g_s_7)
    · skip
      have b_5_ : 0 ≤ (gi s_7 7 1).toInt ∧ (gi s_7 7 1).toInt ≤ 10 := g_s_7.1.1 7 1
      have sh_6_ := shl_le (gi s_7 7 1) 10 (by first | omega | (simp (disch := omega) only [ti_add, ti_sub, b2t_, b2f_, li_0, li_1, li_4, li_6, li_7, li_13, li_22, li_23, li_24, li_31, li_1024, li_1000000000, li_m1]; omega)) (by first | omega | (simp (disch := omega) only [ti_add, ti_sub, b2t_, b2f_, li_0, li_1, li_4, li_6, li_7, li_13, li_22, li_23, li_24, li_31, li_1024, li_1000000000, li_m1]; omega)) (by decide)
      try simp only [Nat.reducePow, Nat.cast_ofNat, Int.reducePow] at sh_6_
      have j_7_ := nle_ti h_1_
      try simp (disch := omega) only [ti_add, ti_sub, b2t_, b2f_, li_0, li_1, li_4, li_6, li_7, li_13, li_22, li_23, li_24, li_31, li_1024, li_1000000000, li_m1] at j_7_
      refine wp_chk_i (inb_ti (by first | omega | (simp (disch := omega) only [ti_add, ti_sub, b2t_, b2f_, li_0, li_1, li_4, li_6, li_7, li_13, li_22, li_23, li_24, li_31, li_1024, li_1000000000, li_m1]; omega)) (by first | omega | (simp (disch := omega) only [ti_add, ti_sub, b2t_, b2f_, li_0, li_1, li_4, li_6, li_7, li_13, li_22, li_23, li_24, li_31, li_1024, li_1000000000, li_m1]; omega))) ?_
      refine wp_bnv_i (tX4_hang (gi s_7 22 (ix x5_6)) (gi s_7 23 (ix x5_6)) s_7 g_s_7.1 ) (fun s_9 p_s_9 => ?_)
      have a_s_9 := p_s_9
      have g_s_9 := g_s_7.tr a_s_9.g
      refine wp_bnd_i (tX4_isSafe (gr s_9 1 13) s_9 g_s_9.1 g_s_9.1.2.1) (fun r_10 s_11 p_s_11 => ?_)
      have a_s_11 := p_s_11
      have g_s_11 := g_s_9.tr a_s_11.g
      refine wp_jn (fun k_14 => ∀ (y_12 : Int32) (y_13 : Int32), 0 ≤ y_12.toInt ∧ y_12.toInt ≤ 1023 → wp_ (k_14 y_12 y_13) Q) ?_ (fun k_14 hk_14 => ?_)
      · intro y_12 y_13 u_0_k_14
        try dsimp only
        refine wp_chk_i (inb_ti (by first | omega | (simp (disch := omega) only [ti_add, ti_sub, b2t_, b2f_, li_0, li_1, li_4, li_6, li_7, li_13, li_22, li_23, li_24, li_31, li_1024, li_1000000000, li_m1]; omega)) (by first | omega | (simp (disch := omega) only [ti_add, ti_sub, b2t_, b2f_, li_0, li_1, li_4, li_6, li_7, li_13, li_22, li_23, li_24, li_31, li_1024, li_1000000000, li_m1]; omega))) ?_
        apply wp_bv_i
        intro s_16 e_s_16
        have g_s_16 : G9_ S_ s_16 := by rw [e_s_16]; exact G9_.si g_s_11 (by first | decide | omega) trivial
        apply wp_bv_i
        intro v_17 e_v_17
        have j_8_ := eq_ti e_v_17
        try simp (disch := omega) only [ti_add, ti_sub, b2t_, b2f_, li_0, li_1, li_4, li_6, li_7, li_13, li_22, li_23, li_24, li_31, li_1024, li_1000000000, li_m1] at j_8_
        exact hrec v_17 s_16 g_s_16 (by first | omega | (simp (disch := omega) only [ti_add, ti_sub, b2t_, b2f_, li_0, li_1, li_4, li_6, li_7, li_13, li_22, li_23, li_24, li_31, li_1024, li_1000000000, li_m1]; omega)) (by first | omega | (simp (disch := omega) only [ti_add, ti_sub, b2t_, b2f_, li_0, li_1, li_4, li_6, li_7, li_13, li_22, li_23, li_24, li_31, li_1024, li_1000000000, li_m1]; omega))
      refine wp_if_i (fun h_9_ => ?_) (fun h_9_ => ?_)
      · skip
        have b_10_ := b2i_bd r_10
        have j_11_ := eq_ti h_9_
        try simp (disch := omega) only [ti_add, ti_sub, b2t_, b2f_, li_0, li_1, li_4, li_6, li_7, li_13, li_22, li_23, li_24, li_31, li_1024, li_1000000000, li_m1] at j_11_
        exact hk_14 x5_6 1000000000  (by first | omega | (simp (disch := omega) only [ti_add, ti_sub, b2t_, b2f_, li_0, li_1, li_4, li_6, li_7, li_13, li_22, li_23, li_24, li_31, li_1024, li_1000000000, li_m1]; omega))
      · skip
        have b_12_ := b2i_bd r_10
        have j_13_ := ne_ti h_9_
        try simp (disch := omega) only [ti_add, ti_sub, b2t_, b2f_, li_0, li_1, li_4, li_6, li_7, li_13, li_22, li_23, li_24, li_31, li_1024, li_1000000000, li_m1] at j_13_
        exact hk_14 x5_6 (iabs (gi s_11 6 4))  (by first | omega | (simp (disch := omega) only [ti_add, ti_sub, b2t_, b2f_, li_0, li_1, li_4, li_6, li_7, li_13, li_22, li_23, li_24, li_31, li_1024, li_1000000000, li_m1]; omega))
set_option maxHeartbeats 1000000 in
set_option maxRecDepth 20000 in
theorem lX1_prepare_28_b {Q : (Sg) → Prop} (S_ : Sg) (hI_ : I9_ S_) (a3 : Int32) (a4 : Int32) (k_5 : Sg → Option (Sg)) (hk_5 : ∀ (z0_ : Sg), G9_ S_ z0_ → wp_ (k_5 z0_) Q)  : ∀ (n : Nat) (x5_18 : Int32) (s_19 : Sg), G9_ S_ s_19 → 0 ≤ x5_18.toInt → (12 - x5_18.toInt).toNat < n → wp_ (lo2 (fX1_prepare_28_b a3 a4 k_5) n x5_18 s_19) Q := by
  intro n
  induction n with
  | zero =>
    intro x5_18 s_19 _ _ hm_
    exact absurd hm_ (Nat.not_lt_zero _)
  | succ n ih =>
    intro x5_18 s_19 g_s_19 i0_ hm_
    show wp_ (fX1_prepare_28_b a3 a4 k_5 (lo2 (fX1_prepare_28_b a3 a4 k_5) n) x5_18 s_19) Q
    have hrec := ih
    generalize lo2 (fX1_prepare_28_b a3 a4 k_5) n = rc at hrec ⊢
    clear ih
    have hFU_ : FU = 1000000000 := rfl
    unfold fX1_prepare_28_b
    have L0_ := li_0
    have L1_ := li_1
    have L6_ := li_6
    have L7_ := li_7
    have L10_ := li_10
    have L21_ := li_21
    have L31_ := li_31
    have M1_ := li_m1
    refine wp_if_i (fun h_1_ => ?_) (fun h_1_ => ?_)
    · skip
      have b_2_ : 0 ≤ (gi s_19 1 6).toInt ∧ (gi s_19 1 6).toInt ≤ 12 := g_s_19.1.1 1 6
      have j_3_ := le_ti h_1_
      try simp (disch := omega) only [ti_add, ti_sub, b2t_, b2f_, li_0, li_1, li_6, li_7, li_10, li_21, li_31, li_m1] at j_3_
      exact hk_5 s_19 g_s_19 
    · skip
      have b_4_ : 0 ≤ (gi s_19 1 6).toInt ∧ (gi s_19 1 6).toInt ≤ 12 := g_s_19.1.1 1 6
      have j_5_ := nle_ti h_1_
      try simp (disch := omega) only [ti_add, ti_sub, b2t_, b2f_, li_0, li_1, li_6, li_7, li_10, li_21, li_31, li_m1] at j_5_
      refine wp_if_i (fun h_6_ => ?_) (fun h_6_ => ?_)
      · skip
        have b_7_ : 0 ≤ (gi s_19 7 1).toInt ∧ (gi s_19 7 1).toInt ≤ 10 := g_s_19.1.1 7 1
        have j_8_ := le_ti h_6_
        try simp (disch := omega) only [ti_add, ti_sub, b2t_, b2f_, li_0, li_1, li_6, li_7, li_10, li_21, li_31, li_m1] at j_8_
        exact hk_5 s_19 g_s_19 
      · skip
        have b_9_ : 0 ≤ (gi s_19 7 1).toInt ∧ (gi s_19 7 1).toInt ≤ 10 := g_s_19.1.1 7 1
        have j_10_ := nle_ti h_6_
        try simp (disch := omega) only [ti_add, ti_sub, b2t_, b2f_, li_0, li_1, li_6, li_7, li_10, li_21, li_31, li_m1] at j_10_
        refine wp_jn (fun k_21 => ∀ (s_20 : Sg), G9_ S_ s_20 → wp_ (k_21 s_20) Q) ?_ (fun k_21 hk_21 => ?_)
        · intro s_20 g_s_20
          try dsimp only
          apply wp_bv_i
          intro v_22 e_v_22
          have j_11_ := eq_ti e_v_22
          try simp (disch := omega) only [ti_add, ti_sub, b2t_, b2f_, li_0, li_1, li_6, li_7, li_10, li_21, li_31, li_m1] at j_11_
          exact hrec v_22 s_20 g_s_20 (by first | omega | (simp (disch := omega) only [ti_add, ti_sub, b2t_, b2f_, li_0, li_1, li_6, li_7, li_10, li_21, li_31, li_m1]; omega)) (by first | omega | (simp (disch := omega) only [ti_add, ti_sub, b2t_, b2f_, li_0, li_1, li_6, li_7, li_10, li_21, li_31, li_m1]; omega))
        refine wp_if_i (fun h_12_ => ?_) (fun h_12_ => ?_)
        · skip
          have j_13_ := eq_ti h_12_
          try simp (disch := omega) only [ti_add, ti_sub, b2t_, b2f_, li_0, li_1, li_6, li_7, li_10, li_21, li_31, li_m1] at j_13_
          apply wp_bv_i
          intro v_23 e_v_23
          have j_14_ := eq_ti e_v_23
          try simp (disch := omega) only [ti_add, ti_sub, b2t_, b2f_, li_0, li_1, li_6, li_7, li_10, li_21, li_31, li_m1] at j_14_
          refine wp_chk_i (inb_ti (by first | omega | (simp (disch := omega) only [ti_add, ti_sub, b2t_, b2f_, li_0, li_1, li_6, li_7, li_10, li_21, li_31, li_m1]; omega)) (by first | omega | (simp (disch := omega) only [ti_add, ti_sub, b2t_, b2f_, li_0, li_1, li_6, li_7, li_10, li_21, li_31, li_m1]; omega))) ?_
          apply wp_bv_i
          intro s_25 e_s_25
          have g_s_25 : G9_ S_ s_25 := by rw [e_s_25]; exact G9_.si g_s_19 (by first | decide | omega) trivial
          refine wp_bnd_i (tX4_borneOf x5_18 v_23 s_25 g_s_25.1 (by first | omega | (simp (disch := omega) only [ti_add, ti_sub, b2t_, b2f_, li_0, li_1, li_6, li_7, li_10, li_21, li_31, li_m1]; omega))) (fun r_26 s_27 p_s_27 => ?_)
          have a_s_27 := p_s_27
          have g_s_27 := g_s_25.tr a_s_27.g
          have r_15_ : (gi s_25 7 1).toInt = (gi s_19 7 1).toInt := by rw [e_s_25]; rw [gsi_k (by first | decide | omega)]
          have b_16_ : 0 ≤ (gi s_25 7 1).toInt ∧ (gi s_25 7 1).toInt ≤ 10 := g_s_25.1.1 7 1
          have sh_17_ := shl_le (gi s_25 7 1) 9 (by first | omega | (simp (disch := omega) only [ti_add, ti_sub, b2t_, b2f_, li_0, li_1, li_6, li_7, li_10, li_21, li_31, li_m1]; omega)) (by first | omega | (simp (disch := omega) only [ti_add, ti_sub, b2t_, b2f_, li_0, li_1, li_6, li_7, li_10, li_21, li_31, li_m1]; omega)) (by decide)
          try simp only [Nat.reducePow, Nat.cast_ofNat, Int.reducePow] at sh_17_
          refine wp_bnv_i (tX1_addToParts (1 <<< ((gi s_25 7 1) &&& 31)) v_23 r_26 s_27 g_s_27.1 (by first | omega | (simp (disch := omega) only [ti_add, ti_sub, b2t_, b2f_, li_0, li_1, li_6, li_7, li_10, li_21, li_31, li_m1]; omega))) (fun s_28 p_s_28 => ?_)
          have a_s_28 := p_s_28
          have g_s_28 := g_s_27.tr a_s_28.g
          have r_18_ : (gi s_27 7 1).toInt = (gi s_25 7 1).toInt := by rw [a_s_27.2.2.2 7 (by first | decide | omega) (by first | decide | omega) (by first | decide | omega)]
          have b_19_ : 0 ≤ (gi s_27 7 1).toInt ∧ (gi s_27 7 1).toInt ≤ 10 := g_s_27.1.1 7 1
          have r_20_ : (gi s_28 7 1).toInt = (gi s_27 7 1).toInt := by rw [a_s_28.2.2.2 7 (by first | decide | omega) (by first | decide | omega) (by first | decide | omega)]
          have b_21_ : 0 ≤ (gi s_28 7 1).toInt ∧ (gi s_28 7 1).toInt ≤ 10 := g_s_28.1.1 7 1
          apply wp_bv_i
          intro s_29 e_s_29
          have g_s_29 : G9_ S_ s_29 := by rw [e_s_29]; exact G9_.si g_s_28 (by first | decide | omega) (show 0 ≤ ((((gi s_28 7 1) + 1) : Int32)).toInt ∧ ((((gi s_28 7 1) + 1) : Int32)).toInt ≤ 10 from ⟨by first | omega | (simp (disch := omega) only [ti_add, ti_sub, b2t_, b2f_, li_0, li_1, li_6, li_7, li_10, li_21, li_31, li_m1]; omega), by first | omega | (simp (disch := omega) only [ti_add, ti_sub, b2t_, b2f_, li_0, li_1, li_6, li_7, li_10, li_21, li_31, li_m1]; omega)⟩)
          exact hk_21 s_29 g_s_29 
        · skip
          have j_22_ := ne_ti h_12_
          try simp (disch := omega) only [ti_add, ti_sub, b2t_, b2f_, li_0, li_1, li_6, li_7, li_10, li_21, li_31, li_m1] at j_22_
          exact hk_21 s_19 g_s_19 
set_option maxHeartbeats 1000000 in
set_option maxRecDepth 20000 in
theorem tX1_prepare (a3 : Int32) (a4 : Int32) (s0 : Sg) (h0 : I9_ s0)  : wp_ (fX1_prepare a3 a4 s0) (fun q => G9_ s0 q) := by
  have g_s0 : G9_ s0 s0 := G9_.rf h0
  have hFU_ : FU = 1000000000 := rfl
  generalize hQ : (fun q : (Sg) => G9_ s0 q) = Q
  unfold fX1_prepare
  have L0_ := li_0
  have L1_ := li_1
  have L2_ := li_2
  have L3_ := li_3
  have L6_ := li_6
  have L7_ := li_7
  have L22_ := li_22
  have L23_ := li_23
  have M1_ := li_m1
  apply wp_bv_i
  intro s_1 e_s_1
  have g_s_1 : G9_ s0 s_1 := by rw [e_s_1]; exact G9_.si g_s0 (by first | decide | omega) trivial
  apply wp_bv_i
  intro s_2 e_s_2
  have g_s_2 : G9_ s0 s_2 := by rw [e_s_2]; exact G9_.si g_s_1 (by first | decide | omega) trivial
  apply wp_bv_i
  intro s_3 e_s_3
  have g_s_3 : G9_ s0 s_3 := by rw [e_s_3]; exact G9_.si g_s_2 (by first | decide | omega) (show 0 ≤ ((0 : Int32)).toInt ∧ ((0 : Int32)).toInt ≤ 10 from ⟨by first | omega | (simp (disch := omega) only [ti_add, ti_sub, b2t_, b2f_, li_0, li_1, li_2, li_3, li_6, li_7, li_22, li_23, li_m1]; omega), by first | omega | (simp (disch := omega) only [ti_add, ti_sub, b2t_, b2f_, li_0, li_1, li_2, li_3, li_6, li_7, li_22, li_23, li_m1]; omega)⟩)
  refine wp_jn (fun k_5 => ∀ (s_4 : Sg), G9_ s0 s_4 → wp_ (k_5 s_4) Q) ?_ (fun k_5 hk_5 => ?_)
  · intro s_4 g_s_4
    try dsimp only
    exact lX1_prepare_116_b s0 h0   (fun q hq => by subst hQ; exact hq)  FU 1 s_4 g_s_4 (by first | omega | (simp (disch := omega) only [ti_add, ti_sub, b2t_, b2f_, li_0, li_1, li_2, li_3, li_6, li_7, li_22, li_23, li_m1]; omega)) (by first | omega | (simp (disch := omega) only [ti_add, ti_sub, b2t_, b2f_, li_0, li_1, li_2, li_3, li_6, li_7, li_22, li_23, li_m1]; omega))
  exact lX1_prepare_28_b s0 h0 a3 a4 k_5 hk_5  FU 0 s_3 g_s_3 (by first | omega | (simp (disch := omega) only [ti_add, ti_sub, b2t_, b2f_, li_0, li_1, li_2, li_3, li_6, li_7, li_22, li_23, li_m1]; omega)) (by first | omega | (simp (disch := omega) only [ti_add, ti_sub, b2t_, b2f_, li_0, li_1, li_2, li_3, li_6, li_7, li_22, li_23, li_m1]; omega))
set_option maxHeartbeats 1000000 in
set_option maxRecDepth 20000 in
theorem tX9_isLoadable (a1 : Int32) (a2 : Int32) (s0 : Sg) (h0 : I9_ s0)  : wp_ (fX9_isLoadable a1 a2 s0) (fun q => q.2 = s0) := by
  have g_s0 : G9_ s0 s0 := G9_.rf h0
  have hFU_ : FU = 1000000000 := rfl
  generalize hQ : (fun q : (Bool × Sg) => q.2 = s0) = Q
  unfold fX9_isLoadable
  have L0_ := li_0
  have L1_ := li_1
  have L6_ := li_6
  have L9_ := li_9
  have L10_ := li_10
  have L31_ := li_31
  have M1_ := li_m1
  have b_1_ : 0 ≤ (gi s0 1 6).toInt ∧ (gi s0 1 6).toInt ≤ 12 := g_s0.1.1 1 6
  apply wp_bv_i
  intro v_1 e_v_1
  have j_2_ := eq_ti e_v_1
  try simp (disch := omega) only [ti_add, ti_sub, b2t_, b2f_, li_0, li_1, li_6, li_9, li_10, li_31, li_m1] at j_2_
  apply wp_bv_i
  intro v_2 e_v_2
  have j_3_ := eq_ti e_v_2
  try simp (disch := omega) only [ti_add, ti_sub, b2t_, b2f_, li_0, li_1, li_6, li_9, li_10, li_31, li_m1] at j_3_
  refine wp_if_i (fun h_4_ => ?_) (fun h_4_ => ?_)
  · skip
    have j_5_ := eq_ti h_4_
    try simp (disch := omega) only [ti_add, ti_sub, b2t_, b2f_, li_0, li_1, li_6, li_9, li_10, li_31, li_m1] at j_5_
    refine wp_if_i (fun h_6_ => ?_) (fun h_6_ => ?_)
    · skip
      have j_7_ := eq_ti h_6_
      try simp (disch := omega) only [ti_add, ti_sub, b2t_, b2f_, li_0, li_1, li_6, li_9, li_10, li_31, li_m1] at j_7_
      refine wp_bnd_i (tJ6_bitCount_0f7a4 a1 s0 g_s0.1 ) (fun r_3 s_4 p_s_4 => ?_)
      have e_s_4 : s_4 = s0 := p_s_4.1
      have g_s_4 : G9_ s0 s_4 := by rw [e_s_4]; exact g_s0
      have f_s_4 := p_s_4.2
      try dsimp only at f_s_4
      try simp (disch := omega) only [ti_add, ti_sub, b2t_, b2f_, li_0, li_1, li_6, li_9, li_10, li_31, li_m1] at f_s_4
      refine wp_if_i (fun h_8_ => ?_) (fun h_8_ => ?_)
      · skip
        have j_9_ := lt_ti h_8_
        try simp (disch := omega) only [ti_add, ti_sub, b2t_, b2f_, li_0, li_1, li_6, li_9, li_10, li_31, li_m1] at j_9_
        exact wp_some_i (by subst hQ; exact (by rw [e_s_4]))
      · skip
        have j_10_ := nlt_ti h_8_
        try simp (disch := omega) only [ti_add, ti_sub, b2t_, b2f_, li_0, li_1, li_6, li_9, li_10, li_31, li_m1] at j_10_
        exact wp_some_i (by subst hQ; exact (by rw [e_s_4]))
    · skip
      have j_11_ := ne_ti h_6_
      try simp (disch := omega) only [ti_add, ti_sub, b2t_, b2f_, li_0, li_1, li_6, li_9, li_10, li_31, li_m1] at j_11_
      exact wp_some_i (by subst hQ; exact rfl)
  · skip
    have j_12_ := ne_ti h_4_
    try simp (disch := omega) only [ti_add, ti_sub, b2t_, b2f_, li_0, li_1, li_6, li_9, li_10, li_31, li_m1] at j_12_
    exact wp_some_i (by subst hQ; exact rfl)
set_option maxHeartbeats 1000000 in
set_option maxRecDepth 20000 in
theorem tX9_loadings (a1 : Int32) (a2 : Int32) (s0 : Sg) (h0 : I9_ s0)  : wp_ (fX9_loadings a1 a2 s0) (fun q => G9_ s0 q.2) := by
  have g_s0 : G9_ s0 s0 := G9_.rf h0
  have hFU_ : FU = 1000000000 := rfl
  generalize hQ : (fun q : (Int64 × Sg) => G9_ s0 q.2) = Q
  unfold fX9_loadings
  have L0_ := li_0
  have L1_ := li_1
  have M1_ := li_m1
  refine wp_bnd_i (tX9_isLoadable a1 a2 s0 g_s0.1 ) (fun r_1 s_2 p_s_2 => ?_)
  have e_s_2 : s_2 = s0 := p_s_2
  have g_s_2 : G9_ s0 s_2 := by rw [e_s_2]; exact g_s0
  refine wp_if_i (fun h_1_ => ?_) (fun h_1_ => ?_)
  · skip
    have b_2_ := b2i_bd r_1
    have j_3_ := eq_ti h_1_
    try simp (disch := omega) only [ti_add, ti_sub, b2t_, b2f_, li_0, li_1, li_m1] at j_3_
    exact wp_some_i (by subst hQ; exact g_s_2)
  · skip
    have b_4_ := b2i_bd r_1
    have j_5_ := ne_ti h_1_
    try simp (disch := omega) only [ti_add, ti_sub, b2t_, b2f_, li_0, li_1, li_m1] at j_5_
    refine wp_bnv_i (tX9_weighWhatLies s_2 g_s_2.1 ) (fun s_3 p_s_3 => ?_)
    have a_s_3 := p_s_3
    have g_s_3 := g_s_2.tr a_s_3.g
    refine wp_bnv_i (tX1_prepare a1 a2 s_3 g_s_3.1 ) (fun s_4 p_s_4 => ?_)
    have g_s_4 := g_s_3.tr p_s_4
    refine wp_bnd_i (tX1_count s_4 g_s_4.1 ) (fun r_5 s_6 p_s_6 => ?_)
    have g_s_6 := g_s_4.tr p_s_6
    exact wp_some_i (by subst hQ; exact g_s_6)
set_option maxHeartbeats 1000000 in
set_option maxRecDepth 20000 in
theorem tX9_gentle (a1 : Int32) (a2 : Int32) (a3 : Int32) (s0 : Sg) (h0 : I9_ s0)  : wp_ (fX9_gentle a1 a2 a3 s0) (fun q => G9_ s0 q.2) := by
  have g_s0 : G9_ s0 s0 := G9_.rf h0
  have hFU_ : FU = 1000000000 := rfl
  generalize hQ : (fun q : (Int32 × Sg) => G9_ s0 q.2) = Q
  unfold fX9_gentle
  have L0_ := li_0
  have L1_ := li_1
  have M1_ := li_m1
  refine wp_bnd_i (tX9_isLoadable a1 a2 s0 g_s0.1 ) (fun r_1 s_2 p_s_2 => ?_)
  have e_s_2 : s_2 = s0 := p_s_2
  have g_s_2 : G9_ s0 s_2 := by rw [e_s_2]; exact g_s0
  refine wp_if_i (fun h_1_ => ?_) (fun h_1_ => ?_)
  · skip
    have b_2_ := b2i_bd r_1
    have j_3_ := eq_ti h_1_
    try simp (disch := omega) only [ti_add, ti_sub, b2t_, b2f_, li_0, li_1, li_m1] at j_3_
    exact wp_some_i (by subst hQ; exact g_s_2)
  · skip
    have b_4_ := b2i_bd r_1
    have j_5_ := ne_ti h_1_
    try simp (disch := omega) only [ti_add, ti_sub, b2t_, b2f_, li_0, li_1, li_m1] at j_5_
    refine wp_bnd_i (tJ6_bitCount_0f7a4 a1 s_2 g_s_2.1 ) (fun r_3 s_4 p_s_4 => ?_)
    have e_s_4 : s_4 = s_2 := p_s_4.1
    have g_s_4 : G9_ s0 s_4 := by rw [e_s_4]; exact g_s_2
    have f_s_4 := p_s_4.2
    try dsimp only at f_s_4
    try simp (disch := omega) only [ti_add, ti_sub, b2t_, b2f_, li_0, li_1, li_m1] at f_s_4
    refine wp_bnd_i (tX9_within a3 (-1) (r_3 - 1) s_4 g_s_4.1 ) (fun r_5 s_6 p_s_6 => ?_)
    have e_s_6 : s_6 = s_4 := p_s_6.1
    have g_s_6 : G9_ s0 s_6 := by rw [e_s_6]; exact g_s_4
    have f_s_6 := p_s_6.2
    try dsimp only at f_s_6
    try simp (disch := omega) only [ti_add, ti_sub, b2t_, b2f_, li_0, li_1, li_m1] at f_s_6
    refine wp_if_i (fun h_6_ => ?_) (fun h_6_ => ?_)
    · skip
      have b_7_ := b2i_bd r_5
      have j_8_ := eq_ti h_6_
      try simp (disch := omega) only [ti_add, ti_sub, b2t_, b2f_, li_0, li_1, li_m1] at j_8_
      exact wp_some_i (by subst hQ; exact g_s_6)
    · skip
      have b_9_ := b2i_bd r_5
      have j_10_ := ne_ti h_6_
      try simp (disch := omega) only [ti_add, ti_sub, b2t_, b2f_, li_0, li_1, li_m1] at j_10_
      refine wp_bnv_i (tX9_weighWhatLies s_6 g_s_6.1 ) (fun s_7 p_s_7 => ?_)
      have a_s_7 := p_s_7
      have g_s_7 := g_s_6.tr a_s_7.g
      refine wp_bnv_i (tX1_prepare a1 a2 s_7 g_s_7.1 ) (fun s_8 p_s_8 => ?_)
      have g_s_8 := g_s_7.tr p_s_8
      refine wp_bnd_i (tX1_leastTurn s_8 g_s_8.1 ) (fun r_9 s_10 p_s_10 => ?_)
      have g_s_10 := g_s_8.tr p_s_10
      refine wp_if_i (fun h_11_ => ?_) (fun h_11_ => ?_)
      · skip
        have j_12_ := eq_ti h_11_
        try simp (disch := omega) only [ti_add, ti_sub, b2t_, b2f_, li_0, li_1, li_m1] at j_12_
        exact wp_some_i (by subst hQ; exact g_s_10)
      · skip
        have j_13_ := ne_ti h_11_
        try simp (disch := omega) only [ti_add, ti_sub, b2t_, b2f_, li_0, li_1, li_m1] at j_13_
        refine wp_if_i (fun h_14_ => ?_) (fun h_14_ => ?_)
        · skip
          have j_15_ := eq_ti h_14_
          try simp (disch := omega) only [ti_add, ti_sub, b2t_, b2f_, li_0, li_1, li_m1] at j_15_
          exact wp_some_i (by subst hQ; exact g_s_10)
        · skip
          have j_16_ := ne_ti h_14_
          try simp (disch := omega) only [ti_add, ti_sub, b2t_, b2f_, li_0, li_1, li_m1] at j_16_
          refine wp_bnd_i (tX1_gentleThing a3 r_9 s_10 g_s_10.1 (by first | omega | (simp (disch := omega) only [ti_add, ti_sub, b2t_, b2f_, li_0, li_1, li_m1]; omega))) (fun r_11 s_12 p_s_12 => ?_)
          have e_s_12 : s_12 = s_10 := p_s_12
          have g_s_12 : G9_ s0 s_12 := by rw [e_s_12]; exact g_s_10
          exact wp_some_i (by subst hQ; exact g_s_12)
set_option maxHeartbeats 1000000 in
set_option maxRecDepth 20000 in
theorem lX9_played_20_b {Q : (Int32 × Sg) → Prop} (S_ : Sg) (hI_ : I9_ S_) (q_4 : Nat) (hsome : ∀ q : (Int32 × Sg), G9_ S_ q.2 → Q q) (cp0_ : isScr q_4 = true) : ∀ (n : Nat) (x3_6 : Int32) (s_7 : Sg), G9_ S_ s_7 → 0 ≤ x3_6.toInt → (24 - x3_6.toInt).toNat < n → wp_ (lo2 (fX9_played_20_b q_4) n x3_6 s_7) Q := by
  intro n
  induction n with
  | zero =>
    intro x3_6 s_7 _ _ hm_
    exact absurd hm_ (Nat.not_lt_zero _)
  | succ n ih =>
    intro x3_6 s_7 g_s_7 i0_ hm_
    show wp_ (fX9_played_20_b q_4 (lo2 (fX9_played_20_b q_4) n) x3_6 s_7) Q
    have hrec := ih
    generalize lo2 (fX9_played_20_b q_4) n = rc at hrec ⊢
    clear ih
    have hFU_ : FU = 1000000000 := rfl
    unfold fX9_played_20_b
    have L0_ := li_0
    have L1_ := li_1
    have L2_ := li_2
    have L3_ := li_3
    have L4_ := li_4
    have L9_ := li_9
    have L21_ := li_21
    have L22_ := li_22
    have L23_ := li_23
    have L24_ := li_24
    have M1_ := li_m1
    have cq_4 := scr_cases cp0_
    refine wp_if_i (fun h_1_ => ?_) (fun h_1_ => ?_)
    · skip
      have b_2_ : 0 ≤ (gi s_7 q_4 9).toInt ∧ (gi s_7 q_4 9).toInt ≤ 24 := by have q_ := g_s_7.1.1 q_4 9; rw [bd_scr cp0_] at q_; exact q_
      have j_3_ := le_ti h_1_
      try simp (disch := omega) only [ti_add, ti_sub, b2t_, b2f_, li_0, li_1, li_2, li_3, li_4, li_9, li_21, li_22, li_23, li_24, li_m1] at j_3_
      exact wp_some_i (hsome ((-1), s_7) g_s_7)
    · skip
      have b_4_ : 0 ≤ (gi s_7 q_4 9).toInt ∧ (gi s_7 q_4 9).toInt ≤ 24 := by have q_ := g_s_7.1.1 q_4 9; rw [bd_scr cp0_] at q_; exact q_
      have j_5_ := nle_ti h_1_
      try simp (disch := omega) only [ti_add, ti_sub, b2t_, b2f_, li_0, li_1, li_2, li_3, li_4, li_9, li_21, li_22, li_23, li_24, li_m1] at j_5_
      refine wp_chk_i (inb_ti (by first | omega | (simp (disch := omega) only [ti_add, ti_sub, b2t_, b2f_, li_0, li_1, li_2, li_3, li_4, li_9, li_21, li_22, li_23, li_24, li_m1]; omega)) (by first | omega | (simp (disch := omega) only [ti_add, ti_sub, b2t_, b2f_, li_0, li_1, li_2, li_3, li_4, li_9, li_21, li_22, li_23, li_24, li_m1]; omega))) ?_
      refine wp_jn (fun k_11 => ∀ (y_9 : Bool) (s_10 : Sg), G9_ S_ s_10 → wp_ (k_11 y_9 s_10) Q) ?_ (fun k_11 hk_11 => ?_)
      · intro y_9 s_10 g_s_10
        try dsimp only
        refine wp_if_i (fun h_6_ => ?_) (fun h_6_ => ?_)
        · skip
          have b_7_ := b2i_bd y_9
          have j_8_ := eq_ti h_6_
          try simp (disch := omega) only [ti_add, ti_sub, b2t_, b2f_, li_0, li_1, li_2, li_3, li_4, li_9, li_21, li_22, li_23, li_24, li_m1] at j_8_
          exact wp_some_i (hsome (x3_6, s_10) g_s_10)
        · skip
          have b_9_ := b2i_bd y_9
          have j_10_ := ne_ti h_6_
          try simp (disch := omega) only [ti_add, ti_sub, b2t_, b2f_, li_0, li_1, li_2, li_3, li_4, li_9, li_21, li_22, li_23, li_24, li_m1] at j_10_
          apply wp_bv_i
          intro v_12 e_v_12
          have j_11_ := eq_ti e_v_12
          try simp (disch := omega) only [ti_add, ti_sub, b2t_, b2f_, li_0, li_1, li_2, li_3, li_4, li_9, li_21, li_22, li_23, li_24, li_m1] at j_11_
          exact hrec v_12 s_10 g_s_10 (by first | omega | (simp (disch := omega) only [ti_add, ti_sub, b2t_, b2f_, li_0, li_1, li_2, li_3, li_4, li_9, li_21, li_22, li_23, li_24, li_m1]; omega)) (by first | omega | (simp (disch := omega) only [ti_add, ti_sub, b2t_, b2f_, li_0, li_1, li_2, li_3, li_4, li_9, li_21, li_22, li_23, li_24, li_m1]; omega))
      refine wp_if_i (fun h_12_ => ?_) (fun h_12_ => ?_)
      · skip
        have j_13_ := eq_ti h_12_
        try simp (disch := omega) only [ti_add, ti_sub, b2t_, b2f_, li_0, li_1, li_2, li_3, li_4, li_9, li_21, li_22, li_23, li_24, li_m1] at j_13_
        refine wp_bnd_i (tX9_lay (gi s_7 (q_4 + 3) (ix x3_6)) (gi s_7 (q_4 + 4) (ix x3_6)) s_7 g_s_7.1 ) (fun r_13 s_14 p_s_14 => ?_)
        have g_s_14 := g_s_7.tr p_s_14
        exact hk_11 r_13 s_14 g_s_14 
      · skip
        have j_14_ := ne_ti h_12_
        try simp (disch := omega) only [ti_add, ti_sub, b2t_, b2f_, li_0, li_1, li_2, li_3, li_4, li_9, li_21, li_22, li_23, li_24, li_m1] at j_14_
        refine wp_if_i (fun h_15_ => ?_) (fun h_15_ => ?_)
        · skip
          have j_16_ := eq_ti h_15_
          try simp (disch := omega) only [ti_add, ti_sub, b2t_, b2f_, li_0, li_1, li_2, li_3, li_4, li_9, li_21, li_22, li_23, li_24, li_m1] at j_16_
          refine wp_bnd_i (tX9_lift (gi s_7 (q_4 + 3) (ix x3_6)) s_7 g_s_7.1 ) (fun r_16 s_17 p_s_17 => ?_)
          have g_s_17 := g_s_7.tr p_s_17
          exact hk_11 r_16 s_17 g_s_17 
        · skip
          have j_17_ := ne_ti h_15_
          try simp (disch := omega) only [ti_add, ti_sub, b2t_, b2f_, li_0, li_1, li_2, li_3, li_4, li_9, li_21, li_22, li_23, li_24, li_m1] at j_17_
          refine wp_if_i (fun h_18_ => ?_) (fun h_18_ => ?_)
          · skip
            have j_19_ := eq_ti h_18_
            try simp (disch := omega) only [ti_add, ti_sub, b2t_, b2f_, li_0, li_1, li_2, li_3, li_4, li_9, li_21, li_22, li_23, li_24, li_m1] at j_19_
            refine wp_bnd_i (tX9_passHours (gi s_7 (q_4 + 3) (ix x3_6)) s_7 g_s_7.1 ) (fun r_19 s_20 p_s_20 => ?_)
            have g_s_20 := g_s_7.tr p_s_20
            exact hk_11 r_19 s_20 g_s_20 
          · skip
            have j_20_ := ne_ti h_18_
            try simp (disch := omega) only [ti_add, ti_sub, b2t_, b2f_, li_0, li_1, li_2, li_3, li_4, li_9, li_21, li_22, li_23, li_24, li_m1] at j_20_
            exact hk_11 true s_7 g_s_7 
