set_option maxHeartbeats 1000000 in
set_option maxRecDepth 20000 in
theorem lX1_addToParts_3_b {Q : (Sg) → Prop} (S_ : Sg) (hI_ : I9_ S_) (a1 : Int32) (a2 : Int32) (a3 : Int32) (hsome : ∀ q : (Sg), O9_ S_ q → Q q) (cp0_ : 1 ≤ a1.toInt ∧ a1.toInt ≤ 512) : ∀ (n : Nat) (x4_1 : Int32) (s_2 : Sg), O9_ S_ s_2 → 0 ≤ x4_1.toInt → (1024 - x4_1.toInt).toNat < n → wp_ (lo2 (fX1_addToParts_3_b a1 a2 a3) n x4_1 s_2) Q := by
  intro n
  induction n with
  | zero =>
    intro x4_1 s_2 _ _ hm_
    exact absurd hm_ (Nat.not_lt_zero _)
  | succ n ih =>
    intro x4_1 s_2 g_s_2 i0_ hm_
    show wp_ (fX1_addToParts_3_b a1 a2 a3 (lo2 (fX1_addToParts_3_b a1 a2 a3) n) x4_1 s_2) Q
    have hrec := ih
    generalize lo2 (fX1_addToParts_3_b a1 a2 a3) n = rc at hrec ⊢
    clear ih
    have hFU_ : FU = 1000000000 := rfl
    unfold fX1_addToParts_3_b
    have L0_ := li_0
    have L1_ := li_1
    have L22_ := li_22
    have L23_ := li_23
    have L1024_ := li_1024
    have M1_ := li_m1
    refine wp_if_i (fun h_1_ => ?_) (fun h_1_ => ?_)
    · skip
      have j_2_ := le_ti h_1_
      try simp (disch := omega) only [ti_add, ti_sub, b2t_, b2f_, li_0, li_1, li_22, li_23, li_1024, li_m1] at j_2_
      exact wp_some_i (hsome (s_2) g_s_2)
    · skip
      have j_3_ := nle_ti h_1_
      try simp (disch := omega) only [ti_add, ti_sub, b2t_, b2f_, li_0, li_1, li_22, li_23, li_1024, li_m1] at j_3_
      refine wp_chk_i (inb_ti (by first | omega | (simp (disch := omega) only [ti_add, ti_sub, b2t_, b2f_, li_0, li_1, li_22, li_23, li_1024, li_m1]; omega)) (by first | omega | (simp (disch := omega) only [ti_add, ti_sub, b2t_, b2f_, li_0, li_1, li_22, li_23, li_1024, li_m1]; omega))) ?_
      refine wp_jn (fun k_7 => ∀ (y_4 : Int32) (y_5 : Int32) (y_6 : Int32), 0 ≤ y_4.toInt ∧ y_4.toInt ≤ 1023 → wp_ (k_7 y_4 y_5 y_6) Q) ?_ (fun k_7 hk_7 => ?_)
      · intro y_4 y_5 y_6 u_0_k_7
        try dsimp only
        refine wp_chk_i (inb_ti (by first | omega | (simp (disch := omega) only [ti_add, ti_sub, b2t_, b2f_, li_0, li_1, li_22, li_23, li_1024, li_m1]; omega)) (by first | omega | (simp (disch := omega) only [ti_add, ti_sub, b2t_, b2f_, li_0, li_1, li_22, li_23, li_1024, li_m1]; omega))) ?_
        apply wp_bv_i
        intro s_9 e_s_9
        have g_s_9 : O9_ S_ s_9 := by rw [e_s_9]; exact O9_.si g_s_2 (by first | decide | omega) trivial
        refine wp_chk_i (inb_ti (by first | omega | (simp (disch := omega) only [ti_add, ti_sub, b2t_, b2f_, li_0, li_1, li_22, li_23, li_1024, li_m1]; omega)) (by first | omega | (simp (disch := omega) only [ti_add, ti_sub, b2t_, b2f_, li_0, li_1, li_22, li_23, li_1024, li_m1]; omega))) ?_
        refine wp_jn (fun k_14 => ∀ (y_11 : Int32) (y_12 : Int32) (y_13 : Int32), 0 ≤ y_11.toInt ∧ y_11.toInt ≤ 1023 → wp_ (k_14 y_11 y_12 y_13) Q) ?_ (fun k_14 hk_14 => ?_)
        · intro y_11 y_12 y_13 u_0_k_14
          try dsimp only
          refine wp_chk_i (inb_ti (by first | omega | (simp (disch := omega) only [ti_add, ti_sub, b2t_, b2f_, li_0, li_1, li_22, li_23, li_1024, li_m1]; omega)) (by first | omega | (simp (disch := omega) only [ti_add, ti_sub, b2t_, b2f_, li_0, li_1, li_22, li_23, li_1024, li_m1]; omega))) ?_
          apply wp_bv_i
          intro s_16 e_s_16
          have g_s_16 : O9_ S_ s_16 := by rw [e_s_16]; exact O9_.si g_s_9 (by first | decide | omega) trivial
          apply wp_bv_i
          intro v_17 e_v_17
          have j_4_ := eq_ti e_v_17
          try simp (disch := omega) only [ti_add, ti_sub, b2t_, b2f_, li_0, li_1, li_22, li_23, li_1024, li_m1] at j_4_
          exact hrec v_17 s_16 g_s_16 (by first | omega | (simp (disch := omega) only [ti_add, ti_sub, b2t_, b2f_, li_0, li_1, li_22, li_23, li_1024, li_m1]; omega)) (by first | omega | (simp (disch := omega) only [ti_add, ti_sub, b2t_, b2f_, li_0, li_1, li_22, li_23, li_1024, li_m1]; omega))
        refine wp_if_i (fun h_5_ => ?_) (fun h_5_ => ?_)
        · skip
          have j_6_ := eq_ti h_5_
          try simp (disch := omega) only [ti_add, ti_sub, b2t_, b2f_, li_0, li_1, li_22, li_23, li_1024, li_m1] at j_6_
          exact hk_14 (a1 + x4_1) (gi s_9 23 (ix x4_1)) a3  (by first | omega | (simp (disch := omega) only [ti_add, ti_sub, b2t_, b2f_, li_0, li_1, li_22, li_23, li_1024, li_m1]; omega))
        · skip
          have j_7_ := ne_ti h_5_
          try simp (disch := omega) only [ti_add, ti_sub, b2t_, b2f_, li_0, li_1, li_22, li_23, li_1024, li_m1] at j_7_
          exact hk_14 (a1 + x4_1) (gi s_9 23 (ix x4_1)) 0  (by first | omega | (simp (disch := omega) only [ti_add, ti_sub, b2t_, b2f_, li_0, li_1, li_22, li_23, li_1024, li_m1]; omega))
      refine wp_if_i (fun h_8_ => ?_) (fun h_8_ => ?_)
      · skip
        have j_9_ := eq_ti h_8_
        try simp (disch := omega) only [ti_add, ti_sub, b2t_, b2f_, li_0, li_1, li_22, li_23, li_1024, li_m1] at j_9_
        exact hk_7 (a1 + x4_1) (gi s_2 22 (ix x4_1)) a3  (by first | omega | (simp (disch := omega) only [ti_add, ti_sub, b2t_, b2f_, li_0, li_1, li_22, li_23, li_1024, li_m1]; omega))
      · skip
        have j_10_ := ne_ti h_8_
        try simp (disch := omega) only [ti_add, ti_sub, b2t_, b2f_, li_0, li_1, li_22, li_23, li_1024, li_m1] at j_10_
        exact hk_7 (a1 + x4_1) (gi s_2 22 (ix x4_1)) 0  (by first | omega | (simp (disch := omega) only [ti_add, ti_sub, b2t_, b2f_, li_0, li_1, li_22, li_23, li_1024, li_m1]; omega))
set_option maxHeartbeats 1000000 in
set_option maxRecDepth 20000 in
theorem tX1_addToParts (a1 : Int32) (a2 : Int32) (a3 : Int32) (s0 : Sg) (h0 : I9_ s0) (ha : 1 ≤ a1.toInt ∧ a1.toInt ≤ 512) : wp_ (fX1_addToParts a1 a2 a3 s0) (fun q => O9_ s0 q) := by
  have g_s0 : O9_ s0 s0 := O9_.rf h0
  have hFU_ : FU = 1000000000 := rfl
  generalize hQ : (fun q : (Sg) => O9_ s0 q) = Q
  unfold fX1_addToParts
  have L0_ := li_0
  have L1_ := li_1
  have M1_ := li_m1
  exact lX1_addToParts_3_b s0 h0 a1 a2 a3  (fun q hq => by subst hQ; exact hq) (by first | omega | (simp (disch := omega) only [ti_add, ti_sub, b2t_, b2f_, li_0, li_1, li_m1]; omega)) FU 0 s0 g_s0 (by first | omega | (simp (disch := omega) only [ti_add, ti_sub, b2t_, b2f_, li_0, li_1, li_m1]; omega)) (by first | omega | (simp (disch := omega) only [ti_add, ti_sub, b2t_, b2f_, li_0, li_1, li_m1]; omega))
set_option maxHeartbeats 1000000 in
set_option maxRecDepth 20000 in
theorem tX1_turnFrom (a1 : Int32) (s0 : Sg) (h0 : I9_ s0) (ha : 0 ≤ a1.toInt ∧ a1.toInt ≤ 1023) : wp_ (fX1_turnFrom a1 s0) (fun q => q.2 = s0) := by
  have g_s0 : G9_ s0 s0 := G9_.rf h0
  have hFU_ : FU = 1000000000 := rfl
  generalize hQ : (fun q : (Int32 × Sg) => q.2 = s0) = Q
  unfold fX1_turnFrom
  have L0_ := li_0
  have L1_ := li_1
  have L24_ := li_24
  have L25_ := li_25
  have L1024_ := li_1024
  have M1_ := li_m1
  refine wp_chk_i (inb_ti (by first | omega | (simp (disch := omega) only [ti_add, ti_sub, b2t_, b2f_, li_0, li_1, li_24, li_25, li_1024, li_m1]; omega)) (by first | omega | (simp (disch := omega) only [ti_add, ti_sub, b2t_, b2f_, li_0, li_1, li_24, li_25, li_1024, li_m1]; omega))) ?_
  exact wp_some_i (by subst hQ; exact rfl)
set_option maxHeartbeats 1000000 in
set_option maxRecDepth 20000 in
theorem lX1_count_28_b {Q : (Int32 × Sg) → Prop} (S_ : Sg) (hI_ : I9_ S_) (x2_6 : Int32) (s_7 : Sg) (k_9 : Int32 → Option (Int32 × Sg)) (hk_9 : ∀ (z0_ : Int32), wp_ (k_9 z0_) Q) (e_s_7 : s_7 = S_) (cp0_ : 0 ≤ x2_6.toInt ∧ x2_6.toInt ≤ 1023) : ∀ (n : Nat) (x3_13 : Int32) (x4_14 : Int32), 0 ≤ x4_14.toInt → (10 - x4_14.toInt).toNat < n → wp_ (lo2 (fX1_count_28_b x2_6 s_7 k_9) n x3_13 x4_14) Q := by
  intro n
  induction n with
  | zero =>
    intro x3_13 x4_14 _ hm_
    exact absurd hm_ (Nat.not_lt_zero _)
  | succ n ih =>
    intro x3_13 x4_14 i0_ hm_
    show wp_ (fX1_count_28_b x2_6 s_7 k_9 (lo2 (fX1_count_28_b x2_6 s_7 k_9) n) x3_13 x4_14) Q
    have hrec := ih
    generalize lo2 (fX1_count_28_b x2_6 s_7 k_9) n = rc at hrec ⊢
    clear ih
    have hFU_ : FU = 1000000000 := rfl
    unfold fX1_count_28_b
    have L0_ := li_0
    have L1_ := li_1
    have L7_ := li_7
    have L24_ := li_24
    have L25_ := li_25
    have L31_ := li_31
    have L1024_ := li_1024
    have L1000000000_ := li_1000000000
    have M1_ := li_m1
    have g_s_7 : G9_ S_ s_7 := by rw [e_s_7]; exact G9_.rf hI_
    refine wp_if_i (fun h_1_ => ?_) (fun h_1_ => ?_)
    · skip
      have b_2_ : 0 ≤ (gi S_ 7 1).toInt ∧ (gi S_ 7 1).toInt ≤ 10 := (G9_.rf hI_).1.1 7 1
      have r_3_ : (gi s_7 7 1).toInt = (gi S_ 7 1).toInt := by rw [e_s_7]
      have b_4_ : 0 ≤ (gi s_7 7 1).toInt ∧ (gi s_7 7 1).toInt ≤ 10 := g_s_7.1.1 7 1
      have j_5_ := le_ti h_1_
      try simp (disch := omega) only [ti_add, ti_sub, b2t_, b2f_, li_0, li_1, li_7, li_24, li_25, li_31, li_1024, li_1000000000, li_m1] at j_5_
      exact hk_9 x3_13  
    · skip
      have b_6_ : 0 ≤ (gi S_ 7 1).toInt ∧ (gi S_ 7 1).toInt ≤ 10 := (G9_.rf hI_).1.1 7 1
      have r_7_ : (gi s_7 7 1).toInt = (gi S_ 7 1).toInt := by rw [e_s_7]
      have b_8_ : 0 ≤ (gi s_7 7 1).toInt ∧ (gi s_7 7 1).toInt ≤ 10 := g_s_7.1.1 7 1
      have j_9_ := nle_ti h_1_
      try simp (disch := omega) only [ti_add, ti_sub, b2t_, b2f_, li_0, li_1, li_7, li_24, li_25, li_31, li_1024, li_1000000000, li_m1] at j_9_
      refine wp_chk_i (inb_ti (by first | omega | (simp (disch := omega) only [ti_add, ti_sub, b2t_, b2f_, li_0, li_1, li_7, li_24, li_25, li_31, li_1024, li_1000000000, li_m1]; omega)) (by first | omega | (simp (disch := omega) only [ti_add, ti_sub, b2t_, b2f_, li_0, li_1, li_7, li_24, li_25, li_31, li_1024, li_1000000000, li_m1]; omega))) ?_
      refine wp_if_i (fun h_10_ => ?_) (fun h_10_ => ?_)
      · skip
        have j_11_ := eq_ti h_10_
        try simp (disch := omega) only [ti_add, ti_sub, b2t_, b2f_, li_0, li_1, li_7, li_24, li_25, li_31, li_1024, li_1000000000, li_m1] at j_11_
        exact hk_9 x3_13  
      · skip
        have j_12_ := ne_ti h_10_
        try simp (disch := omega) only [ti_add, ti_sub, b2t_, b2f_, li_0, li_1, li_7, li_24, li_25, li_31, li_1024, li_1000000000, li_m1] at j_12_
        refine wp_jn (fun k_18 => ∀ (y_16 : Int32) (y_17 : Int32), wp_ (k_18 y_16 y_17) Q) ?_ (fun k_18 hk_18 => ?_)
        · intro y_16 y_17
          try dsimp only
          apply wp_bv_i
          intro v_19 e_v_19
          have j_13_ := eq_ti e_v_19
          try simp (disch := omega) only [ti_add, ti_sub, b2t_, b2f_, li_0, li_1, li_7, li_24, li_25, li_31, li_1024, li_1000000000, li_m1] at j_13_
          apply wp_bv_i
          intro v_20 e_v_20
          have j_14_ := eq_ti e_v_20
          try simp (disch := omega) only [ti_add, ti_sub, b2t_, b2f_, li_0, li_1, li_7, li_24, li_25, li_31, li_1024, li_1000000000, li_m1] at j_14_
          exact hrec v_19 v_20  (by first | omega | (simp (disch := omega) only [ti_add, ti_sub, b2t_, b2f_, li_0, li_1, li_7, li_24, li_25, li_31, li_1024, li_1000000000, li_m1]; omega)) (by first | omega | (simp (disch := omega) only [ti_add, ti_sub, b2t_, b2f_, li_0, li_1, li_7, li_24, li_25, li_31, li_1024, li_1000000000, li_m1]; omega))
        refine wp_if_i (fun h_15_ => ?_) (fun h_15_ => ?_)
        · skip
          have j_16_ := eq_ti h_15_
          try simp (disch := omega) only [ti_add, ti_sub, b2t_, b2f_, li_0, li_1, li_7, li_24, li_25, li_31, li_1024, li_1000000000, li_m1] at j_16_
          refine wp_chk_i (by have z_ := bit_set x2_6 x4_14 (by omega) (by omega) (by omega) (by omega) (by assumption); exact inb_ti (by omega) (by omega)) ?_
          exact hk_18 x3_13 (gi s_7 25 (ix (x2_6 - (1 <<< (x4_14 &&& 31)))))  
        · skip
          have j_17_ := ne_ti h_15_
          try simp (disch := omega) only [ti_add, ti_sub, b2t_, b2f_, li_0, li_1, li_7, li_24, li_25, li_31, li_1024, li_1000000000, li_m1] at j_17_
          exact hk_18 x3_13 0  
set_option maxHeartbeats 1000000 in
set_option maxRecDepth 20000 in
theorem lX1_count_18_b {Q : (Int32 × Sg) → Prop} (S_ : Sg) (hI_ : I9_ S_) (v_2 : Int32) (k_4 : Sg → Option (Int32 × Sg)) (hk_4 : ∀ (z0_ : Sg), G9_ S_ z0_ → wp_ (k_4 z0_) Q) (cp0_ : v_2.toInt ≤ 1023) : ∀ (n : Nat) (x2_6 : Int32) (s_7 : Sg), G9_ S_ s_7 → 1 ≤ x2_6.toInt → (1024 - x2_6.toInt).toNat < n → wp_ (lo2 (fX1_count_18_b v_2 k_4) n x2_6 s_7) Q := by
  intro n
  induction n with
  | zero =>
    intro x2_6 s_7 _ _ hm_
    exact absurd hm_ (Nat.not_lt_zero _)
  | succ n ih =>
    intro x2_6 s_7 g_s_7 i0_ hm_
    show wp_ (fX1_count_18_b v_2 k_4 (lo2 (fX1_count_18_b v_2 k_4) n) x2_6 s_7) Q
    have hrec := ih
    generalize lo2 (fX1_count_18_b v_2 k_4) n = rc at hrec ⊢
    clear ih
    have hFU_ : FU = 1000000000 := rfl
    unfold fX1_count_18_b
    have L0_ := li_0
    have L1_ := li_1
    have L25_ := li_25
    have L1024_ := li_1024
    have M1_ := li_m1
    refine wp_if_i (fun h_1_ => ?_) (fun h_1_ => ?_)
    · skip
      have j_2_ := lt_ti h_1_
      try simp (disch := omega) only [ti_add, ti_sub, b2t_, b2f_, li_0, li_1, li_25, li_1024, li_m1] at j_2_
      exact hk_4 s_7 g_s_7 
    · skip
      have j_3_ := nlt_ti h_1_
      try simp (disch := omega) only [ti_add, ti_sub, b2t_, b2f_, li_0, li_1, li_25, li_1024, li_m1] at j_3_
      refine wp_jn (fun k_9 => ∀ (x3_8 : Int32), wp_ (k_9 x3_8) Q) ?_ (fun k_9 hk_9 => ?_)
      · intro x3_8
        try dsimp only
        refine wp_chk_i (inb_ti (by first | omega | (simp (disch := omega) only [ti_add, ti_sub, b2t_, b2f_, li_0, li_1, li_25, li_1024, li_m1]; omega)) (by first | omega | (simp (disch := omega) only [ti_add, ti_sub, b2t_, b2f_, li_0, li_1, li_25, li_1024, li_m1]; omega))) ?_
        apply wp_bv_i
        intro s_11 e_s_11
        have g_s_11 : G9_ S_ s_11 := by rw [e_s_11]; exact G9_.si g_s_7 (by first | decide | omega) trivial
        apply wp_bv_i
        intro v_12 e_v_12
        have j_4_ := eq_ti e_v_12
        try simp (disch := omega) only [ti_add, ti_sub, b2t_, b2f_, li_0, li_1, li_25, li_1024, li_m1] at j_4_
        exact hrec v_12 s_11 g_s_11 (by first | omega | (simp (disch := omega) only [ti_add, ti_sub, b2t_, b2f_, li_0, li_1, li_25, li_1024, li_m1]; omega)) (by first | omega | (simp (disch := omega) only [ti_add, ti_sub, b2t_, b2f_, li_0, li_1, li_25, li_1024, li_m1]; omega))
      exact lX1_count_28_b s_7 g_s_7.1 x2_6 s_7 k_9 hk_9 rfl (by first | omega | (simp (disch := omega) only [ti_add, ti_sub, b2t_, b2f_, li_0, li_1, li_25, li_1024, li_m1]; omega)) FU 0 0  (by first | omega | (simp (disch := omega) only [ti_add, ti_sub, b2t_, b2f_, li_0, li_1, li_25, li_1024, li_m1]; omega)) (by first | omega | (simp (disch := omega) only [ti_add, ti_sub, b2t_, b2f_, li_0, li_1, li_25, li_1024, li_m1]; omega))
set_option maxHeartbeats 1000000 in
set_option maxRecDepth 20000 in
theorem tX1_count (s0 : Sg) (h0 : I9_ s0)  : wp_ (fX1_count s0) (fun q => G9_ s0 q.2) := by
  have g_s0 : G9_ s0 s0 := G9_.rf h0
  have hFU_ : FU = 1000000000 := rfl
  generalize hQ : (fun q : (Int32 × Sg) => G9_ s0 q.2) = Q
  unfold fX1_count
  have L0_ := li_0
  have L1_ := li_1
  have L7_ := li_7
  have L25_ := li_25
  have L31_ := li_31
  have L1024_ := li_1024
  have M1_ := li_m1
  apply wp_bv_i
  intro s_1 e_s_1
  have g_s_1 : G9_ s0 s_1 := by rw [e_s_1]; exact G9_.si g_s0 (by first | decide | omega) trivial
  have b_1_ : 0 ≤ (gi s0 7 1).toInt ∧ (gi s0 7 1).toInt ≤ 10 := g_s0.1.1 7 1
  have r_2_ : (gi s_1 7 1).toInt = (gi s0 7 1).toInt := by rw [e_s_1]; rw [gsi_k (by first | decide | omega)]
  have b_3_ : 0 ≤ (gi s_1 7 1).toInt ∧ (gi s_1 7 1).toInt ≤ 10 := g_s_1.1.1 7 1
  have sh_4_ := shl_le (gi s_1 7 1) 10 (by first | omega | (simp (disch := omega) only [ti_add, ti_sub, b2t_, b2f_, li_0, li_1, li_7, li_25, li_31, li_1024, li_m1]; omega)) (by first | omega | (simp (disch := omega) only [ti_add, ti_sub, b2t_, b2f_, li_0, li_1, li_7, li_25, li_31, li_1024, li_m1]; omega)) (by decide)
  try simp only [Nat.reducePow, Nat.cast_ofNat, Int.reducePow] at sh_4_
  apply wp_bv_i
  intro v_2 e_v_2
  have j_5_ := eq_ti e_v_2
  try simp (disch := omega) only [ti_add, ti_sub, b2t_, b2f_, li_0, li_1, li_7, li_25, li_31, li_1024, li_m1] at j_5_
  refine wp_jn (fun k_4 => ∀ (s_3 : Sg), G9_ s0 s_3 → wp_ (k_4 s_3) Q) ?_ (fun k_4 hk_4 => ?_)
  · intro s_3 g_s_3
    try dsimp only
    refine wp_chk_i (inb_ti (by first | omega | (simp (disch := omega) only [ti_add, ti_sub, b2t_, b2f_, li_0, li_1, li_7, li_25, li_31, li_1024, li_m1]; omega)) (by first | omega | (simp (disch := omega) only [ti_add, ti_sub, b2t_, b2f_, li_0, li_1, li_7, li_25, li_31, li_1024, li_m1]; omega))) ?_
    exact wp_some_i (by subst hQ; exact g_s_3)
  exact lX1_count_18_b s0 h0 v_2 k_4 hk_4 (by first | omega | (simp (disch := omega) only [ti_add, ti_sub, b2t_, b2f_, li_0, li_1, li_7, li_25, li_31, li_1024, li_m1]; omega)) FU 1 s_1 g_s_1 (by first | omega | (simp (disch := omega) only [ti_add, ti_sub, b2t_, b2f_, li_0, li_1, li_7, li_25, li_31, li_1024, li_m1]; omega)) (by first | omega | (simp (disch := omega) only [ti_add, ti_sub, b2t_, b2f_, li_0, li_1, li_7, li_25, li_31, li_1024, li_m1]; omega))
set_option maxHeartbeats 1000000 in
set_option maxRecDepth 20000 in
theorem lX1_nextMember_2_b {Q : (Int32 × Sg) → Prop} (S_ : Sg) (hI_ : I9_ S_) (a1 : Int32) (a2 : Int32) (hsome : ∀ q : (Int32 × Sg), q.2 = S_ → (q.1.toInt = -1 ∨ (0 ≤ q.1.toInt ∧ q.1.toInt ≤ 9 ∧ ((a1 >>> (q.1 &&& 31)) &&& 1) = 0)) → Q q) (cp0_ : 0 ≤ a1.toInt ∧ a1.toInt ≤ 1023) : ∀ (n : Nat) (x3_1 : Int32) (s_2 : Sg), s_2 = S_ → 0 ≤ x3_1.toInt → (10 - x3_1.toInt).toNat < n → wp_ (lo2 (fX1_nextMember_2_b a1 a2) n x3_1 s_2) Q := by
  intro n
  induction n with
  | zero =>
    intro x3_1 s_2 _ _ hm_
    exact absurd hm_ (Nat.not_lt_zero _)
  | succ n ih =>
    intro x3_1 s_2 e_s_2 i0_ hm_
    show wp_ (fX1_nextMember_2_b a1 a2 (lo2 (fX1_nextMember_2_b a1 a2) n) x3_1 s_2) Q
    have hrec := ih
    generalize lo2 (fX1_nextMember_2_b a1 a2) n = rc at hrec ⊢
    clear ih
    have hFU_ : FU = 1000000000 := rfl
    unfold fX1_nextMember_2_b
    have L0_ := li_0
    have L1_ := li_1
    have L7_ := li_7
    have L31_ := li_31
    have M1_ := li_m1
    have g_s_2 : G9_ S_ s_2 := by rw [e_s_2]; exact G9_.rf hI_
    refine wp_if_i (fun h_1_ => ?_) (fun h_1_ => ?_)
    · skip
      have b_2_ : 0 ≤ (gi S_ 7 1).toInt ∧ (gi S_ 7 1).toInt ≤ 10 := (G9_.rf hI_).1.1 7 1
      have r_3_ : (gi s_2 7 1).toInt = (gi S_ 7 1).toInt := by rw [e_s_2]
      have b_4_ : 0 ≤ (gi s_2 7 1).toInt ∧ (gi s_2 7 1).toInt ≤ 10 := g_s_2.1.1 7 1
      have j_5_ := le_ti h_1_
      try simp (disch := omega) only [ti_add, ti_sub, b2t_, b2f_, li_0, li_1, li_7, li_31, li_m1] at j_5_
      exact wp_some_i (hsome ((-1), s_2) (by rw [e_s_2]) (Or.inl li_m1))
    · skip
      have b_6_ : 0 ≤ (gi S_ 7 1).toInt ∧ (gi S_ 7 1).toInt ≤ 10 := (G9_.rf hI_).1.1 7 1
      have r_7_ : (gi s_2 7 1).toInt = (gi S_ 7 1).toInt := by rw [e_s_2]
      have b_8_ : 0 ≤ (gi s_2 7 1).toInt ∧ (gi s_2 7 1).toInt ≤ 10 := g_s_2.1.1 7 1
      have j_9_ := nle_ti h_1_
      try simp (disch := omega) only [ti_add, ti_sub, b2t_, b2f_, li_0, li_1, li_7, li_31, li_m1] at j_9_
      refine wp_jn (fun k_4 => ∀ (s_3 : Sg), s_3 = S_ → wp_ (k_4 s_3) Q) ?_ (fun k_4 hk_4 => ?_)
      · intro s_3 e_s_3
        have g_s_3 : G9_ S_ s_3 := by rw [e_s_3]; exact (G9_.rf hI_)
        try dsimp only
        apply wp_bv_i
        intro v_5 e_v_5
        have j_10_ := eq_ti e_v_5
        try simp (disch := omega) only [ti_add, ti_sub, b2t_, b2f_, li_0, li_1, li_7, li_31, li_m1] at j_10_
        exact hrec v_5 s_3 (by rw [e_s_3]) (by first | omega | (simp (disch := omega) only [ti_add, ti_sub, b2t_, b2f_, li_0, li_1, li_7, li_31, li_m1]; omega)) (by first | omega | (simp (disch := omega) only [ti_add, ti_sub, b2t_, b2f_, li_0, li_1, li_7, li_31, li_m1]; omega))
      refine wp_if_i (fun h_11_ => ?_) (fun h_11_ => ?_)
      · skip
        have j_12_ := eq_ti h_11_
        try simp (disch := omega) only [ti_add, ti_sub, b2t_, b2f_, li_0, li_1, li_7, li_31, li_m1] at j_12_
        have z_ := bit_clr a1 x3_1 (by omega) (by omega) (by omega) (by omega) (by assumption)
        refine wp_bnd_i (tX1_turnFrom (a1 + (1 <<< (x3_1 &&& 31))) s_2 g_s_2.1 (by first | omega | (simp (disch := omega) only [ti_add, ti_sub, b2t_, b2f_, li_0, li_1, li_7, li_31, li_m1]; omega))) (fun r_6 s_7 p_s_7 => ?_)
        have e_s_7 : s_7 = s_2 := p_s_7
        have g_s_7 : G9_ S_ s_7 := by rw [e_s_7]; exact g_s_2
        refine wp_if_i (fun h_13_ => ?_) (fun h_13_ => ?_)
        · skip
          have j_14_ := lt_ti h_13_
          try simp (disch := omega) only [ti_add, ti_sub, b2t_, b2f_, li_0, li_1, li_7, li_31, li_m1] at j_14_
          exact hk_4 s_7 (by rw [e_s_7, e_s_2]) 
        · skip
          have j_15_ := nlt_ti h_13_
          try simp (disch := omega) only [ti_add, ti_sub, b2t_, b2f_, li_0, li_1, li_7, li_31, li_m1] at j_15_
          exact wp_some_i (hsome (x3_1, s_7) (by rw [e_s_7, e_s_2]) (Or.inr ⟨by dsimp only; omega, by dsimp only; omega, by assumption⟩))
      · skip
        have j_16_ := ne_ti h_11_
        try simp (disch := omega) only [ti_add, ti_sub, b2t_, b2f_, li_0, li_1, li_7, li_31, li_m1] at j_16_
        exact hk_4 s_2 (by rw [e_s_2]) 
set_option maxHeartbeats 1000000 in
set_option maxRecDepth 20000 in
theorem tX1_nextMember (a1 : Int32) (a2 : Int32) (s0 : Sg) (h0 : I9_ s0) (ha : 0 ≤ a1.toInt ∧ a1.toInt ≤ 1023) : wp_ (fX1_nextMember a1 a2 s0) (fun q => q.2 = s0 ∧ (q.1.toInt = -1 ∨ (0 ≤ q.1.toInt ∧ q.1.toInt ≤ 9 ∧ ((a1 >>> (q.1 &&& 31)) &&& 1) = 0))) := by
  have g_s0 : G9_ s0 s0 := G9_.rf h0
  have hFU_ : FU = 1000000000 := rfl
  generalize hQ : (fun q : (Int32 × Sg) => q.2 = s0 ∧ (q.1.toInt = -1 ∨ (0 ≤ q.1.toInt ∧ q.1.toInt ≤ 9 ∧ ((a1 >>> (q.1 &&& 31)) &&& 1) = 0))) = Q
  unfold fX1_nextMember
  have L0_ := li_0
  have L1_ := li_1
  have M1_ := li_m1
  exact lX1_nextMember_2_b s0 h0 a1 a2  (fun q hq hp => by subst hQ; exact ⟨hq, hp⟩) (by first | omega | (simp (disch := omega) only [ti_add, ti_sub, b2t_, b2f_, li_0, li_1, li_m1]; omega)) FU 0 s0 rfl (by first | omega | (simp (disch := omega) only [ti_add, ti_sub, b2t_, b2f_, li_0, li_1, li_m1]; omega)) (by first | omega | (simp (disch := omega) only [ti_add, ti_sub, b2t_, b2f_, li_0, li_1, li_m1]; omega))
set_option maxHeartbeats 1000000 in
set_option maxRecDepth 20000 in
theorem lX1_leastTurn_30_b {Q : (Int32 × Sg) → Prop} (S_ : Sg) (hI_ : I9_ S_) (x2_7 : Int32) (k_11 : Int32 → Sg → Option (Int32 × Sg)) (hk_11 : ∀ (z0_ : Int32) (z1_ : Sg), z1_ = S_ → wp_ (k_11 z0_ z1_) Q) (cp0_ : 0 ≤ x2_7.toInt ∧ x2_7.toInt ≤ 1023) : ∀ (n : Nat) (x3_15 : Int32) (x4_16 : Int32) (s_17 : Sg), s_17 = S_ → 0 ≤ x4_16.toInt → (10 - x4_16.toInt).toNat < n → wp_ (lo3 (fX1_leastTurn_30_b x2_7 k_11) n x3_15 x4_16 s_17) Q := by
  intro n
  induction n with
  | zero =>
    intro x3_15 x4_16 s_17 _ _ hm_
    exact absurd hm_ (Nat.not_lt_zero _)
  | succ n ih =>
    intro x3_15 x4_16 s_17 e_s_17 i0_ hm_
    show wp_ (fX1_leastTurn_30_b x2_7 k_11 (lo3 (fX1_leastTurn_30_b x2_7 k_11) n) x3_15 x4_16 s_17) Q
    have hrec := ih
    generalize lo3 (fX1_leastTurn_30_b x2_7 k_11) n = rc at hrec ⊢
    clear ih
    have hFU_ : FU = 1000000000 := rfl
    unfold fX1_leastTurn_30_b
    have L0_ := li_0
    have L1_ := li_1
    have L7_ := li_7
    have L31_ := li_31
    have M1_ := li_m1
    have g_s_17 : G9_ S_ s_17 := by rw [e_s_17]; exact G9_.rf hI_
    refine wp_if_i (fun h_1_ => ?_) (fun h_1_ => ?_)
    · skip
      have b_2_ : 0 ≤ (gi S_ 7 1).toInt ∧ (gi S_ 7 1).toInt ≤ 10 := (G9_.rf hI_).1.1 7 1
      have r_3_ : (gi s_17 7 1).toInt = (gi S_ 7 1).toInt := by rw [e_s_17]
      have b_4_ : 0 ≤ (gi s_17 7 1).toInt ∧ (gi s_17 7 1).toInt ≤ 10 := g_s_17.1.1 7 1
      have j_5_ := le_ti h_1_
      try simp (disch := omega) only [ti_add, ti_sub, b2t_, b2f_, li_0, li_1, li_7, li_31, li_m1] at j_5_
      exact hk_11 x3_15 s_17 (by rw [e_s_17]) 
    · skip
      have b_6_ : 0 ≤ (gi S_ 7 1).toInt ∧ (gi S_ 7 1).toInt ≤ 10 := (G9_.rf hI_).1.1 7 1
      have r_7_ : (gi s_17 7 1).toInt = (gi S_ 7 1).toInt := by rw [e_s_17]
      have b_8_ : 0 ≤ (gi s_17 7 1).toInt ∧ (gi s_17 7 1).toInt ≤ 10 := g_s_17.1.1 7 1
      have j_9_ := nle_ti h_1_
      try simp (disch := omega) only [ti_add, ti_sub, b2t_, b2f_, li_0, li_1, li_7, li_31, li_m1] at j_9_
      refine wp_jn (fun k_20 => ∀ (x3_18 : Int32) (s_19 : Sg), s_19 = S_ → wp_ (k_20 x3_18 s_19) Q) ?_ (fun k_20 hk_20 => ?_)
      · intro x3_18 s_19 e_s_19
        have g_s_19 : G9_ S_ s_19 := by rw [e_s_19]; exact (G9_.rf hI_)
        try dsimp only
        apply wp_bv_i
        intro v_21 e_v_21
        have j_10_ := eq_ti e_v_21
        try simp (disch := omega) only [ti_add, ti_sub, b2t_, b2f_, li_0, li_1, li_7, li_31, li_m1] at j_10_
        exact hrec x3_18 v_21 s_19 (by rw [e_s_19]) (by first | omega | (simp (disch := omega) only [ti_add, ti_sub, b2t_, b2f_, li_0, li_1, li_7, li_31, li_m1]; omega)) (by first | omega | (simp (disch := omega) only [ti_add, ti_sub, b2t_, b2f_, li_0, li_1, li_7, li_31, li_m1]; omega))
      refine wp_if_i (fun h_11_ => ?_) (fun h_11_ => ?_)
      · skip
        have j_12_ := eq_ti h_11_
        try simp (disch := omega) only [ti_add, ti_sub, b2t_, b2f_, li_0, li_1, li_7, li_31, li_m1] at j_12_
        have z_ := bit_clr x2_7 x4_16 (by omega) (by omega) (by omega) (by omega) (by assumption)
        refine wp_bnd_i (tX1_turnFrom (x2_7 + (1 <<< (x4_16 &&& 31))) s_17 g_s_17.1 (by first | omega | (simp (disch := omega) only [ti_add, ti_sub, b2t_, b2f_, li_0, li_1, li_7, li_31, li_m1]; omega))) (fun r_22 s_23 p_s_23 => ?_)
        have e_s_23 : s_23 = s_17 := p_s_23
        have g_s_23 : G9_ S_ s_23 := by rw [e_s_23]; exact g_s_17
        apply wp_bv_i
        intro v_24 e_v_24
        have j_13_ := eq_ti e_v_24
        try simp (disch := omega) only [ti_add, ti_sub, b2t_, b2f_, li_0, li_1, li_7, li_31, li_m1] at j_13_
        exact hk_20 v_24 s_23 (by rw [e_s_23, e_s_17]) 
      · skip
        have j_14_ := ne_ti h_11_
        try simp (disch := omega) only [ti_add, ti_sub, b2t_, b2f_, li_0, li_1, li_7, li_31, li_m1] at j_14_
        exact hk_20 x3_15 s_17 (by rw [e_s_17]) 
set_option maxHeartbeats 1000000 in
set_option maxRecDepth 20000 in
theorem lX1_leastTurn_20_b {Q : (Int32 × Sg) → Prop} (S_ : Sg) (hI_ : I9_ S_) (k_6 : Sg → Option (Int32 × Sg)) (hk_6 : ∀ (z0_ : Sg), G9_ S_ z0_ → wp_ (k_6 z0_) Q)  : ∀ (n : Nat) (x2_7 : Int32) (s_8 : Sg), G9_ S_ s_8 → -1 ≤ x2_7.toInt ∧ x2_7.toInt ≤ 1023 → (x2_7.toInt + 1).toNat < n → wp_ (lo2 (fX1_leastTurn_20_b k_6) n x2_7 s_8) Q := by
  intro n
  induction n with
  | zero =>
    intro x2_7 s_8 _ _ hm_
    exact absurd hm_ (Nat.not_lt_zero _)
  | succ n ih =>
    intro x2_7 s_8 g_s_8 i0_ hm_
    show wp_ (fX1_leastTurn_20_b k_6 (lo2 (fX1_leastTurn_20_b k_6) n) x2_7 s_8) Q
    have hrec := ih
    generalize lo2 (fX1_leastTurn_20_b k_6) n = rc at hrec ⊢
    clear ih
    have hFU_ : FU = 1000000000 := rfl
    unfold fX1_leastTurn_20_b
    have L0_ := li_0
    have L1_ := li_1
    have L25_ := li_25
    have L1024_ := li_1024
    have L1000000000_ := li_1000000000
    have M1_ := li_m1
    refine wp_if_i (fun h_1_ => ?_) (fun h_1_ => ?_)
    · skip
      have j_2_ := lt_ti h_1_
      try simp (disch := omega) only [ti_add, ti_sub, b2t_, b2f_, li_0, li_1, li_25, li_1024, li_1000000000, li_m1] at j_2_
      exact hk_6 s_8 g_s_8 
    · skip
      have j_3_ := nlt_ti h_1_
      try simp (disch := omega) only [ti_add, ti_sub, b2t_, b2f_, li_0, li_1, li_25, li_1024, li_1000000000, li_m1] at j_3_
      refine wp_jn (fun k_11 => ∀ (x3_9 : Int32) (s_10 : Sg), G9_ S_ s_10 → wp_ (k_11 x3_9 s_10) Q) ?_ (fun k_11 hk_11 => ?_)
      · intro x3_9 s_10 g_s_10
        try dsimp only
        refine wp_chk_i (inb_ti (by first | omega | (simp (disch := omega) only [ti_add, ti_sub, b2t_, b2f_, li_0, li_1, li_25, li_1024, li_1000000000, li_m1]; omega)) (by first | omega | (simp (disch := omega) only [ti_add, ti_sub, b2t_, b2f_, li_0, li_1, li_25, li_1024, li_1000000000, li_m1]; omega))) ?_
        apply wp_bv_i
        intro s_13 e_s_13
        have g_s_13 : G9_ S_ s_13 := by rw [e_s_13]; exact G9_.si g_s_10 (by first | decide | omega) trivial
        apply wp_bv_i
        intro v_14 e_v_14
        have j_4_ := eq_ti e_v_14
        try simp (disch := omega) only [ti_add, ti_sub, b2t_, b2f_, li_0, li_1, li_25, li_1024, li_1000000000, li_m1] at j_4_
        exact hrec v_14 s_13 g_s_13 (by first | omega | (simp (disch := omega) only [ti_add, ti_sub, b2t_, b2f_, li_0, li_1, li_25, li_1024, li_1000000000, li_m1]; omega)) (by first | omega | (simp (disch := omega) only [ti_add, ti_sub, b2t_, b2f_, li_0, li_1, li_25, li_1024, li_1000000000, li_m1]; omega))
      exact lX1_leastTurn_30_b s_8 g_s_8.1 x2_7 k_11 (fun z0_ z1_ e_  => hk_11 z0_ z1_ (by rw [e_]; exact g_s_8) ) (by first | omega | (simp (disch := omega) only [ti_add, ti_sub, b2t_, b2f_, li_0, li_1, li_25, li_1024, li_1000000000, li_m1]; omega)) FU 1000000000 0 s_8 rfl (by first | omega | (simp (disch := omega) only [ti_add, ti_sub, b2t_, b2f_, li_0, li_1, li_25, li_1024, li_1000000000, li_m1]; omega)) (by first | omega | (simp (disch := omega) only [ti_add, ti_sub, b2t_, b2f_, li_0, li_1, li_25, li_1024, li_1000000000, li_m1]; omega))
