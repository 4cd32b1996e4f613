set_option maxHeartbeats 1000000 in
set_option maxRecDepth 20000 in
theorem tX2_openOne (a1 : Int32) (s0 : Sg) (h0 : I9_ s0) (ha : 0 ≤ a1.toInt ∧ a1.toInt ≤ 14) : wp_ (fX2_openOne a1 s0) (fun q => R9_ s0 q) := by
  have g_s0 : R9_ s0 s0 := R9_.rf h0
  have hFU_ : FU = 1000000000 := rfl
  generalize hQ : (fun q : (Sg) => R9_ s0 q) = Q
  unfold fX2_openOne
  have L0_ := li_0
  have L1_ := li_1
  have L3_ := li_3
  have L4_ := li_4
  have L6_ := li_6
  have L7_ := li_7
  have L8_ := li_8
  have L10_ := li_10
  have M1_ := li_m1
  refine wp_if_i (fun h_1_ => ?_) (fun h_1_ => ?_)
  · skip
    have j_2_ := lt_ti h_1_
    try simp (disch := omega) only [ti_add, ti_sub, b2t_, b2f_, li_0, li_1, li_3, li_4, li_6, li_7, li_8, li_10, li_m1] at j_2_
    apply wp_bv_i
    intro s_1 e_s_1
    have g_s_1 : R9_ s0 s_1 := by rw [e_s_1]; exact R9_.si g_s0 (by first | decide | omega) trivial
    refine wp_jn (fun k_4 => ∀ (y_2 : Int32) (y_3 : Bool), wp_ (k_4 y_2 y_3) Q) ?_ (fun k_4 hk_4 => ?_)
    · intro y_2 y_3
      try dsimp only
      have b_3_ := b2i_bd y_3
      apply wp_bv_i
      intro s_5 e_s_5
      have g_s_5 : R9_ s0 s_5 := by rw [e_s_5]; exact R9_.si g_s_1 (by first | decide | omega) trivial
      refine wp_jn (fun k_7 => ∀ (y_6 : Bool), wp_ (k_7 y_6) Q) ?_ (fun k_7 hk_7 => ?_)
      · intro y_6
        try dsimp only
        have b_4_ := b2i_bd y_6
        apply wp_bv_i
        intro s_8 e_s_8
        have g_s_8 : R9_ s0 s_8 := by rw [e_s_8]; exact R9_.si g_s_5 (by first | decide | omega) trivial
        refine wp_bnv_i (tX2_keepWaiting a1 s_8 g_s_8.1 (by first | omega | (simp (disch := omega) only [ti_add, ti_sub, b2t_, b2f_, li_0, li_1, li_3, li_4, li_6, li_7, li_8, li_10, li_m1]; omega))) (fun s_9 p_s_9 => ?_)
        have g_s_9 := g_s_8.tr p_s_9
        exact wp_some_i (by subst hQ; exact g_s_9)
      refine wp_if_i (fun h_5_ => ?_) (fun h_5_ => ?_)
      · skip
        have j_6_ := eq_ti h_5_
        try simp (disch := omega) only [ti_add, ti_sub, b2t_, b2f_, li_0, li_1, li_3, li_4, li_6, li_7, li_8, li_10, li_m1] at j_6_
        exact hk_7 true  
      · skip
        have j_7_ := ne_ti h_5_
        try simp (disch := omega) only [ti_add, ti_sub, b2t_, b2f_, li_0, li_1, li_3, li_4, li_6, li_7, li_8, li_10, li_m1] at j_7_
        exact hk_7 false  
    refine wp_if_i (fun h_8_ => ?_) (fun h_8_ => ?_)
    · skip
      have j_9_ := eq_ti h_8_
      try simp (disch := omega) only [ti_add, ti_sub, b2t_, b2f_, li_0, li_1, li_3, li_4, li_6, li_7, li_8, li_10, li_m1] at j_9_
      exact hk_4 (gi s_1 4 7) true  
    · skip
      have j_10_ := ne_ti h_8_
      try simp (disch := omega) only [ti_add, ti_sub, b2t_, b2f_, li_0, li_1, li_3, li_4, li_6, li_7, li_8, li_10, li_m1] at j_10_
      exact hk_4 (gi s_1 4 7) false  
  · skip
    have j_11_ := nlt_ti h_1_
    try simp (disch := omega) only [ti_add, ti_sub, b2t_, b2f_, li_0, li_1, li_3, li_4, li_6, li_7, li_8, li_10, li_m1] at j_11_
    refine wp_bnv_i (tX2_fail 3 s0 g_s0.1 ) (fun s_10 p_s_10 => ?_)
    have g_s_10 := g_s0.tr p_s_10
    exact wp_some_i (by subst hQ; exact g_s_10)
set_option maxHeartbeats 1000000 in
set_option maxRecDepth 20000 in
theorem lX2_settle_0_b {Q : (Sg) → Prop} (S_ : Sg) (hI_ : I9_ S_) (a1 : Int32) (hsome : ∀ q : (Sg), R9_ S_ q → Q q) (hS : isScr (gr S_ 4 3) = true) : ∀ (n : Nat) (s_1 : Sg), R9_ S_ s_1 → (gi s_1 4 2).toInt.toNat < n → wp_ (lo1 (fX2_settle_0_b a1) n s_1) Q := by
  intro n
  induction n with
  | zero =>
    intro s_1 _ hm_
    exact absurd hm_ (Nat.not_lt_zero _)
  | succ n ih =>
    intro s_1 g_s_1 hm_
    show wp_ (fX2_settle_0_b a1 (lo1 (fX2_settle_0_b a1) n) s_1) Q
    have hrec := ih
    generalize lo1 (fX2_settle_0_b a1) n = rc at hrec ⊢
    clear ih
    have hFU_ : FU = 1000000000 := rfl
    unfold fX2_settle_0_b
    have L0_ := li_0
    have L1_ := li_1
    have L2_ := li_2
    have L3_ := li_3
    have L4_ := li_4
    have L6_ := li_6
    have L14_ := li_14
    have L15_ := li_15
    have L18_ := li_18
    have L29_ := li_29
    have L20000_ := li_20000
    have M1_ := li_m1
    refine wp_if_i (fun h_1_ => ?_) (fun h_1_ => ?_)
    · skip
      have b_2_ : 0 ≤ (gi s_1 4 2).toInt ∧ (gi s_1 4 2).toInt ≤ 29 := g_s_1.1.1 4 2
      have j_3_ := le_ti h_1_
      try simp (disch := omega) only [ti_add, ti_sub, b2t_, b2f_, li_0, li_1, li_2, li_3, li_4, li_6, li_14, li_15, li_18, li_29, li_20000, li_m1] at j_3_
      exact wp_some_i (hsome (s_1) g_s_1)
    · skip
      have b_4_ : 0 ≤ (gi s_1 4 2).toInt ∧ (gi s_1 4 2).toInt ≤ 29 := g_s_1.1.1 4 2
      have j_5_ := nle_ti h_1_
      try simp (disch := omega) only [ti_add, ti_sub, b2t_, b2f_, li_0, li_1, li_2, li_3, li_4, li_6, li_14, li_15, li_18, li_29, li_20000, li_m1] at j_5_
      refine wp_chk_i (inb_ti (by first | omega | (simp (disch := omega) only [ti_add, ti_sub, b2t_, b2f_, li_0, li_1, li_2, li_3, li_4, li_6, li_14, li_15, li_18, li_29, li_20000, li_m1]; omega)) (by first | omega | (simp (disch := omega) only [ti_add, ti_sub, b2t_, b2f_, li_0, li_1, li_2, li_3, li_4, li_6, li_14, li_15, li_18, li_29, li_20000, li_m1]; omega))) ?_
      have b_6_ : 0 ≤ (gi s_1 18 (ix ((gi s_1 4 2) - 1))).toInt ∧ (gi s_1 18 (ix ((gi s_1 4 2) - 1))).toInt ≤ 14 := g_s_1.1.1 18 (ix ((gi s_1 4 2) - 1))
      refine wp_chk_i (inb_ti (by first | omega | (simp (disch := omega) only [ti_add, ti_sub, b2t_, b2f_, li_0, li_1, li_2, li_3, li_4, li_6, li_14, li_15, li_18, li_29, li_20000, li_m1]; omega)) (by first | omega | (simp (disch := omega) only [ti_add, ti_sub, b2t_, b2f_, li_0, li_1, li_2, li_3, li_4, li_6, li_14, li_15, li_18, li_29, li_20000, li_m1]; omega))) ?_
      refine wp_if_i (fun h_7_ => ?_) (fun h_7_ => ?_)
      · skip
        have j_8_ := lt_ti h_7_
        try simp (disch := omega) only [ti_add, ti_sub, b2t_, b2f_, li_0, li_1, li_2, li_3, li_4, li_6, li_14, li_15, li_18, li_29, li_20000, li_m1] at j_8_
        exact wp_some_i (hsome (s_1) g_s_1)
      · skip
        have j_9_ := nlt_ti h_7_
        try simp (disch := omega) only [ti_add, ti_sub, b2t_, b2f_, li_0, li_1, li_2, li_3, li_4, li_6, li_14, li_15, li_18, li_29, li_20000, li_m1] at j_9_
        apply wp_bv_i
        intro s_4 e_s_4
        have g_s_4 : R9_ S_ s_4 := by rw [e_s_4]; exact R9_.si g_s_1 (by first | decide | omega) (show 0 ≤ ((((gi s_1 4 2) - 1) : Int32)).toInt ∧ ((((gi s_1 4 2) - 1) : Int32)).toInt ≤ 29 from ⟨by first | omega | (simp (disch := omega) only [ti_add, ti_sub, b2t_, b2f_, li_0, li_1, li_2, li_3, li_4, li_6, li_14, li_15, li_18, li_29, li_20000, li_m1]; omega), by first | omega | (simp (disch := omega) only [ti_add, ti_sub, b2t_, b2f_, li_0, li_1, li_2, li_3, li_4, li_6, li_14, li_15, li_18, li_29, li_20000, li_m1]; omega)⟩)
        have r_10_ : (gi s_4 4 2).toInt = ((((gi s_1 4 2) - 1) : Int32)).toInt := by rw [e_s_4]; rw [gsi_eq]
        try simp (disch := omega) only [ti_add, ti_sub, b2t_, b2f_, li_0, li_1, li_2, li_3, li_4, li_6, li_14, li_15, li_18, li_29, li_20000, li_m1] at r_10_
        have b_11_ : 0 ≤ (gi s_4 4 2).toInt ∧ (gi s_4 4 2).toInt ≤ 29 := g_s_4.1.1 4 2
        refine wp_chk_i (inb_ti (by first | omega | (simp (disch := omega) only [ti_add, ti_sub, b2t_, b2f_, li_0, li_1, li_2, li_3, li_4, li_6, li_14, li_15, li_18, li_29, li_20000, li_m1]; omega)) (by first | omega | (simp (disch := omega) only [ti_add, ti_sub, b2t_, b2f_, li_0, li_1, li_2, li_3, li_4, li_6, li_14, li_15, li_18, li_29, li_20000, li_m1]; omega))) ?_
        have b_12_ : 0 ≤ (gi s_4 18 (ix (gi s_4 4 2))).toInt ∧ (gi s_4 18 (ix (gi s_4 4 2))).toInt ≤ 14 := g_s_4.1.1 18 (ix (gi s_4 4 2))
        apply wp_bv_i
        intro v_6 e_v_6
        have j_13_ := eq_ti e_v_6
        try simp (disch := omega) only [ti_add, ti_sub, b2t_, b2f_, li_0, li_1, li_2, li_3, li_4, li_6, li_14, li_15, li_18, li_29, li_20000, li_m1] at j_13_
        apply wp_bv_i
        intro q_7 e_q_7
        have hq_7 : isScr q_7 = true := (by rw [e_q_7]; exact (by have z_ := congrArg (fun z => z.2 4 3) g_s_4.2.2.1; exact Eq.trans (congrArg isScr z_) hS))
        have cq_7 := scr_cases hq_7
        refine wp_chk_i hq_7 ?_
        refine wp_bnv_i (tX5_emit q_7 (20000 + v_6) s_4 g_s_4.1 hq_7 (by first | omega | (simp (disch := omega) only [ti_add, ti_sub, b2t_, b2f_, li_0, li_1, li_2, li_3, li_4, li_6, li_14, li_15, li_18, li_29, li_20000, li_m1]; omega))) (fun s_9 p_s_9 => ?_)
        have g_s_9 := g_s_4.tr p_s_9.1
        have f_s_9 := p_s_9.2
        try dsimp only at f_s_9
        try simp (disch := omega) only [ti_add, ti_sub, b2t_, b2f_, li_0, li_1, li_2, li_3, li_4, li_6, li_14, li_15, li_18, li_29, li_20000, li_m1] at f_s_9
        refine wp_jn (fun k_12 => ∀ (y_10 : Int32) (y_11 : Bool), wp_ (k_12 y_10 y_11) Q) ?_ (fun k_12 hk_12 => ?_)
        · intro y_10 y_11
          try dsimp only
          have b_14_ := b2i_bd y_11
          apply wp_bv_i
          intro s_13 e_s_13
          have g_s_13 : R9_ S_ s_13 := by rw [e_s_13]; exact R9_.si g_s_9 (by first | decide | omega) trivial
          have r_15_ : (gi s_9 4 2).toInt = (gi s_4 4 2).toInt := by rw [f_s_9 4 (by omega) (by omega)]
          have b_16_ : 0 ≤ (gi s_9 4 2).toInt ∧ (gi s_9 4 2).toInt ≤ 29 := g_s_9.1.1 4 2
          have r_17_ : (gi s_13 4 2).toInt = (gi s_9 4 2).toInt := by rw [e_s_13]; rw [gsi_ne (by decide)]
          have b_18_ : 0 ≤ (gi s_13 4 2).toInt ∧ (gi s_13 4 2).toInt ≤ 29 := g_s_13.1.1 4 2
          exact hrec s_13 g_s_13  (by first | omega | (simp (disch := omega) only [ti_add, ti_sub, b2t_, b2f_, li_0, li_1, li_2, li_3, li_4, li_6, li_14, li_15, li_18, li_29, li_20000, li_m1]; omega))
        refine wp_jn (fun k_15 => ∀ (y_14 : Int32), wp_ (k_15 y_14) Q) ?_ (fun k_15 hk_15 => ?_)
        · intro y_14
          try dsimp only
          exact hk_12 y_14 true  
        refine wp_if_i (fun h_19_ => ?_) (fun h_19_ => ?_)
        · skip
          have j_20_ := eq_ti h_19_
          try simp (disch := omega) only [ti_add, ti_sub, b2t_, b2f_, li_0, li_1, li_2, li_3, li_4, li_6, li_14, li_15, li_18, li_29, li_20000, li_m1] at j_20_
          exact hk_15 (gi s_9 4 6)  
        · skip
          have j_21_ := ne_ti h_19_
          try simp (disch := omega) only [ti_add, ti_sub, b2t_, b2f_, li_0, li_1, li_2, li_3, li_4, li_6, li_14, li_15, li_18, li_29, li_20000, li_m1] at j_21_
          refine wp_if_i (fun h_22_ => ?_) (fun h_22_ => ?_)
          · skip
            have j_23_ := eq_ti h_22_
            try simp (disch := omega) only [ti_add, ti_sub, b2t_, b2f_, li_0, li_1, li_2, li_3, li_4, li_6, li_14, li_15, li_18, li_29, li_20000, li_m1] at j_23_
            exact hk_15 (gi s_9 4 6)  
          · skip
            have j_24_ := ne_ti h_22_
            try simp (disch := omega) only [ti_add, ti_sub, b2t_, b2f_, li_0, li_1, li_2, li_3, li_4, li_6, li_14, li_15, li_18, li_29, li_20000, li_m1] at j_24_
            exact hk_12 (gi s_9 4 6) false  
set_option maxHeartbeats 1000000 in
set_option maxRecDepth 20000 in
theorem tX2_settle (a1 : Int32) (s0 : Sg) (h0 : I9_ s0) (hS : isScr (gr s0 4 3) = true) : wp_ (fX2_settle a1 s0) (fun q => R9_ s0 q) := by
  have g_s0 : R9_ s0 s0 := R9_.rf h0
  have hFU_ : FU = 1000000000 := rfl
  generalize hQ : (fun q : (Sg) => R9_ s0 q) = Q
  unfold fX2_settle
  have L0_ := li_0
  have L1_ := li_1
  have M1_ := li_m1
  have b_1_ : 0 ≤ (gi s0 4 2).toInt ∧ (gi s0 4 2).toInt ≤ 29 := g_s0.1.1 4 2
  exact lX2_settle_0_b s0 h0 a1  (fun q hq => by subst hQ; exact hq) hS FU s0 g_s0  (by first | omega | (simp (disch := omega) only [ti_add, ti_sub, b2t_, b2f_, li_0, li_1, li_m1]; omega))
set_option maxHeartbeats 1000000 in
set_option maxRecDepth 20000 in
theorem tX2_joinBy (a1 : Int32) (s0 : Sg) (h0 : I9_ s0) (hS : isScr (gr s0 4 3) = true) (ha : 0 ≤ a1.toInt ∧ a1.toInt ≤ 14) : wp_ (fX2_joinBy a1 s0) (fun q => R9_ s0 q) := by
  have g_s0 : R9_ s0 s0 := R9_.rf h0
  have hFU_ : FU = 1000000000 := rfl
  generalize hQ : (fun q : (Sg) => R9_ s0 q) = Q
  unfold fX2_joinBy
  have L0_ := li_0
  have L1_ := li_1
  have L4_ := li_4
  have L9_ := li_9
  have L15_ := li_15
  have M1_ := li_m1
  refine wp_chk_i (inb_ti (by first | omega | (simp (disch := omega) only [ti_add, ti_sub, b2t_, b2f_, li_0, li_1, li_4, li_9, li_15, li_m1]; omega)) (by first | omega | (simp (disch := omega) only [ti_add, ti_sub, b2t_, b2f_, li_0, li_1, li_4, li_9, li_15, li_m1]; omega))) ?_
  refine wp_bnv_i (tX2_settle (tB.getD (ix a1) 0) s0 g_s0.1 hS) (fun s_2 p_s_2 => ?_)
  have g_s_2 := g_s0.tr p_s_2
  refine wp_bnv_i (tX2_keepWaiting a1 s_2 g_s_2.1 (by first | omega | (simp (disch := omega) only [ti_add, ti_sub, b2t_, b2f_, li_0, li_1, li_4, li_9, li_15, li_m1]; omega))) (fun s_3 p_s_3 => ?_)
  have g_s_3 := g_s_2.tr p_s_3
  apply wp_bv_i
  intro s_4 e_s_4
  have g_s_4 : R9_ s0 s_4 := by rw [e_s_4]; exact R9_.si g_s_3 (by first | decide | omega) trivial
  exact wp_some_i (by subst hQ; exact g_s_4)
set_option maxHeartbeats 1000000 in
set_option maxRecDepth 20000 in
theorem tX2_closeBracket (s0 : Sg) (h0 : I9_ s0) (hS : isScr (gr s0 4 3) = true) : wp_ (fX2_closeBracket s0) (fun q => R9_ s0 q) := by
  have g_s0 : R9_ s0 s0 := R9_.rf h0
  have hFU_ : FU = 1000000000 := rfl
  generalize hQ : (fun q : (Sg) => R9_ s0 q) = Q
  unfold fX2_closeBracket
  have L0_ := li_0
  have L1_ := li_1
  have L2_ := li_2
  have L4_ := li_4
  have L6_ := li_6
  have L7_ := li_7
  have M1_ := li_m1
  refine wp_bnv_i (tX2_settle 1 s0 g_s0.1 hS) (fun s_1 p_s_1 => ?_)
  have g_s_1 := g_s0.tr p_s_1
  refine wp_jn (fun k_4 => ∀ (y_2 : Int32) (y_3 : Bool), (b2i y_3).toInt ≤ y_2.toInt → y_2.toInt ≤ 29 → wp_ (k_4 y_2 y_3) Q) ?_ (fun k_4 hk_4 => ?_)
  · intro y_2 y_3 u_0_k_4 u_1_k_4
    try dsimp only
    have b_1_ := b2i_bd y_3
    apply wp_bv_i
    intro s_5 e_s_5
    have g_s_5 : R9_ s0 s_5 := by rw [e_s_5]; exact R9_.si g_s_1 (by first | decide | omega) (show 0 ≤ (((y_2 - (b2i y_3)) : Int32)).toInt ∧ (((y_2 - (b2i y_3)) : Int32)).toInt ≤ 29 from ⟨by first | omega | (simp (disch := omega) only [ti_add, ti_sub, b2t_, b2f_, li_0, li_1, li_2, li_4, li_6, li_7, li_m1]; omega), by first | omega | (simp (disch := omega) only [ti_add, ti_sub, b2t_, b2f_, li_0, li_1, li_2, li_4, li_6, li_7, li_m1]; omega)⟩)
    apply wp_bv_i
    intro s_6 e_s_6
    have g_s_6 : R9_ s0 s_6 := by rw [e_s_6]; exact R9_.si g_s_5 (by first | decide | omega) trivial
    apply wp_bv_i
    intro s_7 e_s_7
    have g_s_7 : R9_ s0 s_7 := by rw [e_s_7]; exact R9_.si g_s_6 (by first | decide | omega) trivial
    exact wp_some_i (by subst hQ; exact g_s_7)
  refine wp_if_i (fun h_2_ => ?_) (fun h_2_ => ?_)
  · skip
    have b_3_ : 0 ≤ (gi s_1 4 2).toInt ∧ (gi s_1 4 2).toInt ≤ 29 := g_s_1.1.1 4 2
    have j_4_ := le_ti h_2_
    try simp (disch := omega) only [ti_add, ti_sub, b2t_, b2f_, li_0, li_1, li_2, li_4, li_6, li_7, li_m1] at j_4_
    exact hk_4 (gi s_1 4 2) false  (by first | omega | (simp (disch := omega) only [ti_add, ti_sub, b2t_, b2f_, li_0, li_1, li_2, li_4, li_6, li_7, li_m1]; omega)) (by first | omega | (simp (disch := omega) only [ti_add, ti_sub, b2t_, b2f_, li_0, li_1, li_2, li_4, li_6, li_7, li_m1]; omega))
  · skip
    have b_5_ : 0 ≤ (gi s_1 4 2).toInt ∧ (gi s_1 4 2).toInt ≤ 29 := g_s_1.1.1 4 2
    have j_6_ := nle_ti h_2_
    try simp (disch := omega) only [ti_add, ti_sub, b2t_, b2f_, li_0, li_1, li_2, li_4, li_6, li_7, li_m1] at j_6_
    exact hk_4 (gi s_1 4 2) true  (by first | omega | (simp (disch := omega) only [ti_add, ti_sub, b2t_, b2f_, li_0, li_1, li_2, li_4, li_6, li_7, li_m1]; omega)) (by first | omega | (simp (disch := omega) only [ti_add, ti_sub, b2t_, b2f_, li_0, li_1, li_2, li_4, li_6, li_7, li_m1]; omega))
set_option maxHeartbeats 1000000 in
set_option maxRecDepth 20000 in
theorem tX2_readOperand (s0 : Sg) (h0 : I9_ s0) (hS : isScr (gr s0 4 3) = true) : wp_ (fX2_readOperand s0) (fun q => R9_ s0 q) := by
  have g_s0 : R9_ s0 s0 := R9_.rf h0
  have hFU_ : FU = 1000000000 := rfl
  generalize hQ : (fun q : (Sg) => R9_ s0 q) = Q
  unfold fX2_readOperand
  have L0_ := li_0
  have L1_ := li_1
  have L2_ := li_2
  have L3_ := li_3
  have L4_ := li_4
  have L5_ := li_5
  have L10_ := li_10
  have L11_ := li_11
  have L14_ := li_14
  have L17_ := li_17
  have L26_ := li_26
  have L10000_ := li_10000
  have M1_ := li_m1
  have b_1_ : 0 ≤ (gi s0 3 2).toInt ∧ (gi s0 3 2).toInt ≤ 36 := g_s0.1.1 3 2
  apply wp_bv_i
  intro v_1 e_v_1
  have j_2_ := eq_ti e_v_1
  try simp (disch := omega) only [ti_add, ti_sub, b2t_, b2f_, li_0, li_1, li_2, li_3, li_4, li_5, li_10, li_11, li_14, li_17, li_26, li_10000, li_m1] at j_2_
  refine wp_jn (fun k_2 => (v_1.toInt = 0 ∨ v_1.toInt = 11 ∨ v_1.toInt = 3) → wp_ k_2 Q) ?_ (fun k_2 hk_2 => ?_)
  · intro u_0_k_2
    refine wp_jn (fun k_4 => ∀ (y_3 : Int32), 0 ≤ y_3.toInt ∧ y_3.toInt ≤ 14 → wp_ (k_4 y_3) Q) ?_ (fun k_4 hk_4 => ?_)
    · intro y_3 u_0_k_4
      try dsimp only
      refine wp_bnv_i (tX2_openOne y_3 s0 g_s0.1 (by first | omega | (simp (disch := omega) only [ti_add, ti_sub, b2t_, b2f_, li_0, li_1, li_2, li_3, li_4, li_5, li_10, li_11, li_14, li_17, li_26, li_10000, li_m1]; omega) | (rw [ti_sub (by rw [ti_add (by omega) (by omega)]; omega) (by rw [ti_add (by omega) (by omega)]; omega), ti_add (by omega) (by omega)]; omega))) (fun s_5 p_s_5 => ?_)
      have g_s_5 := g_s0.tr p_s_5
      exact wp_some_i (by subst hQ; exact g_s_5)
    refine wp_if_i (fun h_3_ => ?_) (fun h_3_ => ?_)
    · skip
      have j_4_ := eq_ti h_3_
      try simp (disch := omega) only [ti_add, ti_sub, b2t_, b2f_, li_0, li_1, li_2, li_3, li_4, li_5, li_10, li_11, li_14, li_17, li_26, li_10000, li_m1] at j_4_
      exact hk_4 14  (by first | omega | (simp (disch := omega) only [ti_add, ti_sub, b2t_, b2f_, li_0, li_1, li_2, li_3, li_4, li_5, li_10, li_11, li_14, li_17, li_26, li_10000, li_m1]; omega) | (rw [ti_sub (by rw [ti_add (by omega) (by omega)]; omega) (by rw [ti_add (by omega) (by omega)]; omega), ti_add (by omega) (by omega)]; omega))
    · skip
      have j_5_ := ne_ti h_3_
      try simp (disch := omega) only [ti_add, ti_sub, b2t_, b2f_, li_0, li_1, li_2, li_3, li_4, li_5, li_10, li_11, li_14, li_17, li_26, li_10000, li_m1] at j_5_
      exact hk_4 v_1  (by first | omega | (simp (disch := omega) only [ti_add, ti_sub, b2t_, b2f_, li_0, li_1, li_2, li_3, li_4, li_5, li_10, li_11, li_14, li_17, li_26, li_10000, li_m1]; omega) | (rw [ti_sub (by rw [ti_add (by omega) (by omega)]; omega) (by rw [ti_add (by omega) (by omega)]; omega), ti_add (by omega) (by omega)]; omega))
  refine wp_if_i (fun h_6_ => ?_) (fun h_6_ => ?_)
  · skip
    have j_7_ := eq_ti h_6_
    try simp (disch := omega) only [ti_add, ti_sub, b2t_, b2f_, li_0, li_1, li_2, li_3, li_4, li_5, li_10, li_11, li_14, li_17, li_26, li_10000, li_m1] at j_7_
    exact hk_2   (by first | omega | (simp (disch := omega) only [ti_add, ti_sub, b2t_, b2f_, li_0, li_1, li_2, li_3, li_4, li_5, li_10, li_11, li_14, li_17, li_26, li_10000, li_m1]; omega) | (rw [ti_sub (by rw [ti_add (by omega) (by omega)]; omega) (by rw [ti_add (by omega) (by omega)]; omega), ti_add (by omega) (by omega)]; omega))
  · skip
    have j_8_ := ne_ti h_6_
    try simp (disch := omega) only [ti_add, ti_sub, b2t_, b2f_, li_0, li_1, li_2, li_3, li_4, li_5, li_10, li_11, li_14, li_17, li_26, li_10000, li_m1] at j_8_
    refine wp_if_i (fun h_9_ => ?_) (fun h_9_ => ?_)
    · skip
      have j_10_ := eq_ti h_9_
      try simp (disch := omega) only [ti_add, ti_sub, b2t_, b2f_, li_0, li_1, li_2, li_3, li_4, li_5, li_10, li_11, li_14, li_17, li_26, li_10000, li_m1] at j_10_
      exact hk_2   (by first | omega | (simp (disch := omega) only [ti_add, ti_sub, b2t_, b2f_, li_0, li_1, li_2, li_3, li_4, li_5, li_10, li_11, li_14, li_17, li_26, li_10000, li_m1]; omega) | (rw [ti_sub (by rw [ti_add (by omega) (by omega)]; omega) (by rw [ti_add (by omega) (by omega)]; omega), ti_add (by omega) (by omega)]; omega))
    · skip
      have j_11_ := ne_ti h_9_
      try simp (disch := omega) only [ti_add, ti_sub, b2t_, b2f_, li_0, li_1, li_2, li_3, li_4, li_5, li_10, li_11, li_14, li_17, li_26, li_10000, li_m1] at j_11_
      refine wp_jn (fun k_6 => wp_ k_6 Q) ?_ (fun k_6 hk_6 => ?_)
      · skip
        refine wp_bnd_i (tX2_operandFault v_1 s0 g_s0.1 ) (fun r_7 s_8 p_s_8 => ?_)
        have e_s_8 : s_8 = s0 := p_s_8
        have g_s_8 : R9_ s0 s_8 := by rw [e_s_8]; exact g_s0
        refine wp_if_i (fun h_12_ => ?_) (fun h_12_ => ?_)
        · skip
          have j_13_ := eq_ti h_12_
          try simp (disch := omega) only [ti_add, ti_sub, b2t_, b2f_, li_0, li_1, li_2, li_3, li_4, li_5, li_10, li_11, li_14, li_17, li_26, li_10000, li_m1] at j_13_
          refine wp_jn (fun k_10 => ∀ (y_9 : Int32), y_9.toInt ≤ 10010 → wp_ (k_10 y_9) Q) ?_ (fun k_10 hk_10 => ?_)
          · intro y_9 u_0_k_10
            try dsimp only
            refine wp_bnv_i (tX2_takeOperand y_9 s_8 g_s_8.1 (by have z_ := congrArg (fun z => z.2 4 3) g_s_8.2.2.1; exact Eq.trans (congrArg isScr z_) hS) (by first | omega | (simp (disch := omega) only [ti_add, ti_sub, b2t_, b2f_, li_0, li_1, li_2, li_3, li_4, li_5, li_10, li_11, li_14, li_17, li_26, li_10000, li_m1]; omega) | (rw [ti_sub (by rw [ti_add (by omega) (by omega)]; omega) (by rw [ti_add (by omega) (by omega)]; omega), ti_add (by omega) (by omega)]; omega))) (fun s_12 p_s_12 => ?_)
            have g_s_12 := g_s_8.tr p_s_12
            exact wp_some_i (by subst hQ; exact g_s_12)
          refine wp_if_i (fun h_14_ => ?_) (fun h_14_ => ?_)
          · skip
            have j_15_ := eq_ti h_14_
            try simp (disch := omega) only [ti_add, ti_sub, b2t_, b2f_, li_0, li_1, li_2, li_3, li_4, li_5, li_10, li_11, li_14, li_17, li_26, li_10000, li_m1] at j_15_
            have b_16_ : (gi s0 3 5).toInt ≤ 10000 := g_s0.1.1 3 5
            have r_17_ : (gi s_8 3 5).toInt = (gi s0 3 5).toInt := by rw [e_s_8]
            have b_18_ : (gi s_8 3 5).toInt ≤ 10000 := g_s_8.1.1 3 5
            exact hk_10 (gi s_8 3 5)  (by first | omega | (simp (disch := omega) only [ti_add, ti_sub, b2t_, b2f_, li_0, li_1, li_2, li_3, li_4, li_5, li_10, li_11, li_14, li_17, li_26, li_10000, li_m1]; omega) | (rw [ti_sub (by rw [ti_add (by omega) (by omega)]; omega) (by rw [ti_add (by omega) (by omega)]; omega), ti_add (by omega) (by omega)]; omega))
          · skip
            have j_19_ := ne_ti h_14_
            try simp (disch := omega) only [ti_add, ti_sub, b2t_, b2f_, li_0, li_1, li_2, li_3, li_4, li_5, li_10, li_11, li_14, li_17, li_26, li_10000, li_m1] at j_19_
            exact hk_10 ((10000 + v_1) - 26)  (by first | omega | (simp (disch := omega) only [ti_add, ti_sub, b2t_, b2f_, li_0, li_1, li_2, li_3, li_4, li_5, li_10, li_11, li_14, li_17, li_26, li_10000, li_m1]; omega) | (rw [ti_sub (by rw [ti_add (by omega) (by omega)]; omega) (by rw [ti_add (by omega) (by omega)]; omega), ti_add (by omega) (by omega)]; omega))
        · skip
          have j_20_ := ne_ti h_12_
          try simp (disch := omega) only [ti_add, ti_sub, b2t_, b2f_, li_0, li_1, li_2, li_3, li_4, li_5, li_10, li_11, li_14, li_17, li_26, li_10000, li_m1] at j_20_
          refine wp_bnv_i (tX2_fail r_7 s_8 g_s_8.1 ) (fun s_13 p_s_13 => ?_)
          have g_s_13 := g_s_8.tr p_s_13
          exact wp_some_i (by subst hQ; exact g_s_13)
      refine wp_if_i (fun h_21_ => ?_) (fun h_21_ => ?_)
      · skip
        have j_22_ := eq_ti h_21_
        try simp (disch := omega) only [ti_add, ti_sub, b2t_, b2f_, li_0, li_1, li_2, li_3, li_4, li_5, li_10, li_11, li_14, li_17, li_26, li_10000, li_m1] at j_22_
        refine wp_if_i (fun h_23_ => ?_) (fun h_23_ => ?_)
        · skip
          have j_24_ := eq_ti h_23_
          try simp (disch := omega) only [ti_add, ti_sub, b2t_, b2f_, li_0, li_1, li_2, li_3, li_4, li_5, li_10, li_11, li_14, li_17, li_26, li_10000, li_m1] at j_24_
          exact hk_6   
        · skip
          have j_25_ := ne_ti h_23_
          try simp (disch := omega) only [ti_add, ti_sub, b2t_, b2f_, li_0, li_1, li_2, li_3, li_4, li_5, li_10, li_11, li_14, li_17, li_26, li_10000, li_m1] at j_25_
          exact hk_2   (by first | omega | (simp (disch := omega) only [ti_add, ti_sub, b2t_, b2f_, li_0, li_1, li_2, li_3, li_4, li_5, li_10, li_11, li_14, li_17, li_26, li_10000, li_m1]; omega) | (rw [ti_sub (by rw [ti_add (by omega) (by omega)]; omega) (by rw [ti_add (by omega) (by omega)]; omega), ti_add (by omega) (by omega)]; omega))
      · skip
        have j_26_ := ne_ti h_21_
        try simp (disch := omega) only [ti_add, ti_sub, b2t_, b2f_, li_0, li_1, li_2, li_3, li_4, li_5, li_10, li_11, li_14, li_17, li_26, li_10000, li_m1] at j_26_
        exact hk_6   
set_option maxHeartbeats 1000000 in
set_option maxRecDepth 20000 in
theorem tX2_readOperation (s0 : Sg) (h0 : I9_ s0) (hS : isScr (gr s0 4 3) = true) : wp_ (fX2_readOperation s0) (fun q => R9_ s0 q) := by
  have g_s0 : R9_ s0 s0 := R9_.rf h0
  have hFU_ : FU = 1000000000 := rfl
  generalize hQ : (fun q : (Sg) => R9_ s0 q) = Q
  unfold fX2_readOperation
  have L0_ := li_0
  have L1_ := li_1
  have L2_ := li_2
  have L3_ := li_3
  have L4_ := li_4
  have L7_ := li_7
  have L8_ := li_8
  have L9_ := li_9
  have L10_ := li_10
  have L11_ := li_11
  have L12_ := li_12
  have L13_ := li_13
  have L15_ := li_15
  have L16_ := li_16
  have M1_ := li_m1
  have b_1_ : 0 ≤ (gi s0 3 2).toInt ∧ (gi s0 3 2).toInt ≤ 36 := g_s0.1.1 3 2
  apply wp_bv_i
  intro v_1 e_v_1
  have j_2_ := eq_ti e_v_1
  try simp (disch := omega) only [ti_add, ti_sub, b2t_, b2f_, li_0, li_1, li_2, li_3, li_4, li_7, li_8, li_9, li_10, li_11, li_12, li_13, li_15, li_16, li_m1] at j_2_
  refine wp_jn (fun k_2 => wp_ k_2 Q) ?_ (fun k_2 hk_2 => ?_)
  · skip
    refine wp_jn (fun k_3 => wp_ k_3 Q) ?_ (fun k_3 hk_3 => ?_)
    · skip
      refine wp_jn (fun k_4 => wp_ k_4 Q) ?_ (fun k_4 hk_4 => ?_)
      · skip
        refine wp_jn (fun k_5 => wp_ k_5 Q) ?_ (fun k_5 hk_5 => ?_)
        · skip
          refine wp_jn (fun k_6 => wp_ k_6 Q) ?_ (fun k_6 hk_6 => ?_)
          · skip
            refine wp_bnv_i (tX2_fail 1 s0 g_s0.1 ) (fun s_8 p_s_8 => ?_)
            have g_s_8 := g_s0.tr p_s_8
            exact wp_some_i (by subst hQ; exact g_s_8)
          refine wp_if_i (fun h_3_ => ?_) (fun h_3_ => ?_)
          · skip
            have j_4_ := eq_ti h_3_
            try simp (disch := omega) only [ti_add, ti_sub, b2t_, b2f_, li_0, li_1, li_2, li_3, li_4, li_7, li_8, li_9, li_10, li_11, li_12, li_13, li_15, li_16, li_m1] at j_4_
            refine wp_if_i (fun h_5_ => ?_) (fun h_5_ => ?_)
            · skip
              have j_6_ := eq_ti h_5_
              try simp (disch := omega) only [ti_add, ti_sub, b2t_, b2f_, li_0, li_1, li_2, li_3, li_4, li_7, li_8, li_9, li_10, li_11, li_12, li_13, li_15, li_16, li_m1] at j_6_
              refine wp_if_i (fun h_7_ => ?_) (fun h_7_ => ?_)
              · skip
                have b_8_ : 0 ≤ (gi s0 4 8).toInt ∧ (gi s0 4 8).toInt ≤ 1 := g_s0.1.1 4 8
                have j_9_ := eq_ti h_7_
                try simp (disch := omega) only [ti_add, ti_sub, b2t_, b2f_, li_0, li_1, li_2, li_3, li_4, li_7, li_8, li_9, li_10, li_11, li_12, li_13, li_15, li_16, li_m1] at j_9_
                refine wp_bnv_i (tX2_settle 1 s0 g_s0.1 hS) (fun s_9 p_s_9 => ?_)
                have g_s_9 := g_s0.tr p_s_9
                apply wp_bv_i
                intro s_10 e_s_10
                have g_s_10 : R9_ s0 s_10 := by rw [e_s_10]; exact R9_.si g_s_9 (by first | decide | omega) trivial
                exact wp_some_i (by subst hQ; exact g_s_10)
              · skip
                have b_10_ : 0 ≤ (gi s0 4 8).toInt ∧ (gi s0 4 8).toInt ≤ 1 := g_s0.1.1 4 8
                have j_11_ := ne_ti h_7_
                try simp (disch := omega) only [ti_add, ti_sub, b2t_, b2f_, li_0, li_1, li_2, li_3, li_4, li_7, li_8, li_9, li_10, li_11, li_12, li_13, li_15, li_16, li_m1] at j_11_
                exact hk_6   
            · skip
              have j_12_ := ne_ti h_5_
              try simp (disch := omega) only [ti_add, ti_sub, b2t_, b2f_, li_0, li_1, li_2, li_3, li_4, li_7, li_8, li_9, li_10, li_11, li_12, li_13, li_15, li_16, li_m1] at j_12_
              exact hk_6   
          · skip
            have j_13_ := ne_ti h_3_
            try simp (disch := omega) only [ti_add, ti_sub, b2t_, b2f_, li_0, li_1, li_2, li_3, li_4, li_7, li_8, li_9, li_10, li_11, li_12, li_13, li_15, li_16, li_m1] at j_13_
            exact hk_6   
        refine wp_jn (fun k_11 => (v_1.toInt = 1 ∨ v_1.toInt = 2) → wp_ k_11 Q) ?_ (fun k_11 hk_11 => ?_)
        · intro u_0_k_11
          refine wp_if_i (fun h_14_ => ?_) (fun h_14_ => ?_)
          · skip
            have j_15_ := eq_ti h_14_
            try simp (disch := omega) only [ti_add, ti_sub, b2t_, b2f_, li_0, li_1, li_2, li_3, li_4, li_7, li_8, li_9, li_10, li_11, li_12, li_13, li_15, li_16, li_m1] at j_15_
            refine wp_if_i (fun h_16_ => ?_) (fun h_16_ => ?_)
            · skip
              have j_17_ := eq_ti h_16_
              try simp (disch := omega) only [ti_add, ti_sub, b2t_, b2f_, li_0, li_1, li_2, li_3, li_4, li_7, li_8, li_9, li_10, li_11, li_12, li_13, li_15, li_16, li_m1] at j_17_
              exact hk_5   
            · skip
              have j_18_ := ne_ti h_16_
              try simp (disch := omega) only [ti_add, ti_sub, b2t_, b2f_, li_0, li_1, li_2, li_3, li_4, li_7, li_8, li_9, li_10, li_11, li_12, li_13, li_15, li_16, li_m1] at j_18_
              refine wp_bnv_i (tX2_joinBy v_1 s0 g_s0.1 hS (by first | omega | (simp (disch := omega) only [ti_add, ti_sub, b2t_, b2f_, li_0, li_1, li_2, li_3, li_4, li_7, li_8, li_9, li_10, li_11, li_12, li_13, li_15, li_16, li_m1]; omega))) (fun s_12 p_s_12 => ?_)
              have g_s_12 := g_s0.tr p_s_12
              apply wp_bv_i
              intro s_13 e_s_13
              have g_s_13 : R9_ s0 s_13 := by rw [e_s_13]; exact R9_.si g_s_12 (by first | decide | omega) trivial
              apply wp_bv_i
              intro s_14 e_s_14
              have g_s_14 : R9_ s0 s_14 := by rw [e_s_14]; exact R9_.si g_s_13 (by first | decide | omega) trivial
              exact wp_some_i (by subst hQ; exact g_s_14)
          · skip
            have j_19_ := ne_ti h_14_
            try simp (disch := omega) only [ti_add, ti_sub, b2t_, b2f_, li_0, li_1, li_2, li_3, li_4, li_7, li_8, li_9, li_10, li_11, li_12, li_13, li_15, li_16, li_m1] at j_19_
            exact hk_5   
        refine wp_if_i (fun h_20_ => ?_) (fun h_20_ => ?_)
        · skip
          have j_21_ := eq_ti h_20_
          try simp (disch := omega) only [ti_add, ti_sub, b2t_, b2f_, li_0, li_1, li_2, li_3, li_4, li_7, li_8, li_9, li_10, li_11, li_12, li_13, li_15, li_16, li_m1] at j_21_
          exact hk_11   (by first | omega | (simp (disch := omega) only [ti_add, ti_sub, b2t_, b2f_, li_0, li_1, li_2, li_3, li_4, li_7, li_8, li_9, li_10, li_11, li_12, li_13, li_15, li_16, li_m1]; omega))
        · skip
          have j_22_ := ne_ti h_20_
          try simp (disch := omega) only [ti_add, ti_sub, b2t_, b2f_, li_0, li_1, li_2, li_3, li_4, li_7, li_8, li_9, li_10, li_11, li_12, li_13, li_15, li_16, li_m1] at j_22_
          refine wp_if_i (fun h_23_ => ?_) (fun h_23_ => ?_)
          · skip
            have j_24_ := eq_ti h_23_
            try simp (disch := omega) only [ti_add, ti_sub, b2t_, b2f_, li_0, li_1, li_2, li_3, li_4, li_7, li_8, li_9, li_10, li_11, li_12, li_13, li_15, li_16, li_m1] at j_24_
            exact hk_11   (by first | omega | (simp (disch := omega) only [ti_add, ti_sub, b2t_, b2f_, li_0, li_1, li_2, li_3, li_4, li_7, li_8, li_9, li_10, li_11, li_12, li_13, li_15, li_16, li_m1]; omega))
          · skip
            have j_25_ := ne_ti h_23_
            try simp (disch := omega) only [ti_add, ti_sub, b2t_, b2f_, li_0, li_1, li_2, li_3, li_4, li_7, li_8, li_9, li_10, li_11, li_12, li_13, li_15, li_16, li_m1] at j_25_
            exact hk_5   
      refine wp_if_i (fun h_26_ => ?_) (fun h_26_ => ?_)
      · skip
        have j_27_ := lt_ti h_26_
        try simp (disch := omega) only [ti_add, ti_sub, b2t_, b2f_, li_0, li_1, li_2, li_3, li_4, li_7, li_8, li_9, li_10, li_11, li_12, li_13, li_15, li_16, li_m1] at j_27_
        exact hk_4   
      · skip
        have j_28_ := nlt_ti h_26_
        try simp (disch := omega) only [ti_add, ti_sub, b2t_, b2f_, li_0, li_1, li_2, li_3, li_4, li_7, li_8, li_9, li_10, li_11, li_12, li_13, li_15, li_16, li_m1] at j_28_
        refine wp_if_i (fun h_29_ => ?_) (fun h_29_ => ?_)
        · skip
          have j_30_ := lt_ti h_29_
          try simp (disch := omega) only [ti_add, ti_sub, b2t_, b2f_, li_0, li_1, li_2, li_3, li_4, li_7, li_8, li_9, li_10, li_11, li_12, li_13, li_15, li_16, li_m1] at j_30_
          exact hk_4   
        · skip
          have j_31_ := nlt_ti h_29_
          try simp (disch := omega) only [ti_add, ti_sub, b2t_, b2f_, li_0, li_1, li_2, li_3, li_4, li_7, li_8, li_9, li_10, li_11, li_12, li_13, li_15, li_16, li_m1] at j_31_
          refine wp_if_i (fun h_32_ => ?_) (fun h_32_ => ?_)
          · skip
            have b_33_ : 0 ≤ (gi s0 4 8).toInt ∧ (gi s0 4 8).toInt ≤ 1 := g_s0.1.1 4 8
            have j_34_ := eq_ti h_32_
            try simp (disch := omega) only [ti_add, ti_sub, b2t_, b2f_, li_0, li_1, li_2, li_3, li_4, li_7, li_8, li_9, li_10, li_11, li_12, li_13, li_15, li_16, li_m1] at j_34_
            exact hk_4   
          · skip
            have b_35_ : 0 ≤ (gi s0 4 8).toInt ∧ (gi s0 4 8).toInt ≤ 1 := g_s0.1.1 4 8
            have j_36_ := ne_ti h_32_
            try simp (disch := omega) only [ti_add, ti_sub, b2t_, b2f_, li_0, li_1, li_2, li_3, li_4, li_7, li_8, li_9, li_10, li_11, li_12, li_13, li_15, li_16, li_m1] at j_36_
            refine wp_if_i (fun h_37_ => ?_) (fun h_37_ => ?_)
            · skip
              have j_38_ := eq_ti h_37_
              try simp (disch := omega) only [ti_add, ti_sub, b2t_, b2f_, li_0, li_1, li_2, li_3, li_4, li_7, li_8, li_9, li_10, li_11, li_12, li_13, li_15, li_16, li_m1] at j_38_
              refine wp_if_i (fun h_39_ => ?_) (fun h_39_ => ?_)
              · skip
                have j_40_ := eq_ti h_39_
                try simp (disch := omega) only [ti_add, ti_sub, b2t_, b2f_, li_0, li_1, li_2, li_3, li_4, li_7, li_8, li_9, li_10, li_11, li_12, li_13, li_15, li_16, li_m1] at j_40_
                refine wp_bnv_i (tX2_joinBy v_1 s0 g_s0.1 hS (by first | omega | (simp (disch := omega) only [ti_add, ti_sub, b2t_, b2f_, li_0, li_1, li_2, li_3, li_4, li_7, li_8, li_9, li_10, li_11, li_12, li_13, li_15, li_16, li_m1]; omega))) (fun s_15 p_s_15 => ?_)
                have g_s_15 := g_s0.tr p_s_15
                apply wp_bv_i
                intro s_16 e_s_16
                have g_s_16 : R9_ s0 s_16 := by rw [e_s_16]; exact R9_.si g_s_15 (by first | decide | omega) trivial
                exact wp_some_i (by subst hQ; exact g_s_16)
              · skip
                have j_41_ := ne_ti h_39_
                try simp (disch := omega) only [ti_add, ti_sub, b2t_, b2f_, li_0, li_1, li_2, li_3, li_4, li_7, li_8, li_9, li_10, li_11, li_12, li_13, li_15, li_16, li_m1] at j_41_
                exact hk_4   
            · skip
              have j_42_ := ne_ti h_37_
              try simp (disch := omega) only [ti_add, ti_sub, b2t_, b2f_, li_0, li_1, li_2, li_3, li_4, li_7, li_8, li_9, li_10, li_11, li_12, li_13, li_15, li_16, li_m1] at j_42_
              exact hk_4   
    refine wp_if_i (fun h_43_ => ?_) (fun h_43_ => ?_)
    · skip
      have j_44_ := eq_ti h_43_
      try simp (disch := omega) only [ti_add, ti_sub, b2t_, b2f_, li_0, li_1, li_2, li_3, li_4, li_7, li_8, li_9, li_10, li_11, li_12, li_13, li_15, li_16, li_m1] at j_44_
      refine wp_if_i (fun h_45_ => ?_) (fun h_45_ => ?_)
      · skip
        have j_46_ := le_ti h_45_
        try simp (disch := omega) only [ti_add, ti_sub, b2t_, b2f_, li_0, li_1, li_2, li_3, li_4, li_7, li_8, li_9, li_10, li_11, li_12, li_13, li_15, li_16, li_m1] at j_46_
        exact hk_3   
      · skip
        have j_47_ := nle_ti h_45_
        try simp (disch := omega) only [ti_add, ti_sub, b2t_, b2f_, li_0, li_1, li_2, li_3, li_4, li_7, li_8, li_9, li_10, li_11, li_12, li_13, li_15, li_16, li_m1] at j_47_
        refine wp_bnv_i (tX2_closeBracket s0 g_s0.1 hS) (fun s_17 p_s_17 => ?_)
        have g_s_17 := g_s0.tr p_s_17
        exact wp_some_i (by subst hQ; exact g_s_17)
    · skip
      have j_48_ := ne_ti h_43_
      try simp (disch := omega) only [ti_add, ti_sub, b2t_, b2f_, li_0, li_1, li_2, li_3, li_4, li_7, li_8, li_9, li_10, li_11, li_12, li_13, li_15, li_16, li_m1] at j_48_
      exact hk_3   
  refine wp_if_i (fun h_49_ => ?_) (fun h_49_ => ?_)
  · skip
    have j_50_ := lt_ti h_49_
    try simp (disch := omega) only [ti_add, ti_sub, b2t_, b2f_, li_0, li_1, li_2, li_3, li_4, li_7, li_8, li_9, li_10, li_11, li_12, li_13, li_15, li_16, li_m1] at j_50_
    exact hk_2   
  · skip
    have j_51_ := nlt_ti h_49_
    try simp (disch := omega) only [ti_add, ti_sub, b2t_, b2f_, li_0, li_1, li_2, li_3, li_4, li_7, li_8, li_9, li_10, li_11, li_12, li_13, li_15, li_16, li_m1] at j_51_
    refine wp_if_i (fun h_52_ => ?_) (fun h_52_ => ?_)
    · skip
      have j_53_ := lt_ti h_52_
      try simp (disch := omega) only [ti_add, ti_sub, b2t_, b2f_, li_0, li_1, li_2, li_3, li_4, li_7, li_8, li_9, li_10, li_11, li_12, li_13, li_15, li_16, li_m1] at j_53_
      exact hk_2   
    · skip
      have j_54_ := nlt_ti h_52_
      try simp (disch := omega) only [ti_add, ti_sub, b2t_, b2f_, li_0, li_1, li_2, li_3, li_4, li_7, li_8, li_9, li_10, li_11, li_12, li_13, li_15, li_16, li_m1] at j_54_
      refine wp_bnv_i (tX2_joinBy v_1 s0 g_s0.1 hS (by first | omega | (simp (disch := omega) only [ti_add, ti_sub, b2t_, b2f_, li_0, li_1, li_2, li_3, li_4, li_7, li_8, li_9, li_10, li_11, li_12, li_13, li_15, li_16, li_m1]; omega))) (fun s_18 p_s_18 => ?_)
      have g_s_18 := g_s0.tr p_s_18
      exact wp_some_i (by subst hQ; exact g_s_18)
set_option maxHeartbeats 1000000 in
set_option maxRecDepth 20000 in
theorem lX2_readLaw_63_b {Q : (Sg) → Prop} (S_ : Sg) (hI_ : I9_ S_) (k_16 : Sg → Option (Sg)) (hk_16 : ∀ (z0_ : Sg), R9_ S_ z0_ → wp_ (k_16 z0_) Q) (hS : isScr (gr S_ 4 3) = true) : ∀ (n : Nat) (x3_37 : Int32) (s_38 : Sg), R9_ S_ s_38 → 0 ≤ x3_37.toInt → (301 - x3_37.toInt).toNat < n → wp_ (lo2 (fX2_readLaw_63_b k_16) n x3_37 s_38) Q := by
  intro n
  induction n with
  | zero =>
    intro x3_37 s_38 _ _ hm_
    exact absurd hm_ (Nat.not_lt_zero _)
  | succ n ih =>
    intro x3_37 s_38 g_s_38 i0_ hm_
    show wp_ (fX2_readLaw_63_b k_16 (lo2 (fX2_readLaw_63_b k_16) n) x3_37 s_38) Q
    have hrec := ih
    generalize lo2 (fX2_readLaw_63_b k_16) n = rc at hrec ⊢
    clear ih
    have hFU_ : FU = 1000000000 := rfl
    unfold fX2_readLaw_63_b
    have L0_ := li_0
    have L1_ := li_1
    have L4_ := li_4
    have L9_ := li_9
    have L12_ := li_12
    have L300_ := li_300
    have M1_ := li_m1
    refine wp_if_i (fun h_1_ => ?_) (fun h_1_ => ?_)
    · skip
      have j_2_ := lt_ti h_1_
      try simp (disch := omega) only [ti_add, ti_sub, b2t_, b2f_, li_0, li_1, li_4, li_9, li_12, li_300, li_m1] at j_2_
      exact hk_16 s_38 g_s_38 
    · skip
      have j_3_ := nlt_ti h_1_
      try simp (disch := omega) only [ti_add, ti_sub, b2t_, b2f_, li_0, li_1, li_4, li_9, li_12, li_300, li_m1] at j_3_
      refine wp_if_i (fun h_4_ => ?_) (fun h_4_ => ?_)
      · skip
        have j_5_ := eq_ti h_4_
        try simp (disch := omega) only [ti_add, ti_sub, b2t_, b2f_, li_0, li_1, li_4, li_9, li_12, li_300, li_m1] at j_5_
        refine wp_if_i (fun h_6_ => ?_) (fun h_6_ => ?_)
        · skip
          have j_7_ := eq_ti h_6_
          try simp (disch := omega) only [ti_add, ti_sub, b2t_, b2f_, li_0, li_1, li_4, li_9, li_12, li_300, li_m1] at j_7_
          refine wp_bnv_i (tX7_advance s_38 g_s_38.1 ) (fun s_39 p_s_39 => ?_)
          have g_s_39 := g_s_38.tr p_s_39
          refine wp_jn (fun k_41 => ∀ (s_40 : Sg), R9_ S_ s_40 → wp_ (k_41 s_40) Q) ?_ (fun k_41 hk_41 => ?_)
          · intro s_40 g_s_40
            try dsimp only
            apply wp_bv_i
            intro v_42 e_v_42
            have j_8_ := eq_ti e_v_42
            try simp (disch := omega) only [ti_add, ti_sub, b2t_, b2f_, li_0, li_1, li_4, li_9, li_12, li_300, li_m1] at j_8_
            exact hrec v_42 s_40 g_s_40 (by first | omega | (simp (disch := omega) only [ti_add, ti_sub, b2t_, b2f_, li_0, li_1, li_4, li_9, li_12, li_300, li_m1]; omega)) (by first | omega | (simp (disch := omega) only [ti_add, ti_sub, b2t_, b2f_, li_0, li_1, li_4, li_9, li_12, li_300, li_m1]; omega))
          refine wp_if_i (fun h_9_ => ?_) (fun h_9_ => ?_)
          · skip
            have j_10_ := eq_ti h_9_
            try simp (disch := omega) only [ti_add, ti_sub, b2t_, b2f_, li_0, li_1, li_4, li_9, li_12, li_300, li_m1] at j_10_
            refine wp_bnv_i (tX2_readOperation s_39 g_s_39.1 (by have z_ := congrArg (fun z => z.2 4 3) g_s_39.2.2.1; exact Eq.trans (congrArg isScr z_) hS)) (fun s_44 p_s_44 => ?_)
            have g_s_44 := g_s_39.tr p_s_44
            exact hk_41 s_44 g_s_44 
          · skip
            have j_11_ := ne_ti h_9_
            try simp (disch := omega) only [ti_add, ti_sub, b2t_, b2f_, li_0, li_1, li_4, li_9, li_12, li_300, li_m1] at j_11_
            refine wp_bnv_i (tX2_readOperand s_39 g_s_39.1 (by have z_ := congrArg (fun z => z.2 4 3) g_s_39.2.2.1; exact Eq.trans (congrArg isScr z_) hS)) (fun s_45 p_s_45 => ?_)
            have g_s_45 := g_s_39.tr p_s_45
            exact hk_41 s_45 g_s_45 
        · skip
          have j_12_ := ne_ti h_6_
          try simp (disch := omega) only [ti_add, ti_sub, b2t_, b2f_, li_0, li_1, li_4, li_9, li_12, li_300, li_m1] at j_12_
          exact hk_16 s_38 g_s_38 
      · skip
        have j_13_ := ne_ti h_4_
        try simp (disch := omega) only [ti_add, ti_sub, b2t_, b2f_, li_0, li_1, li_4, li_9, li_12, li_300, li_m1] at j_13_
        exact hk_16 s_38 g_s_38 
set_option maxHeartbeats 1000000 in
set_option maxRecDepth 20000 in
theorem tX2_readLaw (a1 : Int32) (s0 : Sg) (h0 : I9_ s0) (hS : isScr (gr s0 4 3) = true) : wp_ (fX2_readLaw a1 s0) (fun q => R9_ s0 q) := by
  have g_s0 : R9_ s0 s0 := R9_.rf h0
  have hFU_ : FU = 1000000000 := rfl
  generalize hQ : (fun q : (Sg) => R9_ s0 q) = Q
  unfold fX2_readLaw
  have L0_ := li_0
  have L1_ := li_1
  have L2_ := li_2
  have L3_ := li_3
  have L4_ := li_4
  have L5_ := li_5
  have L6_ := li_6
  have L7_ := li_7
  have L8_ := li_8
  have L9_ := li_9
  have L10_ := li_10
  have L11_ := li_11
  have L12_ := li_12
  have L16_ := li_16
  have L20_ := li_20
  have M1_ := li_m1
  apply wp_bv_i
  intro q_1 e_q_1
  have hq_1 : isScr q_1 = true := (by rw [e_q_1]; exact hS)
  have cq_1 := scr_cases hq_1
  refine wp_chk_i hq_1 ?_
  have b_1_ : 0 ≤ (gi s0 q_1 1).toInt ∧ (gi s0 q_1 1).toInt ≤ 300 := by have q_ := g_s0.1.1 q_1 1; rw [bd_scr hq_1] at q_; exact q_
  apply wp_bv_i
  intro v_3 e_v_3
  have j_2_ := eq_ti e_v_3
  try simp (disch := omega) only [ti_add, ti_sub, b2t_, b2f_, li_0, li_1, li_2, li_3, li_4, li_5, li_6, li_7, li_8, li_9, li_10, li_11, li_12, li_16, li_20, li_m1] at j_2_
  refine wp_jn (fun k_5 => ∀ (y_4 : Bool), wp_ (k_5 y_4) Q) ?_ (fun k_5 hk_5 => ?_)
  · intro y_4
    try dsimp only
    have b_3_ := b2i_bd y_4
    apply wp_bv_i
    intro s_6 e_s_6
    have g_s_6 : R9_ s0 s_6 := by rw [e_s_6]; exact R9_.si g_s0 (by first | decide | omega) (show 0 ≤ (((b2i y_4) : Int32)).toInt ∧ (((b2i y_4) : Int32)).toInt ≤ 1 from ⟨by first | omega | (simp (disch := omega) only [ti_add, ti_sub, b2t_, b2f_, li_0, li_1, li_2, li_3, li_4, li_5, li_6, li_7, li_8, li_9, li_10, li_11, li_12, li_16, li_20, li_m1]; omega), by first | omega | (simp (disch := omega) only [ti_add, ti_sub, b2t_, b2f_, li_0, li_1, li_2, li_3, li_4, li_5, li_6, li_7, li_8, li_9, li_10, li_11, li_12, li_16, li_20, li_m1]; omega)⟩)
    apply wp_bv_i
    intro s_7 e_s_7
    have g_s_7 : R9_ s0 s_7 := by rw [e_s_7]; exact R9_.si g_s_6 (by first | decide | omega) (show 0 ≤ ((0 : Int32)).toInt ∧ ((0 : Int32)).toInt ≤ 29 from ⟨by first | omega | (simp (disch := omega) only [ti_add, ti_sub, b2t_, b2f_, li_0, li_1, li_2, li_3, li_4, li_5, li_6, li_7, li_8, li_9, li_10, li_11, li_12, li_16, li_20, li_m1]; omega), by first | omega | (simp (disch := omega) only [ti_add, ti_sub, b2t_, b2f_, li_0, li_1, li_2, li_3, li_4, li_5, li_6, li_7, li_8, li_9, li_10, li_11, li_12, li_16, li_20, li_m1]; omega)⟩)
    apply wp_bv_i
    intro s_8 e_s_8
    have g_s_8 : R9_ s0 s_8 := by rw [e_s_8]; exact R9_.si g_s_7 (by first | decide | omega) trivial
    apply wp_bv_i
    intro s_9 e_s_9
    have g_s_9 : R9_ s0 s_9 := by rw [e_s_9]; exact R9_.si g_s_8 (by first | decide | omega) trivial
    apply wp_bv_i
    intro s_10 e_s_10
    have g_s_10 : R9_ s0 s_10 := by rw [e_s_10]; exact R9_.si g_s_9 (by first | decide | omega) trivial
    have r_4_ : (gi s_6 4 8).toInt = (((b2i y_4) : Int32)).toInt := by rw [e_s_6]; rw [gsi_eq]
    try simp (disch := omega) only [ti_add, ti_sub, b2t_, b2f_, li_0, li_1, li_2, li_3, li_4, li_5, li_6, li_7, li_8, li_9, li_10, li_11, li_12, li_16, li_20, li_m1] at r_4_
    have b_5_ : 0 ≤ (gi s_6 4 8).toInt ∧ (gi s_6 4 8).toInt ≤ 1 := g_s_6.1.1 4 8
    have r_6_ : (gi s_7 4 8).toInt = (gi s_6 4 8).toInt := by rw [e_s_7]; rw [gsi_ne (by decide)]
    have b_7_ : 0 ≤ (gi s_7 4 8).toInt ∧ (gi s_7 4 8).toInt ≤ 1 := g_s_7.1.1 4 8
    have r_8_ : (gi s_8 4 8).toInt = (gi s_7 4 8).toInt := by rw [e_s_8]; rw [gsi_ne (by decide)]
    have b_9_ : 0 ≤ (gi s_8 4 8).toInt ∧ (gi s_8 4 8).toInt ≤ 1 := g_s_8.1.1 4 8
    have r_10_ : (gi s_9 4 8).toInt = (gi s_8 4 8).toInt := by rw [e_s_9]; rw [gsi_ne (by decide)]
    have b_11_ : 0 ≤ (gi s_9 4 8).toInt ∧ (gi s_9 4 8).toInt ≤ 1 := g_s_9.1.1 4 8
    have r_12_ : (gi s_10 4 8).toInt = (gi s_9 4 8).toInt := by rw [e_s_10]; rw [gsi_ne (by decide)]
    have b_13_ : 0 ≤ (gi s_10 4 8).toInt ∧ (gi s_10 4 8).toInt ≤ 1 := g_s_10.1.1 4 8
    refine wp_chk_i (bool_ti (by assumption)) ?_
    apply wp_bv_i
    intro s_11 e_s_11
    have g_s_11 : R9_ s0 s_11 := by rw [e_s_11]; exact R9_.si g_s_10 (by first | decide | omega) trivial
    apply wp_bv_i
    intro s_13 e_s_13
    have g_s_13 : R9_ s0 s_13 := by rw [e_s_13]; exact R9_.si g_s_11 (by first | decide | omega) trivial
    apply wp_bv_i
    intro s_14 e_s_14
    have g_s_14 : R9_ s0 s_14 := by rw [e_s_14]; exact R9_.si g_s_13 (by first | decide | omega) trivial
    refine wp_jn (fun k_16 => ∀ (s_15 : Sg), R9_ s0 s_15 → wp_ (k_16 s_15) Q) ?_ (fun k_16 hk_16 => ?_)
    · intro s_15 g_s_15
      try dsimp only
      refine wp_bnv_i (tX2_takeToken 16 s_15 g_s_15.1 ) (fun s_17 p_s_17 => ?_)
      have g_s_17 := g_s_15.tr p_s_17
      apply wp_bv_i
      intro q_18 e_q_18
      have hq_18 : isScr q_18 = true := (by rw [e_q_18]; exact (by have z_ := congrArg (fun z => z.2 4 3) g_s_17.2.2.1; exact Eq.trans (congrArg isScr z_) hS))
      have cq_18 := scr_cases hq_18
      refine wp_chk_i hq_18 ?_
      refine wp_bnv_i (tX5_addClause q_18 a1 0 0 s_17 g_s_17.1 hq_18) (fun s_20 p_s_20 => ?_)
      have g_s_20 := g_s_17.tr p_s_20
      refine wp_if_i (fun h_14_ => ?_) (fun h_14_ => ?_)
      · skip
        have b_15_ : 0 ≤ (gi s_20 4 8).toInt ∧ (gi s_20 4 8).toInt ≤ 1 := g_s_20.1.1 4 8
        have j_16_ := eq_ti h_14_
        try simp (disch := omega) only [ti_add, ti_sub, b2t_, b2f_, li_0, li_1, li_2, li_3, li_4, li_5, li_6, li_7, li_8, li_9, li_10, li_11, li_12, li_16, li_20, li_m1] at j_16_
        apply wp_bv_i
        intro q_21 e_q_21
        have hq_21 : isScr q_21 = true := (by rw [e_q_21]; exact (by have z_ := congrArg (fun z => z.2 4 3) g_s_20.2.2.1; exact Eq.trans (congrArg isScr z_) hS))
        have cq_21 := scr_cases hq_21
        refine wp_chk_i hq_21 ?_
        apply wp_bv_i
        intro s_23 e_s_23
        have g_s_23 : R9_ s0 s_23 := by rw [e_s_23]; exact R9_.si g_s_20 (by first | decide | omega) (by rw [bd_scr hq_21]; exact (show -1 ≤ ((v_3 : Int32)).toInt ∧ ((v_3 : Int32)).toInt ≤ 300 from ⟨by first | omega | (simp (disch := omega) only [ti_add, ti_sub, b2t_, b2f_, li_0, li_1, li_2, li_3, li_4, li_5, li_6, li_7, li_8, li_9, li_10, li_11, li_12, li_16, li_20, li_m1]; omega), by first | omega | (simp (disch := omega) only [ti_add, ti_sub, b2t_, b2f_, li_0, li_1, li_2, li_3, li_4, li_5, li_6, li_7, li_8, li_9, li_10, li_11, li_12, li_16, li_20, li_m1]; omega)⟩))
        apply wp_bv_i
        intro q_24 e_q_24
        have hq_24 : isScr q_24 = true := (by rw [e_q_24]; exact (by have z_ := congrArg (fun z => z.2 4 3) g_s_23.2.2.1; exact Eq.trans (congrArg isScr z_) hS))
        have cq_24 := scr_cases hq_24
        refine wp_chk_i hq_24 ?_
        apply wp_bv_i
        intro q_26 e_q_26
        have hq_26 : isScr q_26 = true := (by rw [e_q_26]; exact (by have z_ := congrArg (fun z => z.2 4 3) g_s_23.2.2.1; exact Eq.trans (congrArg isScr z_) hS))
        have cq_26 := scr_cases hq_26
        refine wp_chk_i hq_26 ?_
        have b_17_ : 0 ≤ (gi s_23 q_26 1).toInt ∧ (gi s_23 q_26 1).toInt ≤ 300 := by have q_ := g_s_23.1.1 q_26 1; rw [bd_scr hq_26] at q_; exact q_
        apply wp_bv_i
        intro s_28 e_s_28
        have g_s_28 : R9_ s0 s_28 := by rw [e_s_28]; exact R9_.si g_s_23 (by first | decide | omega) (by rw [bd_scr hq_24]; exact (show (((gi s_23 q_26 1) : Int32)).toInt ≤ 300 from (by first | omega | (simp (disch := omega) only [ti_add, ti_sub, b2t_, b2f_, li_0, li_1, li_2, li_3, li_4, li_5, li_6, li_7, li_8, li_9, li_10, li_11, li_12, li_16, li_20, li_m1]; omega))))
        exact wp_some_i (by subst hQ; exact g_s_28)
      · skip
        have b_18_ : 0 ≤ (gi s_20 4 8).toInt ∧ (gi s_20 4 8).toInt ≤ 1 := g_s_20.1.1 4 8
        have j_19_ := ne_ti h_14_
        try simp (disch := omega) only [ti_add, ti_sub, b2t_, b2f_, li_0, li_1, li_2, li_3, li_4, li_5, li_6, li_7, li_8, li_9, li_10, li_11, li_12, li_16, li_20, li_m1] at j_19_
        apply wp_bv_i
        intro q_29 e_q_29
        have hq_29 : isScr q_29 = true := (by rw [e_q_29]; exact (by have z_ := congrArg (fun z => z.2 4 3) g_s_20.2.2.1; exact Eq.trans (congrArg isScr z_) hS))
        have cq_29 := scr_cases hq_29
        refine wp_chk_i hq_29 ?_
        apply wp_bv_i
        intro s_31 e_s_31
        have g_s_31 : R9_ s0 s_31 := by rw [e_s_31]; exact R9_.si g_s_20 (by first | decide | omega) (by rw [bd_scr hq_29]; exact (show -1 ≤ ((v_3 : Int32)).toInt ∧ ((v_3 : Int32)).toInt ≤ 300 from ⟨by first | omega | (simp (disch := omega) only [ti_add, ti_sub, b2t_, b2f_, li_0, li_1, li_2, li_3, li_4, li_5, li_6, li_7, li_8, li_9, li_10, li_11, li_12, li_16, li_20, li_m1]; omega), by first | omega | (simp (disch := omega) only [ti_add, ti_sub, b2t_, b2f_, li_0, li_1, li_2, li_3, li_4, li_5, li_6, li_7, li_8, li_9, li_10, li_11, li_12, li_16, li_20, li_m1]; omega)⟩))
        apply wp_bv_i
        intro q_32 e_q_32
        have hq_32 : isScr q_32 = true := (by rw [e_q_32]; exact (by have z_ := congrArg (fun z => z.2 4 3) g_s_31.2.2.1; exact Eq.trans (congrArg isScr z_) hS))
        have cq_32 := scr_cases hq_32
        refine wp_chk_i hq_32 ?_
        apply wp_bv_i
        intro q_34 e_q_34
        have hq_34 : isScr q_34 = true := (by rw [e_q_34]; exact (by have z_ := congrArg (fun z => z.2 4 3) g_s_31.2.2.1; exact Eq.trans (congrArg isScr z_) hS))
        have cq_34 := scr_cases hq_34
        refine wp_chk_i hq_34 ?_
        have b_20_ : 0 ≤ (gi s_31 q_34 1).toInt ∧ (gi s_31 q_34 1).toInt ≤ 300 := by have q_ := g_s_31.1.1 q_34 1; rw [bd_scr hq_34] at q_; exact q_
        apply wp_bv_i
        intro s_36 e_s_36
        have g_s_36 : R9_ s0 s_36 := by rw [e_s_36]; exact R9_.si g_s_31 (by first | decide | omega) (by rw [bd_scr hq_32]; exact (show (((gi s_31 q_34 1) : Int32)).toInt ≤ 300 from (by first | omega | (simp (disch := omega) only [ti_add, ti_sub, b2t_, b2f_, li_0, li_1, li_2, li_3, li_4, li_5, li_6, li_7, li_8, li_9, li_10, li_11, li_12, li_16, li_20, li_m1]; omega))))
        exact wp_some_i (by subst hQ; exact g_s_36)
    exact lX2_readLaw_63_b s0 h0 k_16 hk_16 hS FU 0 s_14 g_s_14 (by first | omega | (simp (disch := omega) only [ti_add, ti_sub, b2t_, b2f_, li_0, li_1, li_2, li_3, li_4, li_5, li_6, li_7, li_8, li_9, li_10, li_11, li_12, li_16, li_20, li_m1]; omega)) (by first | omega | (simp (disch := omega) only [ti_add, ti_sub, b2t_, b2f_, li_0, li_1, li_2, li_3, li_4, li_5, li_6, li_7, li_8, li_9, li_10, li_11, li_12, li_16, li_20, li_m1]; omega))
  refine wp_if_i (fun h_21_ => ?_) (fun h_21_ => ?_)
  · skip
    have j_22_ := eq_ti h_21_
    try simp (disch := omega) only [ti_add, ti_sub, b2t_, b2f_, li_0, li_1, li_2, li_3, li_4, li_5, li_6, li_7, li_8, li_9, li_10, li_11, li_12, li_16, li_20, li_m1] at j_22_
    exact hk_5 true  
  · skip
    have j_23_ := ne_ti h_21_
    try simp (disch := omega) only [ti_add, ti_sub, b2t_, b2f_, li_0, li_1, li_2, li_3, li_4, li_5, li_6, li_7, li_8, li_9, li_10, li_11, li_12, li_16, li_20, li_m1] at j_23_
    exact hk_5 false  
set_option maxHeartbeats 1000000 in
set_option maxRecDepth 20000 in
theorem tX2_readStep (a1 : Int32) (s0 : Sg) (h0 : I9_ s0) (hS : isScr (gr s0 4 3) = true) : wp_ (fX2_readStep a1 s0) (fun q => R9_ s0 q) := by
  have g_s0 : R9_ s0 s0 := R9_.rf h0
  have hFU_ : FU = 1000000000 := rfl
  generalize hQ : (fun q : (Sg) => R9_ s0 q) = Q
  unfold fX2_readStep
  have L0_ := li_0
  have L1_ := li_1
  have L3_ := li_3
  have L4_ := li_4
  have L11_ := li_11
  have L16_ := li_16
  have L18_ := li_18
  have L21_ := li_21
  have L23_ := li_23
  have L99_ := li_99
  have M1_ := li_m1
  refine wp_bnv_i (tX7_advance s0 g_s0.1 ) (fun s_1 p_s_1 => ?_)
  have g_s_1 := g_s0.tr p_s_1
  refine wp_jn (fun k_3 => ∀ (y_2 : Int32), wp_ (k_3 y_2) Q) ?_ (fun k_3 hk_3 => ?_)
  · intro y_2
    try dsimp only
    refine wp_bnd_i (tX2_takeNumber y_2 s_1 g_s_1.1 ) (fun r_4 s_5 p_s_5 => ?_)
    have g_s_5 := g_s_1.tr p_s_5
    refine wp_jn (fun k_8 => ∀ (x3_6 : Int32) (s_7 : Sg), R9_ s0 s_7 → wp_ (k_8 x3_6 s_7) Q) ?_ (fun k_8 hk_8 => ?_)
    · intro x3_6 s_7 g_s_7
      try dsimp only
      refine wp_bnv_i (tX2_takeToken 16 s_7 g_s_7.1 ) (fun s_9 p_s_9 => ?_)
      have g_s_9 := g_s_7.tr p_s_9
      apply wp_bv_i
      intro q_10 e_q_10
      have hq_10 : isScr q_10 = true := (by rw [e_q_10]; exact (by have z_ := congrArg (fun z => z.2 4 3) g_s_9.2.2.1; exact Eq.trans (congrArg isScr z_) hS))
      have cq_10 := scr_cases hq_10
      refine wp_chk_i hq_10 ?_
      refine wp_bnv_i (tX5_addClause q_10 a1 r_4 x3_6 s_9 g_s_9.1 hq_10) (fun s_12 p_s_12 => ?_)
      have g_s_12 := g_s_9.tr p_s_12
      exact wp_some_i (by subst hQ; exact g_s_12)
    refine wp_if_i (fun h_1_ => ?_) (fun h_1_ => ?_)
    · skip
      have j_2_ := eq_ti h_1_
      try simp (disch := omega) only [ti_add, ti_sub, b2t_, b2f_, li_0, li_1, li_3, li_4, li_11, li_16, li_18, li_21, li_23, li_99, li_m1] at j_2_
      refine wp_bnv_i (tX2_takeToken 18 s_5 g_s_5.1 ) (fun s_13 p_s_13 => ?_)
      have g_s_13 := g_s_5.tr p_s_13
      refine wp_bnd_i (tX2_takeNumber 1 s_13 g_s_13.1 ) (fun r_14 s_15 p_s_15 => ?_)
      have g_s_15 := g_s_13.tr p_s_15
      exact hk_8 r_14 s_15 g_s_15 
    · skip
      have j_3_ := ne_ti h_1_
      try simp (disch := omega) only [ti_add, ti_sub, b2t_, b2f_, li_0, li_1, li_3, li_4, li_11, li_16, li_18, li_21, li_23, li_99, li_m1] at j_3_
      exact hk_8 0 s_5 g_s_5 
  refine wp_if_i (fun h_4_ => ?_) (fun h_4_ => ?_)
  · skip
    have j_5_ := eq_ti h_4_
    try simp (disch := omega) only [ti_add, ti_sub, b2t_, b2f_, li_0, li_1, li_3, li_4, li_11, li_16, li_18, li_21, li_23, li_99, li_m1] at j_5_
    exact hk_3 99  
  · skip
    have j_6_ := ne_ti h_4_
    try simp (disch := omega) only [ti_add, ti_sub, b2t_, b2f_, li_0, li_1, li_3, li_4, li_11, li_16, li_18, li_21, li_23, li_99, li_m1] at j_6_
    exact hk_3 11  
