set_option maxHeartbeats 1000000 in
set_option maxRecDepth 20000 in
theorem lX2_read_31_b {Q : (Bool × Sg) → Prop} (S_ : Sg) (hI_ : I9_ S_) (k_9 : Sg → Option (Bool × Sg)) (hk_9 : ∀ (z0_ : Sg), R9_ S_ z0_ → wp_ (k_9 z0_) Q) (hS : isScr (gr S_ 4 3) = true) : ∀ (n : Nat) (x2_10 : Int32) (s_11 : Sg), R9_ S_ s_11 → 0 ≤ x2_10.toInt → (25 - x2_10.toInt).toNat < n → wp_ (lo2 (fX2_read_31_b k_9) n x2_10 s_11) Q := by
  intro n
  induction n with
  | zero =>
    intro x2_10 s_11 _ _ hm_
    exact absurd hm_ (Nat.not_lt_zero _)
  | succ n ih =>
    intro x2_10 s_11 g_s_11 i0_ hm_
    show wp_ (fX2_read_31_b k_9 (lo2 (fX2_read_31_b k_9) n) x2_10 s_11) Q
    have hrec := ih
    generalize lo2 (fX2_read_31_b k_9) n = rc at hrec ⊢
    clear ih
    have hFU_ : FU = 1000000000 := rfl
    unfold fX2_read_31_b
    have L0_ := li_0
    have L1_ := li_1
    have L2_ := li_2
    have L3_ := li_3
    have L4_ := li_4
    have L19_ := li_19
    have L20_ := li_20
    have L24_ := li_24
    have M1_ := li_m1
    refine wp_if_i (fun h_1_ => ?_) (fun h_1_ => ?_)
    · skip
      have j_2_ := lt_ti h_1_
      try simp (disch := omega) only [ti_add, ti_sub, b2t_, b2f_, li_0, li_1, li_2, li_3, li_4, li_19, li_20, li_24, li_m1] at j_2_
      exact hk_9 s_11 g_s_11 
    · skip
      have j_3_ := nlt_ti h_1_
      try simp (disch := omega) only [ti_add, ti_sub, b2t_, b2f_, li_0, li_1, li_2, li_3, li_4, li_19, li_20, li_24, li_m1] at j_3_
      refine wp_if_i (fun h_4_ => ?_) (fun h_4_ => ?_)
      · skip
        have j_5_ := eq_ti h_4_
        try simp (disch := omega) only [ti_add, ti_sub, b2t_, b2f_, li_0, li_1, li_2, li_3, li_4, li_19, li_20, li_24, li_m1] at j_5_
        refine wp_if_i (fun h_6_ => ?_) (fun h_6_ => ?_)
        · skip
          have b_7_ : 0 ≤ (gi s_11 3 2).toInt ∧ (gi s_11 3 2).toInt ≤ 36 := g_s_11.1.1 3 2
          have j_8_ := eq_ti h_6_
          try simp (disch := omega) only [ti_add, ti_sub, b2t_, b2f_, li_0, li_1, li_2, li_3, li_4, li_19, li_20, li_24, li_m1] at j_8_
          exact hk_9 s_11 g_s_11 
        · skip
          have b_9_ : 0 ≤ (gi s_11 3 2).toInt ∧ (gi s_11 3 2).toInt ≤ 36 := g_s_11.1.1 3 2
          have j_10_ := ne_ti h_6_
          try simp (disch := omega) only [ti_add, ti_sub, b2t_, b2f_, li_0, li_1, li_2, li_3, li_4, li_19, li_20, li_24, li_m1] at j_10_
          apply wp_bv_i
          intro v_12 e_v_12
          have j_11_ := eq_ti e_v_12
          try simp (disch := omega) only [ti_add, ti_sub, b2t_, b2f_, li_0, li_1, li_2, li_3, li_4, li_19, li_20, li_24, li_m1] at j_11_
          refine wp_bnd_i (tX2_headFault v_12 s_11 g_s_11.1 (by have z_ := congrArg (fun z => z.2 4 3) g_s_11.2.2.1; exact Eq.trans (congrArg isScr z_) hS)) (fun r_13 s_14 p_s_14 => ?_)
          have e_s_14 : s_14 = s_11 := p_s_14
          have g_s_14 : R9_ S_ s_14 := by rw [e_s_14]; exact g_s_11
          refine wp_jn (fun k_16 => ∀ (s_15 : Sg), R9_ S_ s_15 → wp_ (k_16 s_15) Q) ?_ (fun k_16 hk_16 => ?_)
          · intro s_15 g_s_15
            try dsimp only
            apply wp_bv_i
            intro v_17 e_v_17
            have j_12_ := eq_ti e_v_17
            try simp (disch := omega) only [ti_add, ti_sub, b2t_, b2f_, li_0, li_1, li_2, li_3, li_4, li_19, li_20, li_24, li_m1] at j_12_
            exact hrec v_17 s_15 g_s_15 (by first | omega | (simp (disch := omega) only [ti_add, ti_sub, b2t_, b2f_, li_0, li_1, li_2, li_3, li_4, li_19, li_20, li_24, li_m1]; omega)) (by first | omega | (simp (disch := omega) only [ti_add, ti_sub, b2t_, b2f_, li_0, li_1, li_2, li_3, li_4, li_19, li_20, li_24, li_m1]; omega))
          refine wp_if_i (fun h_13_ => ?_) (fun h_13_ => ?_)
          · skip
            have j_14_ := eq_ti h_13_
            try simp (disch := omega) only [ti_add, ti_sub, b2t_, b2f_, li_0, li_1, li_2, li_3, li_4, li_19, li_20, li_24, li_m1] at j_14_
            refine wp_jn (fun k_18 => wp_ k_18 Q) ?_ (fun k_18 hk_18 => ?_)
            · skip
              refine wp_bnv_i (tX2_readLaw v_12 s_14 g_s_14.1 (by have z_ := congrArg (fun z => z.2 4 3) g_s_14.2.2.1; exact Eq.trans (congrArg isScr z_) hS)) (fun s_19 p_s_19 => ?_)
              have g_s_19 := g_s_14.tr p_s_19
              exact hk_16 s_19 g_s_19 
            refine wp_if_i (fun h_15_ => ?_) (fun h_15_ => ?_)
            · skip
              have j_16_ := eq_ti h_15_
              try simp (disch := omega) only [ti_add, ti_sub, b2t_, b2f_, li_0, li_1, li_2, li_3, li_4, li_19, li_20, li_24, li_m1] at j_16_
              exact hk_18   
            · skip
              have j_17_ := ne_ti h_15_
              try simp (disch := omega) only [ti_add, ti_sub, b2t_, b2f_, li_0, li_1, li_2, li_3, li_4, li_19, li_20, li_24, li_m1] at j_17_
              refine wp_if_i (fun h_18_ => ?_) (fun h_18_ => ?_)
              · skip
                have j_19_ := eq_ti h_18_
                try simp (disch := omega) only [ti_add, ti_sub, b2t_, b2f_, li_0, li_1, li_2, li_3, li_4, li_19, li_20, li_24, li_m1] at j_19_
                exact hk_18   
              · skip
                have j_20_ := ne_ti h_18_
                try simp (disch := omega) only [ti_add, ti_sub, b2t_, b2f_, li_0, li_1, li_2, li_3, li_4, li_19, li_20, li_24, li_m1] at j_20_
                refine wp_bnv_i (tX2_readStep v_12 s_14 g_s_14.1 (by have z_ := congrArg (fun z => z.2 4 3) g_s_14.2.2.1; exact Eq.trans (congrArg isScr z_) hS)) (fun s_21 p_s_21 => ?_)
                have g_s_21 := g_s_14.tr p_s_21
                exact hk_16 s_21 g_s_21 
          · skip
            have j_21_ := ne_ti h_13_
            try simp (disch := omega) only [ti_add, ti_sub, b2t_, b2f_, li_0, li_1, li_2, li_3, li_4, li_19, li_20, li_24, li_m1] at j_21_
            refine wp_bnv_i (tX2_fail r_13 s_14 g_s_14.1 ) (fun s_22 p_s_22 => ?_)
            have g_s_22 := g_s_14.tr p_s_22
            exact hk_16 s_22 g_s_22 
      · skip
        have j_22_ := ne_ti h_4_
        try simp (disch := omega) only [ti_add, ti_sub, b2t_, b2f_, li_0, li_1, li_2, li_3, li_4, li_19, li_20, li_24, li_m1] at j_22_
        exact hk_9 s_11 g_s_11 
set_option maxHeartbeats 1000000 in
set_option maxRecDepth 20000 in
theorem lX0_addSums_12_b {Q : (Sg) → Prop} (S_ : Sg) (hI_ : I9_ S_) (x2_1 : Int32) (k_4 : Sg → Option (Sg)) (hk_4 : ∀ (z0_ : Sg), G9_ S_ z0_ → wp_ (k_4 z0_) Q) (cp0_ : 0 ≤ x2_1.toInt ∧ x2_1.toInt ≤ 11) : ∀ (n : Nat) (x3_6 : Int32) (s_7 : Sg), G9_ S_ s_7 → 0 ≤ x3_6.toInt → (4096 - x3_6.toInt).toNat < n → wp_ (lo2 (fX0_addSums_12_b x2_1 k_4) n x3_6 s_7) Q := by
  intro n
  induction n with
  | zero =>
    intro x3_6 s_7 _ _ hm_
    exact absurd hm_ (Nat.not_lt_zero _)
  | succ n ih =>
    intro x3_6 s_7 g_s_7 i0_ hm_
    show wp_ (fX0_addSums_12_b x2_1 k_4 (lo2 (fX0_addSums_12_b x2_1 k_4) n) x3_6 s_7) Q
    have hrec := ih
    generalize lo2 (fX0_addSums_12_b x2_1 k_4) n = rc at hrec ⊢
    clear ih
    have hFU_ : FU = 1000000000 := rfl
    unfold fX0_addSums_12_b
    have L0_ := li_0
    have L1_ := li_1
    have L9_ := li_9
    have L12_ := li_12
    have L26_ := li_26
    have L31_ := li_31
    have L4096_ := li_4096
    have M1_ := li_m1
    refine wp_if_i (fun h_1_ => ?_) (fun h_1_ => ?_)
    · skip
      have sh_2_ := shl_le x2_1 11 (by first | omega | (simp (disch := omega) only [ti_add, ti_sub, b2t_, b2f_, li_0, li_1, li_9, li_12, li_26, li_31, li_4096, li_m1]; omega)) (by first | omega | (simp (disch := omega) only [ti_add, ti_sub, b2t_, b2f_, li_0, li_1, li_9, li_12, li_26, li_31, li_4096, li_m1]; omega)) (by decide)
      try simp only [Nat.reducePow, Nat.cast_ofNat, Int.reducePow] at sh_2_
      have j_3_ := le_ti h_1_
      try simp (disch := omega) only [ti_add, ti_sub, b2t_, b2f_, li_0, li_1, li_9, li_12, li_26, li_31, li_4096, li_m1] at j_3_
      exact hk_4 s_7 g_s_7 
    · skip
      have sh_4_ := shl_le x2_1 11 (by first | omega | (simp (disch := omega) only [ti_add, ti_sub, b2t_, b2f_, li_0, li_1, li_9, li_12, li_26, li_31, li_4096, li_m1]; omega)) (by first | omega | (simp (disch := omega) only [ti_add, ti_sub, b2t_, b2f_, li_0, li_1, li_9, li_12, li_26, li_31, li_4096, li_m1]; omega)) (by decide)
      try simp only [Nat.reducePow, Nat.cast_ofNat, Int.reducePow] at sh_4_
      have j_5_ := nle_ti h_1_
      try simp (disch := omega) only [ti_add, ti_sub, b2t_, b2f_, li_0, li_1, li_9, li_12, li_26, li_31, li_4096, li_m1] at j_5_
      refine wp_chk_i (inb_ti (by first | omega | (simp (disch := omega) only [ti_add, ti_sub, b2t_, b2f_, li_0, li_1, li_9, li_12, li_26, li_31, li_4096, li_m1]; omega)) (by first | omega | (simp (disch := omega) only [ti_add, ti_sub, b2t_, b2f_, li_0, li_1, li_9, li_12, li_26, li_31, li_4096, li_m1]; omega))) ?_
      refine wp_chk_i (inb_ti (by first | omega | (simp (disch := omega) only [ti_add, ti_sub, b2t_, b2f_, li_0, li_1, li_9, li_12, li_26, li_31, li_4096, li_m1]; omega)) (by first | omega | (simp (disch := omega) only [ti_add, ti_sub, b2t_, b2f_, li_0, li_1, li_9, li_12, li_26, li_31, li_4096, li_m1]; omega))) ?_
      refine wp_chk_i (inb_ti (by first | omega | (simp (disch := omega) only [ti_add, ti_sub, b2t_, b2f_, li_0, li_1, li_9, li_12, li_26, li_31, li_4096, li_m1]; omega)) (by first | omega | (simp (disch := omega) only [ti_add, ti_sub, b2t_, b2f_, li_0, li_1, li_9, li_12, li_26, li_31, li_4096, li_m1]; omega))) ?_
      apply wp_bv_i
      intro s_11 e_s_11
      have g_s_11 : G9_ S_ s_11 := by rw [e_s_11]; exact G9_.si g_s_7 (by first | decide | omega) trivial
      apply wp_bv_i
      intro v_12 e_v_12
      have j_6_ := eq_ti e_v_12
      try simp (disch := omega) only [ti_add, ti_sub, b2t_, b2f_, li_0, li_1, li_9, li_12, li_26, li_31, li_4096, li_m1] at j_6_
      exact hrec v_12 s_11 g_s_11 (by first | omega | (simp (disch := omega) only [ti_add, ti_sub, b2t_, b2f_, li_0, li_1, li_9, li_12, li_26, li_31, li_4096, li_m1]; omega)) (by first | omega | (simp (disch := omega) only [ti_add, ti_sub, b2t_, b2f_, li_0, li_1, li_9, li_12, li_26, li_31, li_4096, li_m1]; omega))
set_option maxHeartbeats 1000000 in
set_option maxRecDepth 20000 in
theorem lX0_addSums_2_b {Q : (Sg) → Prop} (S_ : Sg) (hI_ : I9_ S_)  (hsome : ∀ q : (Sg), G9_ S_ q → Q q)  : ∀ (n : Nat) (x2_1 : Int32) (s_2 : Sg), G9_ S_ s_2 → 0 ≤ x2_1.toInt → (12 - x2_1.toInt).toNat < n → wp_ (lo2 (fX0_addSums_2_b ) n x2_1 s_2) Q := by
  intro n
  induction n with
  | zero =>
    intro x2_1 s_2 _ _ hm_
    exact absurd hm_ (Nat.not_lt_zero _)
  | succ n ih =>
    intro x2_1 s_2 g_s_2 i0_ hm_
    show wp_ (fX0_addSums_2_b  (lo2 (fX0_addSums_2_b ) n) x2_1 s_2) Q
    have hrec := ih
    generalize lo2 (fX0_addSums_2_b ) n = rc at hrec ⊢
    clear ih
    have hFU_ : FU = 1000000000 := rfl
    unfold fX0_addSums_2_b
    have L0_ := li_0
    have L1_ := li_1
    have L6_ := li_6
    have M1_ := li_m1
    refine wp_if_i (fun h_1_ => ?_) (fun h_1_ => ?_)
    · skip
      have b_2_ : 0 ≤ (gi s_2 1 6).toInt ∧ (gi s_2 1 6).toInt ≤ 12 := g_s_2.1.1 1 6
      have j_3_ := le_ti h_1_
      try simp (disch := omega) only [ti_add, ti_sub, b2t_, b2f_, li_0, li_1, li_6, li_m1] at j_3_
      exact wp_some_i (hsome (s_2) g_s_2)
    · skip
      have b_4_ : 0 ≤ (gi s_2 1 6).toInt ∧ (gi s_2 1 6).toInt ≤ 12 := g_s_2.1.1 1 6
      have j_5_ := nle_ti h_1_
      try simp (disch := omega) only [ti_add, ti_sub, b2t_, b2f_, li_0, li_1, li_6, li_m1] at j_5_
      refine wp_jn (fun k_4 => ∀ (s_3 : Sg), G9_ S_ s_3 → wp_ (k_4 s_3) Q) ?_ (fun k_4 hk_4 => ?_)
      · intro s_3 g_s_3
        try dsimp only
        apply wp_bv_i
        intro v_5 e_v_5
        have j_6_ := eq_ti e_v_5
        try simp (disch := omega) only [ti_add, ti_sub, b2t_, b2f_, li_0, li_1, li_6, li_m1] at j_6_
        exact hrec v_5 s_3 g_s_3 (by first | omega | (simp (disch := omega) only [ti_add, ti_sub, b2t_, b2f_, li_0, li_1, li_6, li_m1]; omega)) (by first | omega | (simp (disch := omega) only [ti_add, ti_sub, b2t_, b2f_, li_0, li_1, li_6, li_m1]; omega))
      exact lX0_addSums_12_b S_ hI_ x2_1 k_4 hk_4 (by first | omega | (simp (disch := omega) only [ti_add, ti_sub, b2t_, b2f_, li_0, li_1, li_6, li_m1]; omega)) FU 0 s_2 g_s_2 (by first | omega | (simp (disch := omega) only [ti_add, ti_sub, b2t_, b2f_, li_0, li_1, li_6, li_m1]; omega)) (by first | omega | (simp (disch := omega) only [ti_add, ti_sub, b2t_, b2f_, li_0, li_1, li_6, li_m1]; omega))
set_option maxHeartbeats 1000000 in
set_option maxRecDepth 20000 in
theorem tX0_addSums (s0 : Sg) (h0 : I9_ s0)  : wp_ (fX0_addSums s0) (fun q => G9_ s0 q) := by
  have g_s0 : G9_ s0 s0 := G9_.rf h0
  have hFU_ : FU = 1000000000 := rfl
  generalize hQ : (fun q : (Sg) => G9_ s0 q) = Q
  unfold fX0_addSums
  have L0_ := li_0
  have L1_ := li_1
  have M1_ := li_m1
  exact lX0_addSums_2_b s0 h0   (fun q hq => by subst hQ; exact hq)  FU 0 s0 g_s0 (by first | omega | (simp (disch := omega) only [ti_add, ti_sub, b2t_, b2f_, li_0, li_1, li_m1]; omega)) (by first | omega | (simp (disch := omega) only [ti_add, ti_sub, b2t_, b2f_, li_0, li_1, li_m1]; omega))
set_option maxHeartbeats 1000000 in
set_option maxRecDepth 20000 in
theorem lX0_partBeside_27_b {Q : (Int32 × Sg) → Prop} (S_ : Sg) (hI_ : I9_ S_) (a1 : Int32) (s0 : Sg) (v_2 : Int32) (hsome : ∀ q : (Int32 × Sg), q.2 = S_ → Q q) (e_s0 : s0 = S_) (cp0_ : 0 ≤ a1.toInt ∧ a1.toInt ≤ 4095) : ∀ (n : Nat) (x4_3 : Int32) (x5_4 : Int32), 0 ≤ x4_3.toInt ∧ x4_3.toInt ≤ 4095 → 0 ≤ x5_4.toInt → (4096 - x5_4.toInt).toNat < n → wp_ (lo2 (fX0_partBeside_27_b a1 s0 v_2) n x4_3 x5_4) Q := by
  intro n
  induction n with
  | zero =>
    intro x4_3 x5_4 _ _ hm_
    exact absurd hm_ (Nat.not_lt_zero _)
  | succ n ih =>
    intro x4_3 x5_4 i0_ i1_ hm_
    show wp_ (fX0_partBeside_27_b a1 s0 v_2 (lo2 (fX0_partBeside_27_b a1 s0 v_2) n) x4_3 x5_4) Q
    have hrec := ih
    generalize lo2 (fX0_partBeside_27_b a1 s0 v_2) n = rc at hrec ⊢
    clear ih
    have hFU_ : FU = 1000000000 := rfl
    unfold fX0_partBeside_27_b
    have L0_ := li_0
    have L1_ := li_1
    have L2_ := li_2
    have L26_ := li_26
    have L4096_ := li_4096
    have M1_ := li_m1
    have g_s0 : G9_ S_ s0 := by rw [e_s0]; exact G9_.rf hI_
    refine wp_if_i (fun h_1_ => ?_) (fun h_1_ => ?_)
    · skip
      have j_2_ := le_ti h_1_
      try simp (disch := omega) only [ti_add, ti_sub, b2t_, b2f_, li_0, li_1, li_2, li_26, li_4096, li_m1] at j_2_
      exact wp_some_i (hsome ((-1), s0) (by rw [e_s0]))
    · skip
      have j_3_ := nle_ti h_1_
      try simp (disch := omega) only [ti_add, ti_sub, b2t_, b2f_, li_0, li_1, li_2, li_26, li_4096, li_m1] at j_3_
      refine wp_chk_i (inb_ti (by first | omega | (simp (disch := omega) only [ti_add, ti_sub, b2t_, b2f_, li_0, li_1, li_2, li_26, li_4096, li_m1]; omega)) (by first | omega | (simp (disch := omega) only [ti_add, ti_sub, b2t_, b2f_, li_0, li_1, li_2, li_26, li_4096, li_m1]; omega))) ?_
      refine wp_if_i (fun h_4_ => ?_) (fun h_4_ => ?_)
      · skip
        have j_5_ := eq_ti h_4_
        try simp (disch := omega) only [ti_add, ti_sub, b2t_, b2f_, li_0, li_1, li_2, li_26, li_4096, li_m1] at j_5_
        exact wp_some_i (hsome (x4_3, s0) (by rw [e_s0]))
      · skip
        have j_6_ := ne_ti h_4_
        try simp (disch := omega) only [ti_add, ti_sub, b2t_, b2f_, li_0, li_1, li_2, li_26, li_4096, li_m1] at j_6_
        apply wp_bv_i
        intro v_6 e_v_6
        have ab_ := and_bd (x4_3 - a1) a1 (by omega)
        rw [← e_v_6] at ab_
        have j_7_ := eq_ti e_v_6
        try simp (disch := omega) only [ti_add, ti_sub, b2t_, b2f_, li_0, li_1, li_2, li_26, li_4096, li_m1] at j_7_
        refine wp_if_i (fun h_8_ => ?_) (fun h_8_ => ?_)
        · skip
          have j_9_ := eq_ti h_8_
          try simp (disch := omega) only [ti_add, ti_sub, b2t_, b2f_, li_0, li_1, li_2, li_26, li_4096, li_m1] at j_9_
          exact wp_some_i (hsome ((-1), s0) (by rw [e_s0]))
        · skip
          have j_10_ := ne_ti h_8_
          try simp (disch := omega) only [ti_add, ti_sub, b2t_, b2f_, li_0, li_1, li_2, li_26, li_4096, li_m1] at j_10_
          apply wp_bv_i
          intro v_7 e_v_7
          have j_11_ := eq_ti e_v_7
          try simp (disch := omega) only [ti_add, ti_sub, b2t_, b2f_, li_0, li_1, li_2, li_26, li_4096, li_m1] at j_11_
          exact hrec v_6 v_7  (by first | omega | (simp (disch := omega) only [ti_add, ti_sub, b2t_, b2f_, li_0, li_1, li_2, li_26, li_4096, li_m1]; omega)) (by first | omega | (simp (disch := omega) only [ti_add, ti_sub, b2t_, b2f_, li_0, li_1, li_2, li_26, li_4096, li_m1]; omega)) (by first | omega | (simp (disch := omega) only [ti_add, ti_sub, b2t_, b2f_, li_0, li_1, li_2, li_26, li_4096, li_m1]; omega))
set_option maxHeartbeats 1000000 in
set_option maxRecDepth 20000 in
theorem tX0_partBeside (a1 : Int32) (a2 : Int32) (s0 : Sg) (h0 : I9_ s0) (ha : 0 ≤ a1.toInt ∧ a1.toInt ≤ 4095) : wp_ (fX0_partBeside a1 a2 s0) (fun q => q.2 = s0) := by
  have g_s0 : G9_ s0 s0 := G9_.rf h0
  have hFU_ : FU = 1000000000 := rfl
  generalize hQ : (fun q : (Int32 × Sg) => q.2 = s0) = Q
  unfold fX0_partBeside
  have L0_ := li_0
  have L1_ := li_1
  have L2_ := li_2
  have L26_ := li_26
  have L4096_ := li_4096
  have M1_ := li_m1
  refine wp_chk_i (inb_ti (by first | omega | (simp (disch := omega) only [ti_add, ti_sub, b2t_, b2f_, li_0, li_1, li_2, li_26, li_4096, li_m1]; omega)) (by first | omega | (simp (disch := omega) only [ti_add, ti_sub, b2t_, b2f_, li_0, li_1, li_2, li_26, li_4096, li_m1]; omega))) ?_
  apply wp_bv_i
  intro v_2 e_v_2
  have j_1_ := eq_ti e_v_2
  try simp (disch := omega) only [ti_add, ti_sub, b2t_, b2f_, li_0, li_1, li_2, li_26, li_4096, li_m1] at j_1_
  refine wp_if_i (fun h_2_ => ?_) (fun h_2_ => ?_)
  · skip
    have j_3_ := lt_ti h_2_
    try simp (disch := omega) only [ti_add, ti_sub, b2t_, b2f_, li_0, li_1, li_2, li_26, li_4096, li_m1] at j_3_
    exact wp_some_i (by subst hQ; exact rfl)
  · skip
    have j_4_ := nlt_ti h_2_
    try simp (disch := omega) only [ti_add, ti_sub, b2t_, b2f_, li_0, li_1, li_2, li_26, li_4096, li_m1] at j_4_
    refine wp_if_i (fun h_5_ => ?_) (fun h_5_ => ?_)
    · skip
      have j_6_ := eq_ti h_5_
      try simp (disch := omega) only [ti_add, ti_sub, b2t_, b2f_, li_0, li_1, li_2, li_26, li_4096, li_m1] at j_6_
      exact lX0_partBeside_27_b s0 g_s0.1 a1 s0 v_2  (fun q hq => by subst hQ; exact hq.trans rfl) rfl (by first | omega | (simp (disch := omega) only [ti_add, ti_sub, b2t_, b2f_, li_0, li_1, li_2, li_26, li_4096, li_m1]; omega)) FU 0 0  (by first | omega | (simp (disch := omega) only [ti_add, ti_sub, b2t_, b2f_, li_0, li_1, li_2, li_26, li_4096, li_m1]; omega)) (by first | omega | (simp (disch := omega) only [ti_add, ti_sub, b2t_, b2f_, li_0, li_1, li_2, li_26, li_4096, li_m1]; omega)) (by first | omega | (simp (disch := omega) only [ti_add, ti_sub, b2t_, b2f_, li_0, li_1, li_2, li_26, li_4096, li_m1]; omega))
    · skip
      have j_7_ := ne_ti h_5_
      try simp (disch := omega) only [ti_add, ti_sub, b2t_, b2f_, li_0, li_1, li_2, li_26, li_4096, li_m1] at j_7_
      exact wp_some_i (by subst hQ; exact rfl)
set_option maxHeartbeats 1000000 in
set_option maxRecDepth 20000 in
theorem tJ6_bitCount_0f7a4 (a1 : Int32) (s0 : Sg) (h0 : I9_ s0)  : wp_ (fJ6_bitCount_0f7a4 a1 s0) (fun q => q.2 = s0 ∧ (0 ≤ q.1.toInt ∧ q.1.toInt ≤ 63)) := by
  have g_s0 : G9_ s0 s0 := G9_.rf h0
  have hFU_ : FU = 1000000000 := rfl
  generalize hQ : (fun q : (Int32 × Sg) => q.2 = s0 ∧ (0 ≤ q.1.toInt ∧ q.1.toInt ≤ 63)) = Q
  unfold fJ6_bitCount_0f7a4
  have L0_ := li_0
  have L1_ := li_1
  have L2_ := li_2
  have L4_ := li_4
  have L8_ := li_8
  have L16_ := li_16
  have L31_ := li_31
  have L63_ := li_63
  have L252645135_ := li_252645135
  have L858993459_ := li_858993459
  have L1431655765_ := li_1431655765
  have M1_ := li_m1
  apply wp_bv_i
  intro v_1 e_v_1
  have j_1_ := eq_ti e_v_1
  try simp (disch := omega) only [ti_add, ti_sub, b2t_, b2f_, li_0, li_1, li_2, li_4, li_8, li_16, li_31, li_63, li_252645135, li_858993459, li_1431655765, li_m1] at j_1_
  apply wp_bv_i
  intro v_2 e_v_2
  have j_2_ := eq_ti e_v_2
  try simp (disch := omega) only [ti_add, ti_sub, b2t_, b2f_, li_0, li_1, li_2, li_4, li_8, li_16, li_31, li_63, li_252645135, li_858993459, li_1431655765, li_m1] at j_2_
  apply wp_bv_i
  intro v_3 e_v_3
  have j_3_ := eq_ti e_v_3
  try simp (disch := omega) only [ti_add, ti_sub, b2t_, b2f_, li_0, li_1, li_2, li_4, li_8, li_16, li_31, li_63, li_252645135, li_858993459, li_1431655765, li_m1] at j_3_
  apply wp_bv_i
  intro v_4 e_v_4
  have j_4_ := eq_ti e_v_4
  try simp (disch := omega) only [ti_add, ti_sub, b2t_, b2f_, li_0, li_1, li_2, li_4, li_8, li_16, li_31, li_63, li_252645135, li_858993459, li_1431655765, li_m1] at j_4_
  apply wp_bv_i
  intro v_5 e_v_5
  have j_5_ := eq_ti e_v_5
  try simp (disch := omega) only [ti_add, ti_sub, b2t_, b2f_, li_0, li_1, li_2, li_4, li_8, li_16, li_31, li_63, li_252645135, li_858993459, li_1431655765, li_m1] at j_5_
  exact wp_some_i (by subst hQ; exact ⟨rfl, (and_bd v_5 63 (by decide +kernel))⟩)
set_option maxHeartbeats 1000000 in
set_option maxRecDepth 20000 in
theorem lX0_find_11_b {Q : (Bool × Sg) → Prop} (S_ : Sg) (hI_ : I9_ S_) (a2 : Int32) (k_4 : Int32 → Sg → Option (Bool × Sg)) (hk_4 : ∀ (z0_ : Int32) (z1_ : Sg), G9_ S_ z1_ → wp_ (k_4 z0_ z1_) Q)  : ∀ (n : Nat) (x3_5 : Int32) (x4_6 : Int32) (s_7 : Sg), G9_ S_ s_7 → 1 ≤ x4_6.toInt → (4097 - x4_6.toInt).toNat < n → wp_ (lo3 (fX0_find_11_b a2 k_4) n x3_5 x4_6 s_7) Q := by
  intro n
  induction n with
  | zero =>
    intro x3_5 x4_6 s_7 _ _ hm_
    exact absurd hm_ (Nat.not_lt_zero _)
  | succ n ih =>
    intro x3_5 x4_6 s_7 g_s_7 i0_ hm_
    show wp_ (fX0_find_11_b a2 k_4 (lo3 (fX0_find_11_b a2 k_4) n) x3_5 x4_6 s_7) Q
    have hrec := ih
    generalize lo3 (fX0_find_11_b a2 k_4) n = rc at hrec ⊢
    clear ih
    have hFU_ : FU = 1000000000 := rfl
    unfold fX0_find_11_b
    have L0_ := li_0
    have L1_ := li_1
    have L2_ := li_2
    have L6_ := li_6
    have L8_ := li_8
    have L31_ := li_31
    have M1_ := li_m1
    refine wp_if_i (fun h_1_ => ?_) (fun h_1_ => ?_)
    · skip
      have b_2_ : 0 ≤ (gi s_7 1 6).toInt ∧ (gi s_7 1 6).toInt ≤ 12 := g_s_7.1.1 1 6
      have sh_3_ := shl_le (gi s_7 1 6) 12 (by first | omega | (simp (disch := omega) only [ti_add, ti_sub, b2t_, b2f_, li_0, li_1, li_2, li_6, li_8, li_31, li_m1]; omega)) (by first | omega | (simp (disch := omega) only [ti_add, ti_sub, b2t_, b2f_, li_0, li_1, li_2, li_6, li_8, li_31, li_m1]; omega)) (by decide)
      try simp only [Nat.reducePow, Nat.cast_ofNat, Int.reducePow] at sh_3_
      have j_4_ := le_ti h_1_
      try simp (disch := omega) only [ti_add, ti_sub, b2t_, b2f_, li_0, li_1, li_2, li_6, li_8, li_31, li_m1] at j_4_
      exact hk_4 x3_5 s_7 g_s_7 
    · skip
      have b_5_ : 0 ≤ (gi s_7 1 6).toInt ∧ (gi s_7 1 6).toInt ≤ 12 := g_s_7.1.1 1 6
      have sh_6_ := shl_le (gi s_7 1 6) 12 (by first | omega | (simp (disch := omega) only [ti_add, ti_sub, b2t_, b2f_, li_0, li_1, li_2, li_6, li_8, li_31, li_m1]; omega)) (by first | omega | (simp (disch := omega) only [ti_add, ti_sub, b2t_, b2f_, li_0, li_1, li_2, li_6, li_8, li_31, li_m1]; omega)) (by decide)
      try simp only [Nat.reducePow, Nat.cast_ofNat, Int.reducePow] at sh_6_
      have j_7_ := nle_ti h_1_
      try simp (disch := omega) only [ti_add, ti_sub, b2t_, b2f_, li_0, li_1, li_2, li_6, li_8, li_31, li_m1] at j_7_
      refine wp_bnd_i (tJ6_bitCount_0f7a4 x4_6 s_7 g_s_7.1 ) (fun r_8 s_9 p_s_9 => ?_)
      have e_s_9 : s_9 = s_7 := p_s_9.1
      have g_s_9 : G9_ S_ s_9 := by rw [e_s_9]; exact g_s_7
      have f_s_9 := p_s_9.2
      try dsimp only at f_s_9
      try simp (disch := omega) only [ti_add, ti_sub, b2t_, b2f_, li_0, li_1, li_2, li_6, li_8, li_31, li_m1] at f_s_9
      refine wp_jn (fun k_12 => ∀ (y_10 : Int32) (s_11 : Sg), G9_ S_ s_11 → wp_ (k_12 y_10 s_11) Q) ?_ (fun k_12 hk_12 => ?_)
      · intro y_10 s_11 g_s_11
        try dsimp only
        refine wp_jn (fun k_15 => ∀ (x3_13 : Int32) (s_14 : Sg), G9_ S_ s_14 → wp_ (k_15 x3_13 s_14) Q) ?_ (fun k_15 hk_15 => ?_)
        · intro x3_13 s_14 g_s_14
          try dsimp only
          apply wp_bv_i
          intro v_16 e_v_16
          have j_8_ := eq_ti e_v_16
          try simp (disch := omega) only [ti_add, ti_sub, b2t_, b2f_, li_0, li_1, li_2, li_6, li_8, li_31, li_m1] at j_8_
          exact hrec x3_13 v_16 s_14 g_s_14 (by first | omega | (simp (disch := omega) only [ti_add, ti_sub, b2t_, b2f_, li_0, li_1, li_2, li_6, li_8, li_31, li_m1]; omega)) (by first | omega | (simp (disch := omega) only [ti_add, ti_sub, b2t_, b2f_, li_0, li_1, li_2, li_6, li_8, li_31, li_m1]; omega))
        refine wp_if_i (fun h_9_ => ?_) (fun h_9_ => ?_)
        · skip
          have j_10_ := eq_ti h_9_
          try simp (disch := omega) only [ti_add, ti_sub, b2t_, b2f_, li_0, li_1, li_2, li_6, li_8, li_31, li_m1] at j_10_
          exact hk_15 x3_5 s_11 g_s_11 
        · skip
          have j_11_ := ne_ti h_9_
          try simp (disch := omega) only [ti_add, ti_sub, b2t_, b2f_, li_0, li_1, li_2, li_6, li_8, li_31, li_m1] at j_11_
          apply wp_bv_i
          intro s_17 e_s_17
          have g_s_17 : G9_ S_ s_17 := by rw [e_s_17]; exact G9_.si g_s_11 (by first | decide | omega) trivial
          apply wp_bv_i
          intro s_18 e_s_18
          have g_s_18 : G9_ S_ s_18 := by rw [e_s_18]; exact G9_.si g_s_17 (by first | decide | omega) trivial
          exact hk_15 r_8 s_18 g_s_18 
      refine wp_if_i (fun h_12_ => ?_) (fun h_12_ => ?_)
      · skip
        have j_13_ := le_ti h_12_
        try simp (disch := omega) only [ti_add, ti_sub, b2t_, b2f_, li_0, li_1, li_2, li_6, li_8, li_31, li_m1] at j_13_
        exact hk_12 (-1) s_9 g_s_9 
      · skip
        have j_14_ := nle_ti h_12_
        try simp (disch := omega) only [ti_add, ti_sub, b2t_, b2f_, li_0, li_1, li_2, li_6, li_8, li_31, li_m1] at j_14_
        refine wp_bnd_i (tX0_partBeside x4_6 a2 s_9 g_s_9.1 (by first | omega | (simp (disch := omega) only [ti_add, ti_sub, b2t_, b2f_, li_0, li_1, li_2, li_6, li_8, li_31, li_m1]; omega))) (fun r_19 s_20 p_s_20 => ?_)
        have e_s_20 : s_20 = s_9 := p_s_20
        have g_s_20 : G9_ S_ s_20 := by rw [e_s_20]; exact g_s_9
        exact hk_12 r_19 s_20 g_s_20 
set_option maxHeartbeats 1000000 in
set_option maxRecDepth 20000 in
theorem tX0_find (a2 : Int32) (s0 : Sg) (h0 : I9_ s0)  : wp_ (fX0_find a2 s0) (fun q => G9_ s0 q.2) := by
  have g_s0 : G9_ s0 s0 := G9_.rf h0
  have hFU_ : FU = 1000000000 := rfl
  generalize hQ : (fun q : (Bool × Sg) => G9_ s0 q.2) = Q
  unfold fX0_find
  have L0_ := li_0
  have L1_ := li_1
  have L12_ := li_12
  have L13_ := li_13
  have M1_ := li_m1
  refine wp_bnv_i (tX0_addSums s0 g_s0.1 ) (fun s_1 p_s_1 => ?_)
  have g_s_1 := g_s0.tr p_s_1
  refine wp_jn (fun k_4 => ∀ (x3_2 : Int32) (s_3 : Sg), G9_ s0 s_3 → wp_ (k_4 x3_2 s_3) Q) ?_ (fun k_4 hk_4 => ?_)
  · intro x3_2 s_3 g_s_3
    try dsimp only
    refine wp_if_i (fun h_1_ => ?_) (fun h_1_ => ?_)
    · skip
      have j_2_ := lt_ti h_1_
      try simp (disch := omega) only [ti_add, ti_sub, b2t_, b2f_, li_0, li_1, li_12, li_13, li_m1] at j_2_
      exact wp_some_i (by subst hQ; exact g_s_3)
    · skip
      have j_3_ := nlt_ti h_1_
      try simp (disch := omega) only [ti_add, ti_sub, b2t_, b2f_, li_0, li_1, li_12, li_13, li_m1] at j_3_
      exact wp_some_i (by subst hQ; exact g_s_3)
  exact lX0_find_11_b s0 h0 a2 k_4 hk_4  FU 13 1 s_1 g_s_1 (by first | omega | (simp (disch := omega) only [ti_add, ti_sub, b2t_, b2f_, li_0, li_1, li_12, li_13, li_m1]; omega)) (by first | omega | (simp (disch := omega) only [ti_add, ti_sub, b2t_, b2f_, li_0, li_1, li_12, li_13, li_m1]; omega))
set_option maxHeartbeats 1000000 in
set_option maxRecDepth 20000 in
theorem tX9_balanced (a1 : Int32) (a2 : Int32) (s0 : Sg) (h0 : I9_ s0)  : wp_ (fX9_balanced a1 a2 s0) (fun q => G9_ s0 q.2) := by
  have g_s0 : G9_ s0 s0 := G9_.rf h0
  have hFU_ : FU = 1000000000 := rfl
  generalize hQ : (fun q : (Int32 × Sg) => G9_ s0 q.2) = Q
  unfold fX9_balanced
  have L0_ := li_0
  have L1_ := li_1
  have L2_ := li_2
  have L8_ := li_8
  have L999_ := li_999
  have M1_ := li_m1
  refine wp_bnd_i (tX9_within a1 1 999 s0 g_s0.1 ) (fun r_1 s_2 p_s_2 => ?_)
  have e_s_2 : s_2 = s0 := p_s_2.1
  have g_s_2 : G9_ s0 s_2 := by rw [e_s_2]; exact g_s0
  have f_s_2 := p_s_2.2
  try dsimp only at f_s_2
  try simp (disch := omega) only [ti_add, ti_sub, b2t_, b2f_, li_0, li_1, li_2, li_8, li_999, li_m1] at f_s_2
  refine wp_if_i (fun h_1_ => ?_) (fun h_1_ => ?_)
  · skip
    have b_2_ := b2i_bd r_1
    have j_3_ := eq_ti h_1_
    try simp (disch := omega) only [ti_add, ti_sub, b2t_, b2f_, li_0, li_1, li_2, li_8, li_999, li_m1] at j_3_
    exact wp_some_i (by subst hQ; exact g_s_2)
  · skip
    have b_4_ := b2i_bd r_1
    have j_5_ := ne_ti h_1_
    try simp (disch := omega) only [ti_add, ti_sub, b2t_, b2f_, li_0, li_1, li_2, li_8, li_999, li_m1] at j_5_
    refine wp_bnd_i (tX9_within a2 0 2 s_2 g_s_2.1 ) (fun r_3 s_4 p_s_4 => ?_)
    have e_s_4 : s_4 = s_2 := p_s_4.1
    have g_s_4 : G9_ s0 s_4 := by rw [e_s_4]; exact g_s_2
    have f_s_4 := p_s_4.2
    try dsimp only at f_s_4
    try simp (disch := omega) only [ti_add, ti_sub, b2t_, b2f_, li_0, li_1, li_2, li_8, li_999, li_m1] at f_s_4
    refine wp_if_i (fun h_6_ => ?_) (fun h_6_ => ?_)
    · skip
      have b_7_ := b2i_bd r_3
      have j_8_ := eq_ti h_6_
      try simp (disch := omega) only [ti_add, ti_sub, b2t_, b2f_, li_0, li_1, li_2, li_8, li_999, li_m1] at j_8_
      exact wp_some_i (by subst hQ; exact g_s_4)
    · skip
      have b_9_ := b2i_bd r_3
      have j_10_ := ne_ti h_6_
      try simp (disch := omega) only [ti_add, ti_sub, b2t_, b2f_, li_0, li_1, li_2, li_8, li_999, li_m1] at j_10_
      refine wp_bnd_i (tX0_find a1 s_4 g_s_4.1 ) (fun r_5 s_6 p_s_6 => ?_)
      have g_s_6 := g_s_4.tr p_s_6
      refine wp_if_i (fun h_11_ => ?_) (fun h_11_ => ?_)
      · skip
        have b_12_ := b2i_bd r_5
        have j_13_ := eq_ti h_11_
        try simp (disch := omega) only [ti_add, ti_sub, b2t_, b2f_, li_0, li_1, li_2, li_8, li_999, li_m1] at j_13_
        exact wp_some_i (by subst hQ; exact g_s_6)
      · skip
        have b_14_ := b2i_bd r_5
        have j_15_ := ne_ti h_11_
        try simp (disch := omega) only [ti_add, ti_sub, b2t_, b2f_, li_0, li_1, li_2, li_8, li_999, li_m1] at j_15_
        refine wp_if_i (fun h_16_ => ?_) (fun h_16_ => ?_)
        · skip
          have j_17_ := eq_ti h_16_
          try simp (disch := omega) only [ti_add, ti_sub, b2t_, b2f_, li_0, li_1, li_2, li_8, li_999, li_m1] at j_17_
          refine wp_bnd_i (tJ6_bitCount_0f7a4 (gi s_6 8 1) s_6 g_s_6.1 ) (fun r_7 s_8 p_s_8 => ?_)
          have e_s_8 : s_8 = s_6 := p_s_8.1
          have g_s_8 : G9_ s0 s_8 := by rw [e_s_8]; exact g_s_6
          have f_s_8 := p_s_8.2
          try dsimp only at f_s_8
          try simp (disch := omega) only [ti_add, ti_sub, b2t_, b2f_, li_0, li_1, li_2, li_8, li_999, li_m1] at f_s_8
          exact wp_some_i (by subst hQ; exact g_s_8)
        · skip
          have j_18_ := ne_ti h_16_
          try simp (disch := omega) only [ti_add, ti_sub, b2t_, b2f_, li_0, li_1, li_2, li_8, li_999, li_m1] at j_18_
          refine wp_if_i (fun h_19_ => ?_) (fun h_19_ => ?_)
          · skip
            have j_20_ := eq_ti h_19_
            try simp (disch := omega) only [ti_add, ti_sub, b2t_, b2f_, li_0, li_1, li_2, li_8, li_999, li_m1] at j_20_
            exact wp_some_i (by subst hQ; exact g_s_6)
          · skip
            have j_21_ := ne_ti h_19_
            try simp (disch := omega) only [ti_add, ti_sub, b2t_, b2f_, li_0, li_1, li_2, li_8, li_999, li_m1] at j_21_
            exact wp_some_i (by subst hQ; exact g_s_6)
