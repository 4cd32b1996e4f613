set_option maxHeartbeats 1000000 in
set_option maxRecDepth 20000 in
theorem tX4_borneOf (a2 : Int32) (a3 : Int32) (s0 : Sg) (h0 : I9_ s0) (ha : 0 ≤ a2.toInt ∧ a2.toInt ≤ 11) : wp_ (fX4_borneOf a2 a3 s0) (fun q => A9_ s0 q.2) := by
  have g_s0 : A9_ s0 s0 := A9_.rf h0
  have hFU_ : FU = 1000000000 := rfl
  generalize hQ : (fun q : (Int32 × Sg) => A9_ s0 q.2) = Q
  unfold fX4_borneOf
  have L0_ := li_0
  have L1_ := li_1
  have L9_ := li_9
  have L10_ := li_10
  have L12_ := li_12
  have L13_ := li_13
  have M1_ := li_m1
  refine wp_chk_i (inb_ti (by first | omega | (simp (disch := omega) only [ti_add, ti_sub, b2t_, b2f_, li_0, li_1, li_9, li_10, li_12, li_13, li_m1]; omega)) (by first | omega | (simp (disch := omega) only [ti_add, ti_sub, b2t_, b2f_, li_0, li_1, li_9, li_10, li_12, li_13, li_m1]; omega))) ?_
  refine wp_bnd_i (tX4_borne (gr s0 1 13) a2 (gi s0 9 (ix a2)) (gi s0 10 (ix a2)) a3 s0 g_s0.1 g_s0.1.2.1) (fun r_2 s_3 p_s_3 => ?_)
  have g_s_3 := g_s0.tr p_s_3
  have a_s_3 := p_s_3
  exact wp_some_i (by subst hQ; exact g_s_3)
set_option maxHeartbeats 1000000 in
set_option maxRecDepth 20000 in
theorem tX9_weighWhatLies (s0 : Sg) (h0 : I9_ s0)  : wp_ (fX9_weighWhatLies s0) (fun q => A9_ s0 q) := by
  have g_s0 : A9_ s0 s0 := A9_.rf h0
  have hFU_ : FU = 1000000000 := rfl
  generalize hQ : (fun q : (Sg) => A9_ s0 q) = Q
  unfold fX9_weighWhatLies
  have L0_ := li_0
  have L1_ := li_1
  have L3_ := li_3
  have L4_ := li_4
  have L5_ := li_5
  have L9_ := li_9
  have L10_ := li_10
  have M1_ := li_m1
  refine wp_bnv_i (tX4_setAir (gi s0 1 3) (gi s0 1 4) (gi s0 1 5) s0 g_s0.1 ) (fun s_1 p_s_1 => ?_)
  have g_s_1 := g_s0.tr p_s_1
  have a_s_1 := p_s_1
  refine wp_bnv_i (tX4_weigh (gi s_1 1 9) (gi s_1 1 10) s_1 g_s_1.1 ) (fun s_2 p_s_2 => ?_)
  have g_s_2 := g_s_1.tr p_s_2
  have a_s_2 := p_s_2
  exact wp_some_i (by subst hQ; exact g_s_2)
set_option maxHeartbeats 1000000 in
set_option maxRecDepth 20000 in
theorem tX9_now (a1 : Int32) (s0 : Sg) (h0 : I9_ s0)  : wp_ (fX9_now a1 s0) (fun q => G9_ s0 q.2) := by
  have g_s0 : G9_ s0 s0 := G9_.rf h0
  have hFU_ : FU = 1000000000 := rfl
  generalize hQ : (fun q : (Int32 × Sg) => G9_ s0 q.2) = Q
  unfold fX9_now
  have L0_ := li_0
  have L1_ := li_1
  have L2_ := li_2
  have L3_ := li_3
  have L4_ := li_4
  have L6_ := li_6
  have L13_ := li_13
  have L100000000_ := li_100000000
  have M1_ := li_m1
  have M100000000_ := li_m100000000
  refine wp_bnv_i (tX9_weighWhatLies s0 g_s0.1 ) (fun s_1 p_s_1 => ?_)
  have a_s_1 := p_s_1
  have g_s_1 := g_s0.tr a_s_1.g
  refine wp_if_i (fun h_1_ => ?_) (fun h_1_ => ?_)
  · skip
    have j_2_ := eq_ti h_1_
    try simp (disch := omega) only [ti_add, ti_sub, b2t_, b2f_, li_0, li_1, li_2, li_3, li_4, li_6, li_13, li_100000000, li_m1, li_m100000000] at j_2_
    exact wp_some_i (by subst hQ; exact g_s_1)
  · skip
    have j_3_ := ne_ti h_1_
    try simp (disch := omega) only [ti_add, ti_sub, b2t_, b2f_, li_0, li_1, li_2, li_3, li_4, li_6, li_13, li_100000000, li_m1, li_m100000000] at j_3_
    refine wp_if_i (fun h_4_ => ?_) (fun h_4_ => ?_)
    · skip
      have j_5_ := eq_ti h_4_
      try simp (disch := omega) only [ti_add, ti_sub, b2t_, b2f_, li_0, li_1, li_2, li_3, li_4, li_6, li_13, li_100000000, li_m1, li_m100000000] at j_5_
      exact wp_some_i (by subst hQ; exact g_s_1)
    · skip
      have j_6_ := ne_ti h_4_
      try simp (disch := omega) only [ti_add, ti_sub, b2t_, b2f_, li_0, li_1, li_2, li_3, li_4, li_6, li_13, li_100000000, li_m1, li_m100000000] at j_6_
      refine wp_if_i (fun h_7_ => ?_) (fun h_7_ => ?_)
      · skip
        have j_8_ := eq_ti h_7_
        try simp (disch := omega) only [ti_add, ti_sub, b2t_, b2f_, li_0, li_1, li_2, li_3, li_4, li_6, li_13, li_100000000, li_m1, li_m100000000] at j_8_
        exact wp_some_i (by subst hQ; exact g_s_1)
      · skip
        have j_9_ := ne_ti h_7_
        try simp (disch := omega) only [ti_add, ti_sub, b2t_, b2f_, li_0, li_1, li_2, li_3, li_4, li_6, li_13, li_100000000, li_m1, li_m100000000] at j_9_
        refine wp_if_i (fun h_10_ => ?_) (fun h_10_ => ?_)
        · skip
          have j_11_ := eq_ti h_10_
          try simp (disch := omega) only [ti_add, ti_sub, b2t_, b2f_, li_0, li_1, li_2, li_3, li_4, li_6, li_13, li_100000000, li_m1, li_m100000000] at j_11_
          refine wp_bnd_i (tX9_leaning (gi s_1 6 4) (gi s_1 1 2) s_1 g_s_1.1 ) (fun r_5 s_6 p_s_6 => ?_)
          have e_s_6 : s_6 = s_1 := p_s_6
          have g_s_6 : G9_ s0 s_6 := by rw [e_s_6]; exact g_s_1
          exact wp_some_i (by subst hQ; exact g_s_6)
        · skip
          have j_12_ := ne_ti h_10_
          try simp (disch := omega) only [ti_add, ti_sub, b2t_, b2f_, li_0, li_1, li_2, li_3, li_4, li_6, li_13, li_100000000, li_m1, li_m100000000] at j_12_
          refine wp_if_i (fun h_13_ => ?_) (fun h_13_ => ?_)
          · skip
            have j_14_ := eq_ti h_13_
            try simp (disch := omega) only [ti_add, ti_sub, b2t_, b2f_, li_0, li_1, li_2, li_3, li_4, li_6, li_13, li_100000000, li_m1, li_m100000000] at j_14_
            refine wp_bnd_i (tX4_isSafe (gr s_1 1 13) s_1 g_s_1.1 g_s_1.1.2.1) (fun r_8 s_9 p_s_9 => ?_)
            have a_s_9 := p_s_9
            have g_s_9 := g_s_1.tr a_s_9.g
            refine wp_if_i (fun h_15_ => ?_) (fun h_15_ => ?_)
            · skip
              have b_16_ := b2i_bd r_8
              have j_17_ := eq_ti h_15_
              try simp (disch := omega) only [ti_add, ti_sub, b2t_, b2f_, li_0, li_1, li_2, li_3, li_4, li_6, li_13, li_100000000, li_m1, li_m100000000] at j_17_
              exact wp_some_i (by subst hQ; exact g_s_9)
            · skip
              have b_18_ := b2i_bd r_8
              have j_19_ := ne_ti h_15_
              try simp (disch := omega) only [ti_add, ti_sub, b2t_, b2f_, li_0, li_1, li_2, li_3, li_4, li_6, li_13, li_100000000, li_m1, li_m100000000] at j_19_
              exact wp_some_i (by subst hQ; exact g_s_9)
          · skip
            have j_20_ := ne_ti h_13_
            try simp (disch := omega) only [ti_add, ti_sub, b2t_, b2f_, li_0, li_1, li_2, li_3, li_4, li_6, li_13, li_100000000, li_m1, li_m100000000] at j_20_
            exact wp_some_i (by subst hQ; exact g_s_1)
set_option maxHeartbeats 1000000 in
set_option maxRecDepth 20000 in
theorem tX9_of (a1 : Int32) (a2 : Int32) (s0 : Sg) (h0 : I9_ s0)  : wp_ (fX9_of a1 a2 s0) (fun q => G9_ s0 q.2) := by
  have g_s0 : G9_ s0 s0 := G9_.rf h0
  have hFU_ : FU = 1000000000 := rfl
  generalize hQ : (fun q : (Int32 × Sg) => G9_ s0 q.2) = Q
  unfold fX9_of
  have L0_ := li_0
  have L1_ := li_1
  have L2_ := li_2
  have L3_ := li_3
  have L4_ := li_4
  have L5_ := li_5
  have L6_ := li_6
  have L9_ := li_9
  have L10_ := li_10
  have L12_ := li_12
  have M1_ := li_m1
  have M2_ := li_m2
  have b_1_ : 0 ≤ (gi s0 1 6).toInt ∧ (gi s0 1 6).toInt ≤ 12 := g_s0.1.1 1 6
  refine wp_bnd_i (tX9_within a1 0 ((gi s0 1 6) - 1) s0 g_s0.1 ) (fun r_1 s_2 p_s_2 => ?_)
  have e_s_2 : s_2 = s0 := p_s_2.1
  have g_s_2 : G9_ s0 s_2 := by rw [e_s_2]; exact g_s0
  have f_s_2 := p_s_2.2
  try dsimp only at f_s_2
  try simp (disch := omega) only [ti_add, ti_sub, b2t_, b2f_, li_0, li_1, li_2, li_3, li_4, li_5, li_6, li_9, li_10, li_12, li_m1, li_m2] at f_s_2
  refine wp_if_i (fun h_2_ => ?_) (fun h_2_ => ?_)
  · skip
    have b_3_ := b2i_bd r_1
    have j_4_ := eq_ti h_2_
    try simp (disch := omega) only [ti_add, ti_sub, b2t_, b2f_, li_0, li_1, li_2, li_3, li_4, li_5, li_6, li_9, li_10, li_12, li_m1, li_m2] at j_4_
    exact wp_some_i (by subst hQ; exact g_s_2)
  · skip
    have b_5_ := b2i_bd r_1
    have j_6_ := ne_ti h_2_
    try simp (disch := omega) only [ti_add, ti_sub, b2t_, b2f_, li_0, li_1, li_2, li_3, li_4, li_5, li_6, li_9, li_10, li_12, li_m1, li_m2] at j_6_
    refine wp_bnv_i (tX4_setAir (gi s_2 1 3) (gi s_2 1 4) (gi s_2 1 5) s_2 g_s_2.1 ) (fun s_3 p_s_3 => ?_)
    have a_s_3 := p_s_3
    have g_s_3 := g_s_2.tr a_s_3.g
    refine wp_if_i (fun h_7_ => ?_) (fun h_7_ => ?_)
    · skip
      have j_8_ := eq_ti h_7_
      try simp (disch := omega) only [ti_add, ti_sub, b2t_, b2f_, li_0, li_1, li_2, li_3, li_4, li_5, li_6, li_9, li_10, li_12, li_m1, li_m2] at j_8_
      refine wp_chk_i (inb_ti (by first | omega | (simp (disch := omega) only [ti_add, ti_sub, b2t_, b2f_, li_0, li_1, li_2, li_3, li_4, li_5, li_6, li_9, li_10, li_12, li_m1, li_m2]; omega)) (by first | omega | (simp (disch := omega) only [ti_add, ti_sub, b2t_, b2f_, li_0, li_1, li_2, li_3, li_4, li_5, li_6, li_9, li_10, li_12, li_m1, li_m2]; omega))) ?_
      exact wp_some_i (by subst hQ; exact g_s_3)
    · skip
      have j_9_ := ne_ti h_7_
      try simp (disch := omega) only [ti_add, ti_sub, b2t_, b2f_, li_0, li_1, li_2, li_3, li_4, li_5, li_6, li_9, li_10, li_12, li_m1, li_m2] at j_9_
      refine wp_if_i (fun h_10_ => ?_) (fun h_10_ => ?_)
      · skip
        have j_11_ := eq_ti h_10_
        try simp (disch := omega) only [ti_add, ti_sub, b2t_, b2f_, li_0, li_1, li_2, li_3, li_4, li_5, li_6, li_9, li_10, li_12, li_m1, li_m2] at j_11_
        refine wp_chk_i (inb_ti (by first | omega | (simp (disch := omega) only [ti_add, ti_sub, b2t_, b2f_, li_0, li_1, li_2, li_3, li_4, li_5, li_6, li_9, li_10, li_12, li_m1, li_m2]; omega)) (by first | omega | (simp (disch := omega) only [ti_add, ti_sub, b2t_, b2f_, li_0, li_1, li_2, li_3, li_4, li_5, li_6, li_9, li_10, li_12, li_m1, li_m2]; omega))) ?_
        exact wp_some_i (by subst hQ; exact g_s_3)
      · skip
        have j_12_ := ne_ti h_10_
        try simp (disch := omega) only [ti_add, ti_sub, b2t_, b2f_, li_0, li_1, li_2, li_3, li_4, li_5, li_6, li_9, li_10, li_12, li_m1, li_m2] at j_12_
        refine wp_if_i (fun h_13_ => ?_) (fun h_13_ => ?_)
        · skip
          have j_14_ := eq_ti h_13_
          try simp (disch := omega) only [ti_add, ti_sub, b2t_, b2f_, li_0, li_1, li_2, li_3, li_4, li_5, li_6, li_9, li_10, li_12, li_m1, li_m2] at j_14_
          refine wp_bnd_i (tX6_panOf a1 s_3 g_s_3.1 ) (fun r_8 s_9 p_s_9 => ?_)
          have e_s_9 : s_9 = s_3 := p_s_9
          have g_s_9 : G9_ s0 s_9 := by rw [e_s_9]; exact g_s_3
          exact wp_some_i (by subst hQ; exact g_s_9)
        · skip
          have j_15_ := ne_ti h_13_
          try simp (disch := omega) only [ti_add, ti_sub, b2t_, b2f_, li_0, li_1, li_2, li_3, li_4, li_5, li_6, li_9, li_10, li_12, li_m1, li_m2] at j_15_
          refine wp_if_i (fun h_16_ => ?_) (fun h_16_ => ?_)
          · skip
            have j_17_ := eq_ti h_16_
            try simp (disch := omega) only [ti_add, ti_sub, b2t_, b2f_, li_0, li_1, li_2, li_3, li_4, li_5, li_6, li_9, li_10, li_12, li_m1, li_m2] at j_17_
            refine wp_bnd_i (tX4_borneOf a1 0 s_3 g_s_3.1 (by first | omega | (simp (disch := omega) only [ti_add, ti_sub, b2t_, b2f_, li_0, li_1, li_2, li_3, li_4, li_5, li_6, li_9, li_10, li_12, li_m1, li_m2]; omega))) (fun r_11 s_12 p_s_12 => ?_)
            have a_s_12 := p_s_12
            have g_s_12 := g_s_3.tr a_s_12.g
            exact wp_some_i (by subst hQ; exact g_s_12)
          · skip
            have j_18_ := ne_ti h_16_
            try simp (disch := omega) only [ti_add, ti_sub, b2t_, b2f_, li_0, li_1, li_2, li_3, li_4, li_5, li_6, li_9, li_10, li_12, li_m1, li_m2] at j_18_
            refine wp_if_i (fun h_19_ => ?_) (fun h_19_ => ?_)
            · skip
              have j_20_ := eq_ti h_19_
              try simp (disch := omega) only [ti_add, ti_sub, b2t_, b2f_, li_0, li_1, li_2, li_3, li_4, li_5, li_6, li_9, li_10, li_12, li_m1, li_m2] at j_20_
              refine wp_bnd_i (tX4_borneOf a1 1 s_3 g_s_3.1 (by first | omega | (simp (disch := omega) only [ti_add, ti_sub, b2t_, b2f_, li_0, li_1, li_2, li_3, li_4, li_5, li_6, li_9, li_10, li_12, li_m1, li_m2]; omega))) (fun r_14 s_15 p_s_15 => ?_)
              have a_s_15 := p_s_15
              have g_s_15 := g_s_3.tr a_s_15.g
              exact wp_some_i (by subst hQ; exact g_s_15)
            · skip
              have j_21_ := ne_ti h_19_
              try simp (disch := omega) only [ti_add, ti_sub, b2t_, b2f_, li_0, li_1, li_2, li_3, li_4, li_5, li_6, li_9, li_10, li_12, li_m1, li_m2] at j_21_
              exact wp_some_i (by subst hQ; exact g_s_3)
set_option maxHeartbeats 1000000 in
set_option maxRecDepth 20000 in
theorem tX6_keepStep (s0 : Sg) (h0 : I9_ s0)  : wp_ (fX6_keepStep s0) (fun q => G9_ s0 q) := by
  have g_s0 : G9_ s0 s0 := G9_.rf h0
  have hFU_ : FU = 1000000000 := rfl
  generalize hQ : (fun q : (Sg) => G9_ s0 q) = Q
  unfold fX6_keepStep
  have L0_ := li_0
  have L1_ := li_1
  have L3_ := li_3
  have L9_ := li_9
  have L10_ := li_10
  have L11_ := li_11
  have L12_ := li_12
  have L15_ := li_15
  have L24_ := li_24
  have L31_ := li_31
  have L39_ := li_39
  have L40_ := li_40
  have M1_ := li_m1
  refine wp_jn (fun k_2 => ∀ (s_1 : Sg), G9_ s0 s_1 → (gi s_1 1 15).toInt ≤ 39 → wp_ (k_2 s_1) Q) ?_ (fun k_2 hk_2 => ?_)
  · intro s_1 g_s_1 u_0_k_2
    try dsimp only
    have b_1_ : 0 ≤ (gi s_1 1 15).toInt ∧ (gi s_1 1 15).toInt ≤ 40 := g_s_1.1.1 1 15
    refine wp_chk_i (inb_ti (by first | omega | (simp (disch := omega) only [ti_add, ti_sub, b2t_, b2f_, li_0, li_1, li_3, li_9, li_10, li_11, li_12, li_15, li_24, li_31, li_39, li_40, li_m1]; omega)) (by first | omega | (simp (disch := omega) only [ti_add, ti_sub, b2t_, b2f_, li_0, li_1, li_3, li_9, li_10, li_11, li_12, li_15, li_24, li_31, li_39, li_40, li_m1]; omega))) ?_
    apply wp_bv_i
    intro s_4 e_s_4
    have g_s_4 : G9_ s0 s_4 := by rw [e_s_4]; exact G9_.si g_s_1 (by first | decide | omega) trivial
    have r_2_ : (gi s_4 1 15).toInt = (gi s_1 1 15).toInt := by rw [e_s_4]; rw [gsi_k (by first | decide | omega)]
    have b_3_ : 0 ≤ (gi s_4 1 15).toInt ∧ (gi s_4 1 15).toInt ≤ 40 := g_s_4.1.1 1 15
    apply wp_bv_i
    intro s_5 e_s_5
    have g_s_5 : G9_ s0 s_5 := by rw [e_s_5]; exact G9_.si g_s_4 (by first | decide | omega) (show 0 ≤ ((((gi s_4 1 15) + 1) : Int32)).toInt ∧ ((((gi s_4 1 15) + 1) : Int32)).toInt ≤ 40 from ⟨by first | omega | (simp (disch := omega) only [ti_add, ti_sub, b2t_, b2f_, li_0, li_1, li_3, li_9, li_10, li_11, li_12, li_15, li_24, li_31, li_39, li_40, li_m1]; omega), by first | omega | (simp (disch := omega) only [ti_add, ti_sub, b2t_, b2f_, li_0, li_1, li_3, li_9, li_10, li_11, li_12, li_15, li_24, li_31, li_39, li_40, li_m1]; omega)⟩)
    exact wp_some_i (by subst hQ; exact g_s_5)
  refine wp_if_i (fun h_4_ => ?_) (fun h_4_ => ?_)
  · skip
    have b_5_ : 0 ≤ (gi s0 1 15).toInt ∧ (gi s0 1 15).toInt ≤ 40 := g_s0.1.1 1 15
    have j_6_ := eq_ti h_4_
    try simp (disch := omega) only [ti_add, ti_sub, b2t_, b2f_, li_0, li_1, li_3, li_9, li_10, li_11, li_12, li_15, li_24, li_31, li_39, li_40, li_m1] at j_6_
    apply wp_bv_i
    intro s_6 e_s_6
    have g_s_6 : G9_ s0 s_6 := by rw [e_s_6]; exact G9_.sa g_s0 (by decide) (fun _ => trivial)
    have r_7_ : (gi s_6 1 15).toInt = (gi s0 1 15).toInt := by rw [e_s_6, gi_sa, if_neg (by decide)]
    have b_8_ : 0 ≤ (gi s_6 1 15).toInt ∧ (gi s_6 1 15).toInt ≤ 40 := g_s_6.1.1 1 15
    apply wp_bv_i
    intro s_7 e_s_7
    have g_s_7 : G9_ s0 s_7 := by rw [e_s_7]; exact G9_.si g_s_6 (by first | decide | omega) (show 0 ≤ ((((gi s_6 1 15) - 1) : Int32)).toInt ∧ ((((gi s_6 1 15) - 1) : Int32)).toInt ≤ 40 from ⟨by first | omega | (simp (disch := omega) only [ti_add, ti_sub, b2t_, b2f_, li_0, li_1, li_3, li_9, li_10, li_11, li_12, li_15, li_24, li_31, li_39, li_40, li_m1]; omega), by first | omega | (simp (disch := omega) only [ti_add, ti_sub, b2t_, b2f_, li_0, li_1, li_3, li_9, li_10, li_11, li_12, li_15, li_24, li_31, li_39, li_40, li_m1]; omega)⟩)
    have r_9_ : (gi s_7 1 15).toInt = ((((gi s_6 1 15) - 1) : Int32)).toInt := by rw [e_s_7]; rw [gsi_eq]
    try simp (disch := omega) only [ti_add, ti_sub, b2t_, b2f_, li_0, li_1, li_3, li_9, li_10, li_11, li_12, li_15, li_24, li_31, li_39, li_40, li_m1] at r_9_
    have b_10_ : 0 ≤ (gi s_7 1 15).toInt ∧ (gi s_7 1 15).toInt ≤ 40 := g_s_7.1.1 1 15
    exact hk_2 s_7 g_s_7 (by first | omega | (simp (disch := omega) only [ti_add, ti_sub, b2t_, b2f_, li_0, li_1, li_3, li_9, li_10, li_11, li_12, li_15, li_24, li_31, li_39, li_40, li_m1]; omega))
  · skip
    have b_11_ : 0 ≤ (gi s0 1 15).toInt ∧ (gi s0 1 15).toInt ≤ 40 := g_s0.1.1 1 15
    have j_12_ := ne_ti h_4_
    try simp (disch := omega) only [ti_add, ti_sub, b2t_, b2f_, li_0, li_1, li_3, li_9, li_10, li_11, li_12, li_15, li_24, li_31, li_39, li_40, li_m1] at j_12_
    exact hk_2 s0 g_s0 (by first | omega | (simp (disch := omega) only [ti_add, ti_sub, b2t_, b2f_, li_0, li_1, li_3, li_9, li_10, li_11, li_12, li_15, li_24, li_31, li_39, li_40, li_m1]; omega))
set_option maxHeartbeats 1000000 in
set_option maxRecDepth 20000 in
theorem tX9_undo (s0 : Sg) (h0 : I9_ s0)  : wp_ (fX9_undo s0) (fun q => G9_ s0 q.2) := by
  have g_s0 : G9_ s0 s0 := G9_.rf h0
  have hFU_ : FU = 1000000000 := rfl
  generalize hQ : (fun q : (Int32 × Sg) => G9_ s0 q.2) = Q
  unfold fX9_undo
  have L0_ := li_0
  have L1_ := li_1
  have L15_ := li_15
  have M1_ := li_m1
  refine wp_bnd_i (tX6_stepBack s0 g_s0.1 ) (fun r_1 s_2 p_s_2 => ?_)
  have g_s_2 := g_s0.tr p_s_2
  refine wp_if_i (fun h_1_ => ?_) (fun h_1_ => ?_)
  · skip
    have b_2_ := b2i_bd r_1
    have j_3_ := eq_ti h_1_
    try simp (disch := omega) only [ti_add, ti_sub, b2t_, b2f_, li_0, li_1, li_15, li_m1] at j_3_
    exact wp_some_i (by subst hQ; exact g_s_2)
  · skip
    have b_4_ := b2i_bd r_1
    have j_5_ := ne_ti h_1_
    try simp (disch := omega) only [ti_add, ti_sub, b2t_, b2f_, li_0, li_1, li_15, li_m1] at j_5_
    have b_6_ : 0 ≤ (gi s_2 1 15).toInt ∧ (gi s_2 1 15).toInt ≤ 40 := g_s_2.1.1 1 15
    exact wp_some_i (by subst hQ; exact g_s_2)
set_option maxHeartbeats 1000000 in
set_option maxRecDepth 20000 in
theorem tX9_passHours (a1 : Int32) (s0 : Sg) (h0 : I9_ s0)  : wp_ (fX9_passHours a1 s0) (fun q => G9_ s0 q.2) := by
  have g_s0 : G9_ s0 s0 := G9_.rf h0
  have hFU_ : FU = 1000000000 := rfl
  generalize hQ : (fun q : (Bool × Sg) => G9_ s0 q.2) = Q
  unfold fX9_passHours
  have L0_ := li_0
  have L1_ := li_1
  have L3_ := li_3
  have L24_ := li_24
  have L99_ := li_99
  have M1_ := li_m1
  refine wp_bnd_i (tX9_within a1 0 99 s0 g_s0.1 ) (fun r_1 s_2 p_s_2 => ?_)
  have e_s_2 : s_2 = s0 := p_s_2.1
  have g_s_2 : G9_ s0 s_2 := by rw [e_s_2]; exact g_s0
  have f_s_2 := p_s_2.2
  try dsimp only at f_s_2
  try simp (disch := omega) only [ti_add, ti_sub, b2t_, b2f_, li_0, li_1, li_3, li_24, li_99, li_m1] at f_s_2
  refine wp_if_i (fun h_1_ => ?_) (fun h_1_ => ?_)
  · skip
    have b_2_ := b2i_bd r_1
    have j_3_ := eq_ti h_1_
    try simp (disch := omega) only [ti_add, ti_sub, b2t_, b2f_, li_0, li_1, li_3, li_24, li_99, li_m1] at j_3_
    exact wp_some_i (by subst hQ; exact g_s_2)
  · skip
    have b_4_ := b2i_bd r_1
    have j_5_ := ne_ti h_1_
    try simp (disch := omega) only [ti_add, ti_sub, b2t_, b2f_, li_0, li_1, li_3, li_24, li_99, li_m1] at j_5_
    refine wp_bnv_i (tX6_keepStep s_2 g_s_2.1 ) (fun s_3 p_s_3 => ?_)
    have g_s_3 := g_s_2.tr p_s_3
    apply wp_bv_i
    intro s_4 e_s_4
    have g_s_4 : G9_ s0 s_4 := by rw [e_s_4]; exact G9_.si g_s_3 (by first | decide | omega) trivial
    exact wp_some_i (by subst hQ; exact g_s_4)
set_option maxHeartbeats 1000000 in
set_option maxRecDepth 20000 in
theorem tX9_pass (a1 : Int32) (s0 : Sg) (h0 : I9_ s0)  : wp_ (fX9_pass a1 s0) (fun q => G9_ s0 q.2) := by
  have g_s0 : G9_ s0 s0 := G9_.rf h0
  have hFU_ : FU = 1000000000 := rfl
  generalize hQ : (fun q : (Int32 × Sg) => G9_ s0 q.2) = Q
  unfold fX9_pass
  have L0_ := li_0
  have L1_ := li_1
  have L3_ := li_3
  have M1_ := li_m1
  refine wp_bnd_i (tX9_passHours a1 s0 g_s0.1 ) (fun r_1 s_2 p_s_2 => ?_)
  have g_s_2 := g_s0.tr p_s_2
  refine wp_if_i (fun h_1_ => ?_) (fun h_1_ => ?_)
  · skip
    have b_2_ := b2i_bd r_1
    have j_3_ := eq_ti h_1_
    try simp (disch := omega) only [ti_add, ti_sub, b2t_, b2f_, li_0, li_1, li_3, li_m1] at j_3_
    exact wp_some_i (by subst hQ; exact g_s_2)
  · skip
    have b_4_ := b2i_bd r_1
    have j_5_ := ne_ti h_1_
    try simp (disch := omega) only [ti_add, ti_sub, b2t_, b2f_, li_0, li_1, li_3, li_m1] at j_5_
    exact wp_some_i (by subst hQ; exact g_s_2)
set_option maxHeartbeats 1000000 in
set_option maxRecDepth 20000 in
theorem tX9_rearrange (a1 : Int32) (a2 : Int32) (s0 : Sg) (h0 : I9_ s0)  : wp_ (fX9_rearrange a1 a2 s0) (fun q => G9_ s0 q.2) := by
  have g_s0 : G9_ s0 s0 := G9_.rf h0
  have hFU_ : FU = 1000000000 := rfl
  generalize hQ : (fun q : (Bool × Sg) => G9_ s0 q.2) = Q
  unfold fX9_rearrange
  have L0_ := li_0
  have L1_ := li_1
  have L3_ := li_3
  have L4_ := li_4
  have L5_ := li_5
  have L9_ := li_9
  have L10_ := li_10
  have L13_ := li_13
  have M1_ := li_m1
  refine wp_bnv_i (tX4_setAir (gi s0 1 3) (gi s0 1 4) (gi s0 1 5) s0 g_s0.1 ) (fun s_1 p_s_1 => ?_)
  have a_s_1 := p_s_1
  have g_s_1 := g_s0.tr a_s_1.g
  refine wp_bnv_i (tX4_weigh a1 a2 s_1 g_s_1.1 ) (fun s_2 p_s_2 => ?_)
  have a_s_2 := p_s_2
  have g_s_2 := g_s_1.tr a_s_2.g
  refine wp_bnd_i (tX4_isSafe (gr s_2 1 13) s_2 g_s_2.1 g_s_2.1.2.1) (fun r_3 s_4 p_s_4 => ?_)
  have a_s_4 := p_s_4
  have g_s_4 := g_s_2.tr a_s_4.g
  refine wp_if_i (fun h_1_ => ?_) (fun h_1_ => ?_)
  · skip
    have b_2_ := b2i_bd r_3
    have j_3_ := eq_ti h_1_
    try simp (disch := omega) only [ti_add, ti_sub, b2t_, b2f_, li_0, li_1, li_3, li_4, li_5, li_9, li_10, li_13, li_m1] at j_3_
    exact wp_some_i (by subst hQ; exact g_s_4)
  · skip
    have b_4_ := b2i_bd r_3
    have j_5_ := ne_ti h_1_
    try simp (disch := omega) only [ti_add, ti_sub, b2t_, b2f_, li_0, li_1, li_3, li_4, li_5, li_9, li_10, li_13, li_m1] at j_5_
    refine wp_bnv_i (tX6_keepStep s_4 g_s_4.1 ) (fun s_5 p_s_5 => ?_)
    have g_s_5 := g_s_4.tr p_s_5
    apply wp_bv_i
    intro s_6 e_s_6
    have g_s_6 : G9_ s0 s_6 := by rw [e_s_6]; exact G9_.si g_s_5 (by first | decide | omega) trivial
    apply wp_bv_i
    intro s_7 e_s_7
    have g_s_7 : G9_ s0 s_7 := by rw [e_s_7]; exact G9_.si g_s_6 (by first | decide | omega) trivial
    exact wp_some_i (by subst hQ; exact g_s_7)
set_option maxHeartbeats 1000000 in
set_option maxRecDepth 20000 in
theorem tX9_lay (a1 : Int32) (a2 : Int32) (s0 : Sg) (h0 : I9_ s0)  : wp_ (fX9_lay a1 a2 s0) (fun q => G9_ s0 q.2) := by
  have g_s0 : G9_ s0 s0 := G9_.rf h0
  have hFU_ : FU = 1000000000 := rfl
  generalize hQ : (fun q : (Bool × Sg) => G9_ s0 q.2) = Q
  unfold fX9_lay
  have L0_ := li_0
  have L1_ := li_1
  have L6_ := li_6
  have L9_ := li_9
  have L10_ := li_10
  have L31_ := li_31
  have M1_ := li_m1
  have b_1_ : 0 ≤ (gi s0 1 6).toInt ∧ (gi s0 1 6).toInt ≤ 12 := g_s0.1.1 1 6
  refine wp_bnd_i (tX9_within a1 0 ((gi s0 1 6) - 1) s0 g_s0.1 ) (fun r_1 s_2 p_s_2 => ?_)
  have e_s_2 : s_2 = s0 := p_s_2.1
  have g_s_2 : G9_ s0 s_2 := by rw [e_s_2]; exact g_s0
  have f_s_2 := p_s_2.2
  try dsimp only at f_s_2
  try simp (disch := omega) only [ti_add, ti_sub, b2t_, b2f_, li_0, li_1, li_6, li_9, li_10, li_31, li_m1] at f_s_2
  refine wp_if_i (fun h_2_ => ?_) (fun h_2_ => ?_)
  · skip
    have b_3_ := b2i_bd r_1
    have j_4_ := eq_ti h_2_
    try simp (disch := omega) only [ti_add, ti_sub, b2t_, b2f_, li_0, li_1, li_6, li_9, li_10, li_31, li_m1] at j_4_
    exact wp_some_i (by subst hQ; exact g_s_2)
  · skip
    have b_5_ := b2i_bd r_1
    have j_6_ := ne_ti h_2_
    try simp (disch := omega) only [ti_add, ti_sub, b2t_, b2f_, li_0, li_1, li_6, li_9, li_10, li_31, li_m1] at j_6_
    refine wp_bnd_i (tX9_isPan a2 s_2 g_s_2.1 ) (fun r_3 s_4 p_s_4 => ?_)
    have e_s_4 : s_4 = s_2 := p_s_4
    have g_s_4 : G9_ s0 s_4 := by rw [e_s_4]; exact g_s_2
    refine wp_if_i (fun h_7_ => ?_) (fun h_7_ => ?_)
    · skip
      have b_8_ := b2i_bd r_3
      have j_9_ := eq_ti h_7_
      try simp (disch := omega) only [ti_add, ti_sub, b2t_, b2f_, li_0, li_1, li_6, li_9, li_10, li_31, li_m1] at j_9_
      exact wp_some_i (by subst hQ; exact g_s_4)
    · skip
      have b_10_ := b2i_bd r_3
      have j_11_ := ne_ti h_7_
      try simp (disch := omega) only [ti_add, ti_sub, b2t_, b2f_, li_0, li_1, li_6, li_9, li_10, li_31, li_m1] at j_11_
      refine wp_bnd_i (tX6_panOf a1 s_4 g_s_4.1 ) (fun r_5 s_6 p_s_6 => ?_)
      have e_s_6 : s_6 = s_4 := p_s_6
      have g_s_6 : G9_ s0 s_6 := by rw [e_s_6]; exact g_s_4
      refine wp_if_i (fun h_12_ => ?_) (fun h_12_ => ?_)
      · skip
        have j_13_ := eq_ti h_12_
        try simp (disch := omega) only [ti_add, ti_sub, b2t_, b2f_, li_0, li_1, li_6, li_9, li_10, li_31, li_m1] at j_13_
        apply wp_bv_i
        intro v_7 e_v_7
        have j_14_ := eq_ti e_v_7
        try simp (disch := omega) only [ti_add, ti_sub, b2t_, b2f_, li_0, li_1, li_6, li_9, li_10, li_31, li_m1] at j_14_
        refine wp_if_i (fun h_15_ => ?_) (fun h_15_ => ?_)
        · skip
          have j_16_ := eq_ti h_15_
          try simp (disch := omega) only [ti_add, ti_sub, b2t_, b2f_, li_0, li_1, li_6, li_9, li_10, li_31, li_m1] at j_16_
          refine wp_bnd_i (tX9_rearrange ((gi s_6 1 9) ||| v_7) (gi s_6 1 10) s_6 g_s_6.1 ) (fun r_12 s_13 p_s_13 => ?_)
          have g_s_13 := g_s_6.tr p_s_13
          exact wp_some_i (by subst hQ; exact g_s_13)
        · skip
          have j_17_ := ne_ti h_15_
          try simp (disch := omega) only [ti_add, ti_sub, b2t_, b2f_, li_0, li_1, li_6, li_9, li_10, li_31, li_m1] at j_17_
          refine wp_bnd_i (tX9_rearrange (gi s_6 1 9) ((gi s_6 1 10) ||| v_7) s_6 g_s_6.1 ) (fun r_10 s_11 p_s_11 => ?_)
          have g_s_11 := g_s_6.tr p_s_11
          exact wp_some_i (by subst hQ; exact g_s_11)
      · skip
        have j_18_ := ne_ti h_12_
        try simp (disch := omega) only [ti_add, ti_sub, b2t_, b2f_, li_0, li_1, li_6, li_9, li_10, li_31, li_m1] at j_18_
        exact wp_some_i (by subst hQ; exact g_s_6)
