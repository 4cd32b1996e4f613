set_option maxHeartbeats 1000000 in
set_option maxRecDepth 20000 in
theorem tX9_within (a1 : Int32) (a2 : Int32) (a3 : Int32) (s0 : Sg) (h0 : I9_ s0)  : wp_ (fX9_within a1 a2 a3 s0) (fun q => q.2 = s0 ∧ ((b2i q.1).toInt = 0 ∨ (a2.toInt ≤ a1.toInt ∧ a1.toInt ≤ a3.toInt))) := by
  have g_s0 : G9_ s0 s0 := G9_.rf h0
  have hFU_ : FU = 1000000000 := rfl
  generalize hQ : (fun q : (Bool × Sg) => q.2 = s0 ∧ ((b2i q.1).toInt = 0 ∨ (a2.toInt ≤ a1.toInt ∧ a1.toInt ≤ a3.toInt))) = Q
  unfold fX9_within
  have L0_ := li_0
  have L1_ := li_1
  have M1_ := li_m1
  refine wp_if_i (fun h_1_ => ?_) (fun h_1_ => ?_)
  · skip
    have j_2_ := lt_ti h_1_
    try simp (disch := omega) only [ti_add, ti_sub, b2t_, b2f_, li_0, li_1, li_m1] at j_2_
    exact wp_some_i (by subst hQ; exact ⟨rfl, Or.inl rfl⟩)
  · skip
    have j_3_ := nlt_ti h_1_
    try simp (disch := omega) only [ti_add, ti_sub, b2t_, b2f_, li_0, li_1, li_m1] at j_3_
    refine wp_if_i (fun h_4_ => ?_) (fun h_4_ => ?_)
    · skip
      have j_5_ := lt_ti h_4_
      try simp (disch := omega) only [ti_add, ti_sub, b2t_, b2f_, li_0, li_1, li_m1] at j_5_
      exact wp_some_i (by subst hQ; exact ⟨rfl, Or.inl rfl⟩)
    · skip
      have j_6_ := nlt_ti h_4_
      try simp (disch := omega) only [ti_add, ti_sub, b2t_, b2f_, li_0, li_1, li_m1] at j_6_
      exact wp_some_i (by subst hQ; exact ⟨rfl, Or.inr ⟨by first | omega | (simp (disch := omega) only [ti_add, ti_sub, b2t_, b2f_, li_0, li_1, li_m1]; omega), by first | omega | (simp (disch := omega) only [ti_add, ti_sub, b2t_, b2f_, li_0, li_1, li_m1]; omega)⟩⟩)
set_option maxHeartbeats 1000000 in
set_option maxRecDepth 20000 in
theorem tX4_setAir (a1 : Int32) (a2 : Int32) (a3 : Int32) (s0 : Sg) (h0 : I9_ s0)  : wp_ (fX4_setAir a1 a2 a3 s0) (fun q => A9_ s0 q) := by
  have g_s0 : A9_ s0 s0 := A9_.rf h0
  have hFU_ : FU = 1000000000 := rfl
  generalize hQ : (fun q : (Sg) => A9_ s0 q) = Q
  unfold fX4_setAir
  have L0_ := li_0
  have L1_ := li_1
  have L2_ := li_2
  have L19_ := li_19
  have M1_ := li_m1
  apply wp_bv_i
  intro s_1 e_s_1
  have g_s_1 : A9_ s0 s_1 := by rw [e_s_1]; exact A9_.si g_s0 (by first | decide | omega) trivial
  apply wp_bv_i
  intro s_2 e_s_2
  have g_s_2 : A9_ s0 s_2 := by rw [e_s_2]; exact A9_.si g_s_1 (by first | decide | omega) trivial
  apply wp_bv_i
  intro s_3 e_s_3
  have g_s_3 : A9_ s0 s_3 := by rw [e_s_3]; exact A9_.si g_s_2 (by first | decide | omega) trivial
  exact wp_some_i (by subst hQ; exact g_s_3)
set_option maxHeartbeats 1000000 in
set_option maxRecDepth 20000 in
theorem tX4_hang (a2 : Int32) (a3 : Int32) (s0 : Sg) (h0 : I9_ s0)  : wp_ (fX4_hang a2 a3 s0) (fun q => A9_ s0 q) := by
  have g_s0 : A9_ s0 s0 := A9_.rf h0
  have hFU_ : FU = 1000000000 := rfl
  generalize hQ : (fun q : (Sg) => A9_ s0 q) = Q
  unfold fX4_hang
  have L0_ := li_0
  have L1_ := li_1
  have L2_ := li_2
  have L3_ := li_3
  have L4_ := li_4
  have L6_ := li_6
  have L10_ := li_10
  have L19_ := li_19
  have M1_ := li_m1
  apply wp_bv_i
  intro s_1 e_s_1
  have g_s_1 : A9_ s0 s_1 := by rw [e_s_1]; exact A9_.si g_s0 (by first | decide | omega) trivial
  apply wp_bv_i
  intro s_2 e_s_2
  have g_s_2 : A9_ s0 s_2 := by rw [e_s_2]; exact A9_.si g_s_1 (by first | decide | omega) trivial
  apply wp_bv_i
  intro s_3 e_s_3
  have g_s_3 : A9_ s0 s_3 := by rw [e_s_3]; exact A9_.si g_s_2 (by first | decide | omega) trivial
  exact wp_some_i (by subst hQ; exact g_s_3)
set_option maxHeartbeats 1000000 in
set_option maxRecDepth 20000 in
theorem tX9_isText (a1 : Int32) (s0 : Sg) (h0 : I9_ s0)  : wp_ (fX9_isText a1 s0) (fun q => q.2 = s0 ∧ ((b2i q.1).toInt = 0 ∨ (0 ≤ a1.toInt ∧ a1.toInt ≤ 3))) := by
  have g_s0 : G9_ s0 s0 := G9_.rf h0
  have hFU_ : FU = 1000000000 := rfl
  generalize hQ : (fun q : (Bool × Sg) => q.2 = s0 ∧ ((b2i q.1).toInt = 0 ∨ (0 ≤ a1.toInt ∧ a1.toInt ≤ 3))) = Q
  unfold fX9_isText
  have L0_ := li_0
  have L1_ := li_1
  have L11_ := li_11
  have M1_ := li_m1
  have b_1_ : 0 ≤ (gi s0 1 11).toInt ∧ (gi s0 1 11).toInt ≤ 4 := g_s0.1.1 1 11
  refine wp_bnd_i (tX9_within a1 0 ((gi s0 1 11) - 1) s0 g_s0.1 ) (fun r_1 s_2 p_s_2 => ?_)
  have e_s_2 : s_2 = s0 := p_s_2.1
  have g_s_2 : G9_ s0 s_2 := by rw [e_s_2]; exact g_s0
  have f_s_2 := p_s_2.2
  try dsimp only at f_s_2
  try simp (disch := omega) only [ti_add, ti_sub, b2t_, b2f_, li_0, li_1, li_11, li_m1] at f_s_2
  exact wp_some_i (by subst hQ; exact ⟨(by rw [e_s_2]), (by dsimp only; omega)⟩)
set_option maxHeartbeats 1000000 in
set_option maxRecDepth 20000 in
theorem tX9_isPan (a1 : Int32) (s0 : Sg) (h0 : I9_ s0)  : wp_ (fX9_isPan a1 s0) (fun q => q.2 = s0) := by
  have g_s0 : G9_ s0 s0 := G9_.rf h0
  have hFU_ : FU = 1000000000 := rfl
  generalize hQ : (fun q : (Bool × Sg) => q.2 = s0) = Q
  unfold fX9_isPan
  have L0_ := li_0
  have L1_ := li_1
  have M1_ := li_m1
  refine wp_if_i (fun h_1_ => ?_) (fun h_1_ => ?_)
  · skip
    have j_2_ := eq_ti h_1_
    try simp (disch := omega) only [ti_add, ti_sub, b2t_, b2f_, li_0, li_1, li_m1] at j_2_
    exact wp_some_i (by subst hQ; exact rfl)
  · skip
    have j_3_ := ne_ti h_1_
    try simp (disch := omega) only [ti_add, ti_sub, b2t_, b2f_, li_0, li_1, li_m1] at j_3_
    refine wp_if_i (fun h_4_ => ?_) (fun h_4_ => ?_)
    · skip
      have j_5_ := eq_ti h_4_
      try simp (disch := omega) only [ti_add, ti_sub, b2t_, b2f_, li_0, li_1, li_m1] at j_5_
      exact wp_some_i (by subst hQ; exact rfl)
    · skip
      have j_6_ := ne_ti h_4_
      try simp (disch := omega) only [ti_add, ti_sub, b2t_, b2f_, li_0, li_1, li_m1] at j_6_
      exact wp_some_i (by subst hQ; exact rfl)
set_option maxHeartbeats 1000000 in
set_option maxRecDepth 20000 in
theorem tX9_leaning (a1 : Int32) (a2 : Int32) (s0 : Sg) (h0 : I9_ s0)  : wp_ (fX9_leaning a1 a2 s0) (fun q => q.2 = s0) := by
  have g_s0 : G9_ s0 s0 := G9_.rf h0
  have hFU_ : FU = 1000000000 := rfl
  generalize hQ : (fun q : (Int32 × Sg) => q.2 = s0) = Q
  unfold fX9_leaning
  have L0_ := li_0
  have L1_ := li_1
  have L2_ := li_2
  have M1_ := li_m1
  refine wp_if_i (fun h_1_ => ?_) (fun h_1_ => ?_)
  · skip
    have j_2_ := le_ti h_1_
    try simp (disch := omega) only [ti_add, ti_sub, b2t_, b2f_, li_0, li_1, li_2, li_m1] at j_2_
    refine wp_if_i (fun h_3_ => ?_) (fun h_3_ => ?_)
    · skip
      have j_4_ := le_ti h_3_
      try simp (disch := omega) only [ti_add, ti_sub, b2t_, b2f_, li_0, li_1, li_2, li_m1] at j_4_
      exact wp_some_i (by subst hQ; exact rfl)
    · skip
      have j_5_ := nle_ti h_3_
      try simp (disch := omega) only [ti_add, ti_sub, b2t_, b2f_, li_0, li_1, li_2, li_m1] at j_5_
      exact wp_some_i (by subst hQ; exact rfl)
  · skip
    have j_6_ := nle_ti h_1_
    try simp (disch := omega) only [ti_add, ti_sub, b2t_, b2f_, li_0, li_1, li_2, li_m1] at j_6_
    exact wp_some_i (by subst hQ; exact rfl)
set_option maxHeartbeats 1000000 in
set_option maxRecDepth 20000 in
theorem tX2_fail (a1 : Int32) (s0 : Sg) (h0 : I9_ s0)  : wp_ (fX2_fail a1 s0) (fun q => R9_ s0 q) := by
  have g_s0 : R9_ s0 s0 := R9_.rf h0
  have hFU_ : FU = 1000000000 := rfl
  generalize hQ : (fun q : (Sg) => R9_ s0 q) = Q
  unfold fX2_fail
  have L0_ := li_0
  have L1_ := li_1
  have L3_ := li_3
  have L4_ := li_4
  have L5_ := li_5
  have M1_ := li_m1
  refine wp_if_i (fun h_1_ => ?_) (fun h_1_ => ?_)
  · skip
    have j_2_ := eq_ti h_1_
    try simp (disch := omega) only [ti_add, ti_sub, b2t_, b2f_, li_0, li_1, li_3, li_4, li_5, li_m1] at j_2_
    apply wp_bv_i
    intro s_1 e_s_1
    have g_s_1 : R9_ s0 s_1 := by rw [e_s_1]; exact R9_.si g_s0 (by first | decide | omega) trivial
    have b_3_ : 0 ≤ (gi s0 3 3).toInt ∧ (gi s0 3 3).toInt ≤ 301 := g_s0.1.1 3 3
    have r_4_ : (gi s_1 3 3).toInt = (gi s0 3 3).toInt := by rw [e_s_1]; rw [gsi_k (by first | decide | omega)]
    have b_5_ : 0 ≤ (gi s_1 3 3).toInt ∧ (gi s_1 3 3).toInt ≤ 301 := g_s_1.1.1 3 3
    apply wp_bv_i
    intro s_2 e_s_2
    have g_s_2 : R9_ s0 s_2 := by rw [e_s_2]; exact R9_.si g_s_1 (by first | decide | omega) trivial
    exact wp_some_i (by subst hQ; exact g_s_2)
  · skip
    have j_6_ := ne_ti h_1_
    try simp (disch := omega) only [ti_add, ti_sub, b2t_, b2f_, li_0, li_1, li_3, li_4, li_5, li_m1] at j_6_
    exact wp_some_i (by subst hQ; exact g_s0)
set_option maxHeartbeats 1000000 in
set_option maxRecDepth 20000 in
theorem tX2_operandFault (a1 : Int32) (s0 : Sg) (h0 : I9_ s0)  : wp_ (fX2_operandFault a1 s0) (fun q => q.2 = s0) := by
  have g_s0 : R9_ s0 s0 := R9_.rf h0
  have hFU_ : FU = 1000000000 := rfl
  generalize hQ : (fun q : (Int32 × Sg) => q.2 = s0) = Q
  unfold fX2_operandFault
  have L0_ := li_0
  have L1_ := li_1
  have L2_ := li_2
  have L3_ := li_3
  have L4_ := li_4
  have L5_ := li_5
  have L7_ := li_7
  have L8_ := li_8
  have L17_ := li_17
  have L26_ := li_26
  have L9999_ := li_9999
  have M1_ := li_m1
  refine wp_if_i (fun h_1_ => ?_) (fun h_1_ => ?_)
  · skip
    have j_2_ := eq_ti h_1_
    try simp (disch := omega) only [ti_add, ti_sub, b2t_, b2f_, li_0, li_1, li_2, li_3, li_4, li_5, li_7, li_8, li_17, li_26, li_9999, li_m1] at j_2_
    refine wp_if_i (fun h_3_ => ?_) (fun h_3_ => ?_)
    · skip
      have b_4_ : (gi s0 3 5).toInt ≤ 10000 := g_s0.1.1 3 5
      have j_5_ := le_ti h_3_
      try simp (disch := omega) only [ti_add, ti_sub, b2t_, b2f_, li_0, li_1, li_2, li_3, li_4, li_5, li_7, li_8, li_17, li_26, li_9999, li_m1] at j_5_
      exact wp_some_i (by subst hQ; exact rfl)
    · skip
      have b_6_ : (gi s0 3 5).toInt ≤ 10000 := g_s0.1.1 3 5
      have j_7_ := nle_ti h_3_
      try simp (disch := omega) only [ti_add, ti_sub, b2t_, b2f_, li_0, li_1, li_2, li_3, li_4, li_5, li_7, li_8, li_17, li_26, li_9999, li_m1] at j_7_
      exact wp_some_i (by subst hQ; exact rfl)
  · skip
    have j_8_ := ne_ti h_1_
    try simp (disch := omega) only [ti_add, ti_sub, b2t_, b2f_, li_0, li_1, li_2, li_3, li_4, li_5, li_7, li_8, li_17, li_26, li_9999, li_m1] at j_8_
    refine wp_if_i (fun h_9_ => ?_) (fun h_9_ => ?_)
    · skip
      have j_10_ := le_ti h_9_
      try simp (disch := omega) only [ti_add, ti_sub, b2t_, b2f_, li_0, li_1, li_2, li_3, li_4, li_5, li_7, li_8, li_17, li_26, li_9999, li_m1] at j_10_
      apply wp_bv_i
      intro v_1 e_v_1
      have j_11_ := eq_ti e_v_1
      try simp (disch := omega) only [ti_add, ti_sub, b2t_, b2f_, li_0, li_1, li_2, li_3, li_4, li_5, li_7, li_8, li_17, li_26, li_9999, li_m1] at j_11_
      refine wp_jn (fun k_3 => ∀ (y_2 : Bool), wp_ (k_3 y_2) Q) ?_ (fun k_3 hk_3 => ?_)
      · intro y_2
        try dsimp only
        refine wp_if_i (fun h_12_ => ?_) (fun h_12_ => ?_)
        · skip
          have b_13_ := b2i_bd y_2
          have j_14_ := eq_ti h_12_
          try simp (disch := omega) only [ti_add, ti_sub, b2t_, b2f_, li_0, li_1, li_2, li_3, li_4, li_5, li_7, li_8, li_17, li_26, li_9999, li_m1] at j_14_
          exact wp_some_i (by subst hQ; exact rfl)
        · skip
          have b_15_ := b2i_bd y_2
          have j_16_ := ne_ti h_12_
          try simp (disch := omega) only [ti_add, ti_sub, b2t_, b2f_, li_0, li_1, li_2, li_3, li_4, li_5, li_7, li_8, li_17, li_26, li_9999, li_m1] at j_16_
          exact wp_some_i (by subst hQ; exact rfl)
      refine wp_jn (fun k_4 => wp_ k_4 Q) ?_ (fun k_4 hk_4 => ?_)
      · skip
        exact hk_3 true  
      refine wp_if_i (fun h_17_ => ?_) (fun h_17_ => ?_)
      · skip
        have j_18_ := lt_ti h_17_
        try simp (disch := omega) only [ti_add, ti_sub, b2t_, b2f_, li_0, li_1, li_2, li_3, li_4, li_5, li_7, li_8, li_17, li_26, li_9999, li_m1] at j_18_
        exact hk_4   
      · skip
        have j_19_ := nlt_ti h_17_
        try simp (disch := omega) only [ti_add, ti_sub, b2t_, b2f_, li_0, li_1, li_2, li_3, li_4, li_5, li_7, li_8, li_17, li_26, li_9999, li_m1] at j_19_
        refine wp_jn (fun k_6 => ∀ (y_5 : Bool), wp_ (k_6 y_5) Q) ?_ (fun k_6 hk_6 => ?_)
        · intro y_5
          try dsimp only
          refine wp_if_i (fun h_20_ => ?_) (fun h_20_ => ?_)
          · skip
            have b_21_ : 0 ≤ (gi s0 4 8).toInt ∧ (gi s0 4 8).toInt ≤ 1 := g_s0.1.1 4 8
            have b_22_ := b2i_bd y_5
            have j_23_ := eq_ti h_20_
            try simp (disch := omega) only [ti_add, ti_sub, b2t_, b2f_, li_0, li_1, li_2, li_3, li_4, li_5, li_7, li_8, li_17, li_26, li_9999, li_m1] at j_23_
            exact hk_4   
          · skip
            have b_24_ : 0 ≤ (gi s0 4 8).toInt ∧ (gi s0 4 8).toInt ≤ 1 := g_s0.1.1 4 8
            have b_25_ := b2i_bd y_5
            have j_26_ := ne_ti h_20_
            try simp (disch := omega) only [ti_add, ti_sub, b2t_, b2f_, li_0, li_1, li_2, li_3, li_4, li_5, li_7, li_8, li_17, li_26, li_9999, li_m1] at j_26_
            exact hk_3 false  
        refine wp_if_i (fun h_27_ => ?_) (fun h_27_ => ?_)
        · skip
          have j_28_ := lt_ti h_27_
          try simp (disch := omega) only [ti_add, ti_sub, b2t_, b2f_, li_0, li_1, li_2, li_3, li_4, li_5, li_7, li_8, li_17, li_26, li_9999, li_m1] at j_28_
          exact hk_6 false  
        · skip
          have j_29_ := nlt_ti h_27_
          try simp (disch := omega) only [ti_add, ti_sub, b2t_, b2f_, li_0, li_1, li_2, li_3, li_4, li_5, li_7, li_8, li_17, li_26, li_9999, li_m1] at j_29_
          exact hk_6 true  
    · skip
      have j_30_ := nle_ti h_9_
      try simp (disch := omega) only [ti_add, ti_sub, b2t_, b2f_, li_0, li_1, li_2, li_3, li_4, li_5, li_7, li_8, li_17, li_26, li_9999, li_m1] at j_30_
      exact wp_some_i (by subst hQ; exact rfl)
set_option maxHeartbeats 1000000 in
set_option maxRecDepth 20000 in
theorem tX7_isLetter (a1 : Int32) (s0 : Sg) (h0 : I9_ s0)  : wp_ (fX7_isLetter a1 s0) (fun q => q.2 = s0) := by
  have g_s0 : R9_ s0 s0 := R9_.rf h0
  have hFU_ : FU = 1000000000 := rfl
  generalize hQ : (fun q : (Bool × Sg) => q.2 = s0) = Q
  unfold fX7_isLetter
  have L0_ := li_0
  have L1_ := li_1
  have L65_ := li_65
  have L90_ := li_90
  have L97_ := li_97
  have L122_ := li_122
  have M1_ := li_m1
  refine wp_jn (fun k_1 => wp_ k_1 Q) ?_ (fun k_1 hk_1 => ?_)
  · skip
    refine wp_if_i (fun h_1_ => ?_) (fun h_1_ => ?_)
    · skip
      have j_2_ := lt_ti h_1_
      try simp (disch := omega) only [ti_add, ti_sub, b2t_, b2f_, li_0, li_1, li_65, li_90, li_97, li_122, li_m1] at j_2_
      exact wp_some_i (by subst hQ; exact rfl)
    · skip
      have j_3_ := nlt_ti h_1_
      try simp (disch := omega) only [ti_add, ti_sub, b2t_, b2f_, li_0, li_1, li_65, li_90, li_97, li_122, li_m1] at j_3_
      refine wp_if_i (fun h_4_ => ?_) (fun h_4_ => ?_)
      · skip
        have j_5_ := lt_ti h_4_
        try simp (disch := omega) only [ti_add, ti_sub, b2t_, b2f_, li_0, li_1, li_65, li_90, li_97, li_122, li_m1] at j_5_
        exact wp_some_i (by subst hQ; exact rfl)
      · skip
        have j_6_ := nlt_ti h_4_
        try simp (disch := omega) only [ti_add, ti_sub, b2t_, b2f_, li_0, li_1, li_65, li_90, li_97, li_122, li_m1] at j_6_
        exact wp_some_i (by subst hQ; exact rfl)
  refine wp_if_i (fun h_7_ => ?_) (fun h_7_ => ?_)
  · skip
    have j_8_ := lt_ti h_7_
    try simp (disch := omega) only [ti_add, ti_sub, b2t_, b2f_, li_0, li_1, li_65, li_90, li_97, li_122, li_m1] at j_8_
    exact hk_1   
  · skip
    have j_9_ := nlt_ti h_7_
    try simp (disch := omega) only [ti_add, ti_sub, b2t_, b2f_, li_0, li_1, li_65, li_90, li_97, li_122, li_m1] at j_9_
    refine wp_if_i (fun h_10_ => ?_) (fun h_10_ => ?_)
    · skip
      have j_11_ := le_ti h_10_
      try simp (disch := omega) only [ti_add, ti_sub, b2t_, b2f_, li_0, li_1, li_65, li_90, li_97, li_122, li_m1] at j_11_
      exact wp_some_i (by subst hQ; exact rfl)
    · skip
      have j_12_ := nle_ti h_10_
      try simp (disch := omega) only [ti_add, ti_sub, b2t_, b2f_, li_0, li_1, li_65, li_90, li_97, li_122, li_m1] at j_12_
      exact hk_1   
set_option maxHeartbeats 1000000 in
set_option maxRecDepth 20000 in
theorem tX7_isDigit (a1 : Int32) (s0 : Sg) (h0 : I9_ s0)  : wp_ (fX7_isDigit a1 s0) (fun q => q.2 = s0) := by
  have g_s0 : R9_ s0 s0 := R9_.rf h0
  have hFU_ : FU = 1000000000 := rfl
  generalize hQ : (fun q : (Bool × Sg) => q.2 = s0) = Q
  unfold fX7_isDigit
  have L0_ := li_0
  have L1_ := li_1
  have L48_ := li_48
  have L57_ := li_57
  have M1_ := li_m1
  refine wp_if_i (fun h_1_ => ?_) (fun h_1_ => ?_)
  · skip
    have j_2_ := lt_ti h_1_
    try simp (disch := omega) only [ti_add, ti_sub, b2t_, b2f_, li_0, li_1, li_48, li_57, li_m1] at j_2_
    exact wp_some_i (by subst hQ; exact rfl)
  · skip
    have j_3_ := nlt_ti h_1_
    try simp (disch := omega) only [ti_add, ti_sub, b2t_, b2f_, li_0, li_1, li_48, li_57, li_m1] at j_3_
    refine wp_if_i (fun h_4_ => ?_) (fun h_4_ => ?_)
    · skip
      have j_5_ := lt_ti h_4_
      try simp (disch := omega) only [ti_add, ti_sub, b2t_, b2f_, li_0, li_1, li_48, li_57, li_m1] at j_5_
      exact wp_some_i (by subst hQ; exact rfl)
    · skip
      have j_6_ := nlt_ti h_4_
      try simp (disch := omega) only [ti_add, ti_sub, b2t_, b2f_, li_0, li_1, li_48, li_57, li_m1] at j_6_
      exact wp_some_i (by subst hQ; exact rfl)
