set_option maxHeartbeats 1000000 in
set_option maxRecDepth 20000 in
theorem tX10_isIn (a1 : Int32) (a2 : Int32) (a3 : Int32) (s0 : Sg) (h0 : I10_ s0)  : wp_ (fX10_isIn a1 a2 a3 s0) (fun q => q.2 = s0 ∧ ((b2i q.1).toInt = 0 ∨ (a2.toInt ≤ a1.toInt ∧ a1.toInt ≤ a3.toInt))) := by
  have g_s0 : N10_ s0 s0 := N10_.rf h0
  have hFU_ : FU = 1000000000 := rfl
  generalize hQ : (fun q : (Bool × Sg) => q.2 = s0 ∧ ((b2i q.1).toInt = 0 ∨ (a2.toInt ≤ a1.toInt ∧ a1.toInt ≤ a3.toInt))) = Q
  unfold fX10_isIn
  have L0_ := li_0
  have L1_ := li_1
  have M1_ := li_m1
  refine wp_if_i (fun h_1_ => ?_) (fun h_1_ => ?_)
  · skip
    have j_2_ := lt_ti h_1_
    try simp (disch := omega) only [ti_add, ti_sub, b2t_, b2f_, li_0, li_1, li_m1] at j_2_
    exact wp_some_i (by subst hQ; exact ⟨rfl, Or.inl rfl⟩)
  · skip
    have j_3_ := nlt_ti h_1_
    try simp (disch := omega) only [ti_add, ti_sub, b2t_, b2f_, li_0, li_1, li_m1] at j_3_
    refine wp_if_i (fun h_4_ => ?_) (fun h_4_ => ?_)
    · skip
      have j_5_ := lt_ti h_4_
      try simp (disch := omega) only [ti_add, ti_sub, b2t_, b2f_, li_0, li_1, li_m1] at j_5_
      exact wp_some_i (by subst hQ; exact ⟨rfl, Or.inl rfl⟩)
    · skip
      have j_6_ := nlt_ti h_4_
      try simp (disch := omega) only [ti_add, ti_sub, b2t_, b2f_, li_0, li_1, li_m1] at j_6_
      exact wp_some_i (by subst hQ; exact ⟨rfl, Or.inr ⟨by first | omega | (simp (disch := omega) only [ti_add, ti_sub, b2t_, b2f_, li_0, li_1, li_m1]; omega), by first | omega | (simp (disch := omega) only [ti_add, ti_sub, b2t_, b2f_, li_0, li_1, li_m1]; omega)⟩⟩)
set_option maxHeartbeats 1000000 in
set_option maxRecDepth 20000 in
theorem tX10_held (a1 : Int64) (a2 : Int32) (a3 : Int32) (s0 : Sg) (h0 : I10_ s0)  : wp_ (fX10_held a1 a2 a3 s0) (fun q => q.2 = s0) := by
  have g_s0 : N10_ s0 s0 := N10_.rf h0
  have hFU_ : FU = 1000000000 := rfl
  generalize hQ : (fun q : (Int32 × Sg) => q.2 = s0) = Q
  unfold fX10_held
  have L0_ := li_0
  have L1_ := li_1
  have M1_ := li_m1
  refine wp_if_i (fun h_1_ => ?_) (fun h_1_ => ?_)
  · skip
    have j_2_ := le_ti h_1_
    try simp (disch := omega) only [ti_add, ti_sub, b2t_, b2f_, li_0, li_1, li_m1] at j_2_
    refine wp_if_i (fun h_3_ => ?_) (fun h_3_ => ?_)
    · skip
      have j_4_ := le_ti h_3_
      try simp (disch := omega) only [ti_add, ti_sub, b2t_, b2f_, li_0, li_1, li_m1] at j_4_
      exact wp_some_i (by subst hQ; exact rfl)
    · skip
      have j_5_ := nle_ti h_3_
      try simp (disch := omega) only [ti_add, ti_sub, b2t_, b2f_, li_0, li_1, li_m1] at j_5_
      exact wp_some_i (by subst hQ; exact rfl)
  · skip
    have j_6_ := nle_ti h_1_
    try simp (disch := omega) only [ti_add, ti_sub, b2t_, b2f_, li_0, li_1, li_m1] at j_6_
    exact wp_some_i (by subst hQ; exact rfl)
set_option maxHeartbeats 1000000 in
set_option maxRecDepth 20000 in
theorem tX10_has (a1 : Int32) (a2 : Int32) (s0 : Sg) (h0 : I10_ s0)  : wp_ (fX10_has a1 a2 s0) (fun q => q.2 = s0) := by
  have g_s0 : N10_ s0 s0 := N10_.rf h0
  have hFU_ : FU = 1000000000 := rfl
  generalize hQ : (fun q : (Bool × Sg) => q.2 = s0) = Q
  unfold fX10_has
  have L0_ := li_0
  have L1_ := li_1
  have L31_ := li_31
  have M1_ := li_m1
  refine wp_if_i (fun h_1_ => ?_) (fun h_1_ => ?_)
  · skip
    have j_2_ := eq_ti h_1_
    try simp (disch := omega) only [ti_add, ti_sub, b2t_, b2f_, li_0, li_1, li_31, li_m1] at j_2_
    exact wp_some_i (by subst hQ; exact rfl)
  · skip
    have j_3_ := ne_ti h_1_
    try simp (disch := omega) only [ti_add, ti_sub, b2t_, b2f_, li_0, li_1, li_31, li_m1] at j_3_
    exact wp_some_i (by subst hQ; exact rfl)
set_option maxHeartbeats 1000000 in
set_option maxRecDepth 20000 in
theorem tX10_beam (a1 : Int32) (a2 : Int32) (a3 : Int32) (s0 : Sg) (h0 : I10_ s0)  : wp_ (fX10_beam a1 a2 a3 s0) (fun q => N10_ s0 q.2) := by
  have g_s0 : N10_ s0 s0 := N10_.rf h0
  have hFU_ : FU = 1000000000 := rfl
  generalize hQ : (fun q : (Bool × Sg) => N10_ s0 q.2) = Q
  unfold fX10_beam
  rw [ixl_1, ixl_2, ixl_3]
  have L0_ := li_0
  have L1_ := li_1
  have L2_ := li_2
  have L3_ := li_3
  have L28_ := li_28
  have L99_ := li_99
  have L9999_ := li_9999
  have M1_ := li_m1
  refine wp_bnd_i (tX10_isIn a1 1 99 s0 g_s0.1 ) (fun r_1 s_2 p_s_2 => ?_)
  have e_s_2 : s_2 = s0 := p_s_2.1
  have g_s_2 : N10_ s0 s_2 := by rw [e_s_2]; exact g_s0
  have f_s_2 := p_s_2.2
  try dsimp only at f_s_2
  try simp (disch := omega) only [ti_add, ti_sub, b2t_, b2f_, li_0, li_1, li_2, li_3, li_28, li_99, li_9999, li_m1] at f_s_2
  refine wp_if_i (fun h_1_ => ?_) (fun h_1_ => ?_)
  · skip
    have b_2_ := b2i_bd r_1
    have j_3_ := eq_ti h_1_
    try simp (disch := omega) only [ti_add, ti_sub, b2t_, b2f_, li_0, li_1, li_2, li_3, li_28, li_99, li_9999, li_m1] at j_3_
    exact wp_some_i (by subst hQ; exact g_s_2)
  · skip
    have b_4_ := b2i_bd r_1
    have j_5_ := ne_ti h_1_
    try simp (disch := omega) only [ti_add, ti_sub, b2t_, b2f_, li_0, li_1, li_2, li_3, li_28, li_99, li_9999, li_m1] at j_5_
    refine wp_bnd_i (tX10_isIn a2 1 99 s_2 g_s_2.1 ) (fun r_3 s_4 p_s_4 => ?_)
    have e_s_4 : s_4 = s_2 := p_s_4.1
    have g_s_4 : N10_ s0 s_4 := by rw [e_s_4]; exact g_s_2
    have f_s_4 := p_s_4.2
    try dsimp only at f_s_4
    try simp (disch := omega) only [ti_add, ti_sub, b2t_, b2f_, li_0, li_1, li_2, li_3, li_28, li_99, li_9999, li_m1] at f_s_4
    refine wp_if_i (fun h_6_ => ?_) (fun h_6_ => ?_)
    · skip
      have b_7_ := b2i_bd r_3
      have j_8_ := eq_ti h_6_
      try simp (disch := omega) only [ti_add, ti_sub, b2t_, b2f_, li_0, li_1, li_2, li_3, li_28, li_99, li_9999, li_m1] at j_8_
      exact wp_some_i (by subst hQ; exact g_s_4)
    · skip
      have b_9_ := b2i_bd r_3
      have j_10_ := ne_ti h_6_
      try simp (disch := omega) only [ti_add, ti_sub, b2t_, b2f_, li_0, li_1, li_2, li_3, li_28, li_99, li_9999, li_m1] at j_10_
      refine wp_bnd_i (tX10_isIn a3 0 9999 s_4 g_s_4.1 ) (fun r_5 s_6 p_s_6 => ?_)
      have e_s_6 : s_6 = s_4 := p_s_6.1
      have g_s_6 : N10_ s0 s_6 := by rw [e_s_6]; exact g_s_4
      have f_s_6 := p_s_6.2
      try dsimp only at f_s_6
      try simp (disch := omega) only [ti_add, ti_sub, b2t_, b2f_, li_0, li_1, li_2, li_3, li_28, li_99, li_9999, li_m1] at f_s_6
      refine wp_if_i (fun h_11_ => ?_) (fun h_11_ => ?_)
      · skip
        have b_12_ := b2i_bd r_5
        have j_13_ := eq_ti h_11_
        try simp (disch := omega) only [ti_add, ti_sub, b2t_, b2f_, li_0, li_1, li_2, li_3, li_28, li_99, li_9999, li_m1] at j_13_
        exact wp_some_i (by subst hQ; exact g_s_6)
      · skip
        have b_14_ := b2i_bd r_5
        have j_15_ := ne_ti h_11_
        try simp (disch := omega) only [ti_add, ti_sub, b2t_, b2f_, li_0, li_1, li_2, li_3, li_28, li_99, li_9999, li_m1] at j_15_
        apply wp_bv_i
        intro s_7 e_s_7
        have g_s_7 : N10_ s0 s_7 := by rw [e_s_7]; exact N10_.si g_s_6 (by decide) (by refine ⟨?_, ?_, ?_, ?_, ?_, ?_⟩ <;> intro x_ <;> first | omega | (simp (disch := omega) only [ti_add, ti_sub, b2t_, b2f_, li_0, li_1, li_2, li_3, li_28, li_99, li_9999, li_m1]; omega))
        apply wp_bv_i
        intro s_8 e_s_8
        have g_s_8 : N10_ s0 s_8 := by rw [e_s_8]; exact N10_.si g_s_7 (by decide) (by refine ⟨?_, ?_, ?_, ?_, ?_, ?_⟩ <;> intro x_ <;> first | omega | (simp (disch := omega) only [ti_add, ti_sub, b2t_, b2f_, li_0, li_1, li_2, li_3, li_28, li_99, li_9999, li_m1]; omega))
        apply wp_bv_i
        intro s_9 e_s_9
        have g_s_9 : N10_ s0 s_9 := by rw [e_s_9]; exact N10_.si g_s_8 (by decide) (by refine ⟨?_, ?_, ?_, ?_, ?_, ?_⟩ <;> intro x_ <;> first | omega | (simp (disch := omega) only [ti_add, ti_sub, b2t_, b2f_, li_0, li_1, li_2, li_3, li_28, li_99, li_9999, li_m1]; omega))
        exact wp_some_i (by subst hQ; exact g_s_9)
set_option maxHeartbeats 1000000 in
set_option maxRecDepth 20000 in
theorem tX10_weather (a1 : Int32) (a2 : Int32) (a3 : Int32) (s0 : Sg) (h0 : I10_ s0)  : wp_ (fX10_weather a1 a2 a3 s0) (fun q => N10_ s0 q.2) := by
  have g_s0 : N10_ s0 s0 := N10_.rf h0
  have hFU_ : FU = 1000000000 := rfl
  generalize hQ : (fun q : (Bool × Sg) => N10_ s0 q.2) = Q
  unfold fX10_weather
  rw [ixl_4, ixl_5, ixl_6]
  have L0_ := li_0
  have L1_ := li_1
  have L4_ := li_4
  have L5_ := li_5
  have L6_ := li_6
  have L9_ := li_9
  have L23_ := li_23
  have L28_ := li_28
  have M1_ := li_m1
  have M9_ := li_m9
  refine wp_bnd_i (tX10_isIn a1 0 23 s0 g_s0.1 ) (fun r_1 s_2 p_s_2 => ?_)
  have e_s_2 : s_2 = s0 := p_s_2.1
  have g_s_2 : N10_ s0 s_2 := by rw [e_s_2]; exact g_s0
  have f_s_2 := p_s_2.2
  try dsimp only at f_s_2
  try simp (disch := omega) only [ti_add, ti_sub, b2t_, b2f_, li_0, li_1, li_4, li_5, li_6, li_9, li_23, li_28, li_m1, li_m9] at f_s_2
  refine wp_if_i (fun h_1_ => ?_) (fun h_1_ => ?_)
  · skip
    have b_2_ := b2i_bd r_1
    have j_3_ := eq_ti h_1_
    try simp (disch := omega) only [ti_add, ti_sub, b2t_, b2f_, li_0, li_1, li_4, li_5, li_6, li_9, li_23, li_28, li_m1, li_m9] at j_3_
    exact wp_some_i (by subst hQ; exact g_s_2)
  · skip
    have b_4_ := b2i_bd r_1
    have j_5_ := ne_ti h_1_
    try simp (disch := omega) only [ti_add, ti_sub, b2t_, b2f_, li_0, li_1, li_4, li_5, li_6, li_9, li_23, li_28, li_m1, li_m9] at j_5_
    refine wp_bnd_i (tX10_isIn a2 0 9 s_2 g_s_2.1 ) (fun r_3 s_4 p_s_4 => ?_)
    have e_s_4 : s_4 = s_2 := p_s_4.1
    have g_s_4 : N10_ s0 s_4 := by rw [e_s_4]; exact g_s_2
    have f_s_4 := p_s_4.2
    try dsimp only at f_s_4
    try simp (disch := omega) only [ti_add, ti_sub, b2t_, b2f_, li_0, li_1, li_4, li_5, li_6, li_9, li_23, li_28, li_m1, li_m9] at f_s_4
    refine wp_if_i (fun h_6_ => ?_) (fun h_6_ => ?_)
    · skip
      have b_7_ := b2i_bd r_3
      have j_8_ := eq_ti h_6_
      try simp (disch := omega) only [ti_add, ti_sub, b2t_, b2f_, li_0, li_1, li_4, li_5, li_6, li_9, li_23, li_28, li_m1, li_m9] at j_8_
      exact wp_some_i (by subst hQ; exact g_s_4)
    · skip
      have b_9_ := b2i_bd r_3
      have j_10_ := ne_ti h_6_
      try simp (disch := omega) only [ti_add, ti_sub, b2t_, b2f_, li_0, li_1, li_4, li_5, li_6, li_9, li_23, li_28, li_m1, li_m9] at j_10_
      refine wp_bnd_i (tX10_isIn a3 (-9) 9 s_4 g_s_4.1 ) (fun r_5 s_6 p_s_6 => ?_)
      have e_s_6 : s_6 = s_4 := p_s_6.1
      have g_s_6 : N10_ s0 s_6 := by rw [e_s_6]; exact g_s_4
      have f_s_6 := p_s_6.2
      try dsimp only at f_s_6
      try simp (disch := omega) only [ti_add, ti_sub, b2t_, b2f_, li_0, li_1, li_4, li_5, li_6, li_9, li_23, li_28, li_m1, li_m9] at f_s_6
      refine wp_if_i (fun h_11_ => ?_) (fun h_11_ => ?_)
      · skip
        have b_12_ := b2i_bd r_5
        have j_13_ := eq_ti h_11_
        try simp (disch := omega) only [ti_add, ti_sub, b2t_, b2f_, li_0, li_1, li_4, li_5, li_6, li_9, li_23, li_28, li_m1, li_m9] at j_13_
        exact wp_some_i (by subst hQ; exact g_s_6)
      · skip
        have b_14_ := b2i_bd r_5
        have j_15_ := ne_ti h_11_
        try simp (disch := omega) only [ti_add, ti_sub, b2t_, b2f_, li_0, li_1, li_4, li_5, li_6, li_9, li_23, li_28, li_m1, li_m9] at j_15_
        apply wp_bv_i
        intro s_7 e_s_7
        have g_s_7 : N10_ s0 s_7 := by rw [e_s_7]; exact N10_.si g_s_6 (by decide) (by refine ⟨?_, ?_, ?_, ?_, ?_, ?_⟩ <;> intro x_ <;> first | omega | (simp (disch := omega) only [ti_add, ti_sub, b2t_, b2f_, li_0, li_1, li_4, li_5, li_6, li_9, li_23, li_28, li_m1, li_m9]; omega))
        apply wp_bv_i
        intro s_8 e_s_8
        have g_s_8 : N10_ s0 s_8 := by rw [e_s_8]; exact N10_.si g_s_7 (by decide) (by refine ⟨?_, ?_, ?_, ?_, ?_, ?_⟩ <;> intro x_ <;> first | omega | (simp (disch := omega) only [ti_add, ti_sub, b2t_, b2f_, li_0, li_1, li_4, li_5, li_6, li_9, li_23, li_28, li_m1, li_m9]; omega))
        apply wp_bv_i
        intro s_9 e_s_9
        have g_s_9 : N10_ s0 s_9 := by rw [e_s_9]; exact N10_.si g_s_8 (by decide) (by refine ⟨?_, ?_, ?_, ?_, ?_, ?_⟩ <;> intro x_ <;> first | omega | (simp (disch := omega) only [ti_add, ti_sub, b2t_, b2f_, li_0, li_1, li_4, li_5, li_6, li_9, li_23, li_28, li_m1, li_m9]; omega))
        exact wp_some_i (by subst hQ; exact g_s_9)
set_option maxHeartbeats 1000000 in
set_option maxRecDepth 20000 in
theorem tX10_end (a1 : Int32) (s0 : Sg) (h0 : I10_ s0)  : wp_ (fX10_end a1 s0) (fun q => N10_ s0 q.2) := by
  have g_s0 : N10_ s0 s0 := N10_.rf h0
  have hFU_ : FU = 1000000000 := rfl
  generalize hQ : (fun q : (Int32 × Sg) => N10_ s0 q.2) = Q
  unfold fX10_end
  have L0_ := li_0
  have L1_ := li_1
  have L4_ := li_4
  have L27_ := li_27
  have M1_ := li_m1
  have b_1_ : 0 ≤ (gi s0 27 4).toInt ∧ (gi s0 27 4).toInt ≤ 300 := g_s0.1 27 4
  refine wp_bnd_i (tX10_isIn a1 0 (gi s0 27 4) s0 g_s0.1 ) (fun r_1 s_2 p_s_2 => ?_)
  have e_s_2 : s_2 = s0 := p_s_2.1
  have g_s_2 : N10_ s0 s_2 := by rw [e_s_2]; exact g_s0
  have f_s_2 := p_s_2.2
  try dsimp only at f_s_2
  try simp (disch := omega) only [ti_add, ti_sub, b2t_, b2f_, li_0, li_1, li_4, li_27, li_m1] at f_s_2
  refine wp_if_i (fun h_2_ => ?_) (fun h_2_ => ?_)
  · skip
    have b_3_ := b2i_bd r_1
    have j_4_ := eq_ti h_2_
    try simp (disch := omega) only [ti_add, ti_sub, b2t_, b2f_, li_0, li_1, li_4, li_27, li_m1] at j_4_
    exact wp_some_i (by subst hQ; exact g_s_2)
  · skip
    have b_5_ := b2i_bd r_1
    have j_6_ := ne_ti h_2_
    try simp (disch := omega) only [ti_add, ti_sub, b2t_, b2f_, li_0, li_1, li_4, li_27, li_m1] at j_6_
    apply wp_bv_i
    intro s_3 e_s_3
    have g_s_3 : N10_ s0 s_3 := by rw [e_s_3]; exact N10_.si g_s_2 (by decide) ⟨by first | omega | (simp (disch := omega) only [ti_add, ti_sub, b2t_, b2f_, li_0, li_1, li_4, li_27, li_m1]; omega), by first | omega | (simp (disch := omega) only [ti_add, ti_sub, b2t_, b2f_, li_0, li_1, li_4, li_27, li_m1]; omega)⟩
    exact wp_some_i (by subst hQ; exact g_s_3)
set_option maxHeartbeats 1000000 in
set_option maxRecDepth 20000 in
theorem tX10_name (a1 : Int32) (a2 : Int32) (a3 : Int32) (s0 : Sg) (h0 : I10_ s0)  : wp_ (fX10_name a1 a2 a3 s0) (fun q => N10_ s0 q) := by
  have g_s0 : N10_ s0 s0 := N10_.rf h0
  have hFU_ : FU = 1000000000 := rfl
  generalize hQ : (fun q : (Sg) => N10_ s0 q) = Q
  unfold fX10_name
  rw [ixl_0, ixl_1, ixl_2]
  have L0_ := li_0
  have L1_ := li_1
  have L2_ := li_2
  have L33_ := li_33
  have M1_ := li_m1
  apply wp_bv_i
  intro s_1 e_s_1
  have g_s_1 : N10_ s0 s_1 := by rw [e_s_1]; exact N10_.si g_s0 (by decide) trivial
  apply wp_bv_i
  intro s_2 e_s_2
  have g_s_2 : N10_ s0 s_2 := by rw [e_s_2]; exact N10_.si g_s_1 (by decide) trivial
  apply wp_bv_i
  intro s_3 e_s_3
  have g_s_3 : N10_ s0 s_3 := by rw [e_s_3]; exact N10_.si g_s_2 (by decide) trivial
  exact wp_some_i (by subst hQ; exact g_s_3)
set_option maxHeartbeats 1000000 in
set_option maxRecDepth 20000 in
theorem tX10_nameNow (s0 : Sg) (h0 : I10_ s0)  : wp_ (fX10_nameNow s0) (fun q => N10_ s0 q) := by
  have g_s0 : N10_ s0 s0 := N10_.rf h0
  have hFU_ : FU = 1000000000 := rfl
  generalize hQ : (fun q : (Sg) => N10_ s0 q) = Q
  unfold fX10_nameNow
  rw [ixl_4, ixl_5, ixl_6]
  have L0_ := li_0
  have L1_ := li_1
  have L4_ := li_4
  have L5_ := li_5
  have L6_ := li_6
  have L28_ := li_28
  have M1_ := li_m1
  refine wp_bnv_i (tX10_name (gi s0 28 4) (gi s0 28 5) (gi s0 28 6) s0 g_s0.1 ) (fun s_1 p_s_1 => ?_)
  have g_s_1 := g_s0.tr p_s_1
  exact wp_some_i (by subst hQ; exact g_s_1)
set_option maxHeartbeats 1000000 in
set_option maxRecDepth 20000 in
theorem tX10_without (a1 : Int32) (s0 : Sg) (h0 : I10_ s0)  : wp_ (fX10_without a1 s0) (fun q => q.2 = s0) := by
  have g_s0 : N10_ s0 s0 := N10_.rf h0
  have hFU_ : FU = 1000000000 := rfl
  generalize hQ : (fun q : (Int32 × Sg) => q.2 = s0) = Q
  unfold fX10_without
  have L0_ := li_0
  have L1_ := li_1
  have M1_ := li_m1
  refine wp_if_i (fun h_1_ => ?_) (fun h_1_ => ?_)
  · skip
    have j_2_ := le_ti h_1_
    try simp (disch := omega) only [ti_add, ti_sub, b2t_, b2f_, li_0, li_1, li_m1] at j_2_
    exact wp_some_i (by subst hQ; exact rfl)
  · skip
    have j_3_ := nle_ti h_1_
    try simp (disch := omega) only [ti_add, ti_sub, b2t_, b2f_, li_0, li_1, li_m1] at j_3_
    exact wp_some_i (by subst hQ; exact rfl)
set_option maxHeartbeats 1000000 in
set_option maxRecDepth 20000 in
theorem tX10_beamBy (a1 : Int32) (a2 : Int32) (s0 : Sg) (h0 : I10_ s0)  : wp_ (fX10_beamBy a1 a2 s0) (fun q => q.2 = s0) := by
  have g_s0 : N10_ s0 s0 := N10_.rf h0
  have hFU_ : FU = 1000000000 := rfl
  generalize hQ : (fun q : (Int32 × Sg) => q.2 = s0) = Q
  unfold fX10_beamBy
  have L0_ := li_0
  have L1_ := li_1
  have L2_ := li_2
  have M1_ := li_m1
  refine wp_bnd_i (tX10_without a1 s0 g_s0.1 ) (fun r_1 s_2 p_s_2 => ?_)
  have e_s_2 : s_2 = s0 := p_s_2
  have g_s_2 : N10_ s0 s_2 := by rw [e_s_2]; exact g_s0
  refine wp_if_i (fun h_1_ => ?_) (fun h_1_ => ?_)
  · skip
    have j_2_ := lt_ti h_1_
    try simp (disch := omega) only [ti_add, ti_sub, b2t_, b2f_, li_0, li_1, li_2, li_m1] at j_2_
    refine wp_if_i (fun h_3_ => ?_) (fun h_3_ => ?_)
    · skip
      have j_4_ := le_ti h_3_
      try simp (disch := omega) only [ti_add, ti_sub, b2t_, b2f_, li_0, li_1, li_2, li_m1] at j_4_
      exact wp_some_i (by subst hQ; exact (by rw [e_s_2]))
    · skip
      have j_5_ := nle_ti h_3_
      try simp (disch := omega) only [ti_add, ti_sub, b2t_, b2f_, li_0, li_1, li_2, li_m1] at j_5_
      exact wp_some_i (by subst hQ; exact (by rw [e_s_2]))
  · skip
    have j_6_ := nlt_ti h_1_
    try simp (disch := omega) only [ti_add, ti_sub, b2t_, b2f_, li_0, li_1, li_2, li_m1] at j_6_
    exact wp_some_i (by subst hQ; exact (by rw [e_s_2]))
set_option maxHeartbeats 1000000 in
set_option maxRecDepth 20000 in
theorem tX10_moment (a1 : Int32) (a2 : Int32) (s0 : Sg) (h0 : I10_ s0)  : wp_ (fX10_moment a1 a2 s0) (fun q => q.2 = s0) := by
  have g_s0 : N10_ s0 s0 := N10_.rf h0
  have hFU_ : FU = 1000000000 := rfl
  generalize hQ : (fun q : (Int32 × Sg) => q.2 = s0) = Q
  unfold fX10_moment
  rw [ixl_1, ixl_2, ixl_6]
  have L0_ := li_0
  have L1_ := li_1
  have L2_ := li_2
  have L6_ := li_6
  have L10_ := li_10
  have L28_ := li_28
  have M1_ := li_m1
  try have m_1_ := tm_10 (x := (gi s0 28 6)) (by omega) (by omega)
  try have m_2_ := ti_sub (x := ((gi s0 28 1) * a1)) (y := ((gi s0 28 2) * a2)) (by omega) (by omega)
  exact wp_some_i (by subst hQ; exact rfl)
set_option maxHeartbeats 1000000 in
set_option maxRecDepth 20000 in
theorem tX10_forget (s0 : Sg) (h0 : I10_ s0)  : wp_ (fX10_forget s0) (fun q => N10_ s0 q.2) := by
  have g_s0 : N10_ s0 s0 := N10_.rf h0
  have hFU_ : FU = 1000000000 := rfl
  generalize hQ : (fun q : (Int32 × Sg) => N10_ s0 q.2) = Q
  unfold fX10_forget
  rw [ixl_10]
  have L0_ := li_0
  have L1_ := li_1
  have L10_ := li_10
  have L28_ := li_28
  have M1_ := li_m1
  have b_1_ : 0 ≤ (gi s0 28 10).toInt ∧ (gi s0 28 10).toInt ≤ 10 := (g_s0.1 28 10).2.2.2.2.1 rfl
  apply wp_bv_i
  intro v_1 e_v_1
  have j_2_ := eq_ti e_v_1
  try simp (disch := omega) only [ti_add, ti_sub, b2t_, b2f_, li_0, li_1, li_10, li_28, li_m1] at j_2_
  apply wp_bv_i
  intro s_2 e_s_2
  have g_s_2 : N10_ s0 s_2 := by rw [e_s_2]; exact N10_.si g_s0 (by decide) (by refine ⟨?_, ?_, ?_, ?_, ?_, ?_⟩ <;> intro x_ <;> first | omega | (simp (disch := omega) only [ti_add, ti_sub, b2t_, b2f_, li_0, li_1, li_10, li_28, li_m1]; omega))
  exact wp_some_i (by subst hQ; exact g_s_2)
set_option maxHeartbeats 1000000 in
set_option maxRecDepth 20000 in
theorem tX10_fault (a1 : Int32) (s0 : Sg) (h0 : I10_ s0)  : wp_ (fX10_fault a1 s0) (fun q => q.2 = s0) := by
  have g_s0 : N10_ s0 s0 := N10_.rf h0
  have hFU_ : FU = 1000000000 := rfl
  generalize hQ : (fun q : (Int32 × Sg) => q.2 = s0) = Q
  unfold fX10_fault
  have L0_ := li_0
  have L1_ := li_1
  have L5_ := li_5
  have L6_ := li_6
  have L27_ := li_27
  have M1_ := li_m1
  refine wp_if_i (fun h_1_ => ?_) (fun h_1_ => ?_)
  · skip
    have j_2_ := eq_ti h_1_
    try simp (disch := omega) only [ti_add, ti_sub, b2t_, b2f_, li_0, li_1, li_5, li_6, li_27, li_m1] at j_2_
    exact wp_some_i (by subst hQ; exact rfl)
  · skip
    have j_3_ := ne_ti h_1_
    try simp (disch := omega) only [ti_add, ti_sub, b2t_, b2f_, li_0, li_1, li_5, li_6, li_27, li_m1] at j_3_
    refine wp_if_i (fun h_4_ => ?_) (fun h_4_ => ?_)
    · skip
      have j_5_ := eq_ti h_4_
      try simp (disch := omega) only [ti_add, ti_sub, b2t_, b2f_, li_0, li_1, li_5, li_6, li_27, li_m1] at j_5_
      exact wp_some_i (by subst hQ; exact rfl)
    · skip
      have j_6_ := ne_ti h_4_
      try simp (disch := omega) only [ti_add, ti_sub, b2t_, b2f_, li_0, li_1, li_5, li_6, li_27, li_m1] at j_6_
      exact wp_some_i (by subst hQ; exact rfl)
set_option maxHeartbeats 1000000 in
set_option maxRecDepth 20000 in
theorem tX10_by (a1 : Int32) (s0 : Sg) (h0 : I10_ s0)  : wp_ (fX10_by a1 s0) (fun q => N10_ s0 q.2) := by
  have g_s0 : N10_ s0 s0 := N10_.rf h0
  have hFU_ : FU = 1000000000 := rfl
  generalize hQ : (fun q : (Bool × Sg) => N10_ s0 q.2) = Q
  unfold fX10_by
  rw [ixl_7, ixl_8]
  have L0_ := li_0
  have L1_ := li_1
  have L7_ := li_7
  have L8_ := li_8
  have L28_ := li_28
  have M1_ := li_m1
  have b_1_ : 0 ≤ (gi s0 28 7).toInt ∧ (gi s0 28 7).toInt ≤ 4 := (g_s0.1 28 7).2.1 rfl
  try have m_2_ := ti_sub (x := (gi s0 28 7)) (y := 1) (by omega) (by omega)
  refine wp_bnd_i (tX10_isIn a1 (-1) ((gi s0 28 7) - 1) s0 g_s0.1 ) (fun r_1 s_2 p_s_2 => ?_)
  have e_s_2 : s_2 = s0 := p_s_2.1
  have g_s_2 : N10_ s0 s_2 := by rw [e_s_2]; exact g_s0
  have f_s_2 := p_s_2.2
  try dsimp only at f_s_2
  try simp (disch := omega) only [ti_add, ti_sub, b2t_, b2f_, li_0, li_1, li_7, li_8, li_28, li_m1] at f_s_2
  refine wp_if_i (fun h_3_ => ?_) (fun h_3_ => ?_)
  · skip
    have b_4_ := b2i_bd r_1
    have j_5_ := eq_ti h_3_
    try simp (disch := omega) only [ti_add, ti_sub, b2t_, b2f_, li_0, li_1, li_7, li_8, li_28, li_m1] at j_5_
    exact wp_some_i (by subst hQ; exact g_s_2)
  · skip
    have b_6_ := b2i_bd r_1
    have j_7_ := ne_ti h_3_
    try simp (disch := omega) only [ti_add, ti_sub, b2t_, b2f_, li_0, li_1, li_7, li_8, li_28, li_m1] at j_7_
    apply wp_bv_i
    intro s_3 e_s_3
    have g_s_3 : N10_ s0 s_3 := by rw [e_s_3]; exact N10_.si g_s_2 (by decide) (by refine ⟨?_, ?_, ?_, ?_, ?_, ?_⟩ <;> intro x_ <;> first | omega | (simp (disch := omega) only [ti_add, ti_sub, b2t_, b2f_, li_0, li_1, li_7, li_8, li_28, li_m1]; omega))
    exact wp_some_i (by subst hQ; exact g_s_3)
set_option maxHeartbeats 1000000 in
set_option maxRecDepth 20000 in
theorem tX10_thingAt (a1 : Int32) (s0 : Sg) (h0 : I10_ s0) (ha : -1 ≤ a1.toInt ∧ a1.toInt ≤ 12) : wp_ (fX10_thingAt a1 s0) (fun q => q.2 = s0 ∧ (q.1.toInt = 15 + 3 * a1.toInt)) := by
  have g_s0 : N10_ s0 s0 := N10_.rf h0
  have hFU_ : FU = 1000000000 := rfl
  generalize hQ : (fun q : (Int32 × Sg) => q.2 = s0 ∧ (q.1.toInt = 15 + 3 * a1.toInt)) = Q
  unfold fX10_thingAt
  have L0_ := li_0
  have L1_ := li_1
  have L3_ := li_3
  have L15_ := li_15
  have M1_ := li_m1
  try have m_1_ := tm_3 (x := a1) (by omega) (by omega)
  exact wp_some_i (by subst hQ; exact ⟨rfl, (by dsimp only; first | omega | (simp (disch := omega) only [ti_add, ti_sub, b2t_, b2f_, li_0, li_1, li_3, li_15, li_m1]; omega))⟩)
set_option maxHeartbeats 1000000 in
set_option maxRecDepth 20000 in
theorem tX10_isThing (a1 : Int32) (s0 : Sg) (h0 : I10_ s0)  : wp_ (fX10_isThing a1 s0) (fun q => q.2 = s0 ∧ ((b2i q.1).toInt = 0 ∨ (0 ≤ a1.toInt ∧ a1.toInt < (gi s0 28 0).toInt))) := by
  have g_s0 : N10_ s0 s0 := N10_.rf h0
  have hFU_ : FU = 1000000000 := rfl
  generalize hQ : (fun q : (Bool × Sg) => q.2 = s0 ∧ ((b2i q.1).toInt = 0 ∨ (0 ≤ a1.toInt ∧ a1.toInt < (gi s0 28 0).toInt))) = Q
  unfold fX10_isThing
  rw [ixl_0]
  have L0_ := li_0
  have L1_ := li_1
  have L28_ := li_28
  have M1_ := li_m1
  have b_1_ : 0 ≤ (gi s0 28 0).toInt ∧ (gi s0 28 0).toInt ≤ 12 := (g_s0.1 28 0).1 rfl
  try have m_2_ := ti_sub (x := (gi s0 28 0)) (y := 1) (by omega) (by omega)
  refine wp_bnd_i (tX10_isIn a1 0 ((gi s0 28 0) - 1) s0 g_s0.1 ) (fun r_1 s_2 p_s_2 => ?_)
  have e_s_2 : s_2 = s0 := p_s_2.1
  have g_s_2 : N10_ s0 s_2 := by rw [e_s_2]; exact g_s0
  have f_s_2 := p_s_2.2
  try dsimp only at f_s_2
  try simp (disch := omega) only [ti_add, ti_sub, b2t_, b2f_, li_0, li_1, li_28, li_m1] at f_s_2
  exact wp_some_i (by subst hQ; exact ⟨(by rw [e_s_2]), (by dsimp only; omega)⟩)
set_option maxHeartbeats 1000000 in
set_option maxRecDepth 20000 in
theorem tX10_panOf (a1 : Int32) (s0 : Sg) (h0 : I10_ s0) (ha : 0 ≤ a1.toInt ∧ a1.toInt ≤ 11) : wp_ (fX10_panOf a1 s0) (fun q => q.2 = s0) := by
  have g_s0 : N10_ s0 s0 := N10_.rf h0
  have hFU_ : FU = 1000000000 := rfl
  generalize hQ : (fun q : (Int32 × Sg) => q.2 = s0) = Q
  unfold fX10_panOf
  have L0_ := li_0
  have L1_ := li_1
  have L2_ := li_2
  have L28_ := li_28
  have L720_ := li_720
  have M1_ := li_m1
  refine wp_bnd_i (tX10_thingAt a1 s0 g_s0.1 (by first | omega | (simp (disch := omega) only [ti_add, ti_sub, b2t_, b2f_, li_0, li_1, li_2, li_28, li_720, li_m1]; omega))) (fun r_1 s_2 p_s_2 => ?_)
  have e_s_2 : s_2 = s0 := p_s_2.1
  have g_s_2 : N10_ s0 s_2 := by rw [e_s_2]; exact g_s0
  have f_s_2 := p_s_2.2
  try dsimp only at f_s_2
  try simp (disch := omega) only [ti_add, ti_sub, b2t_, b2f_, li_0, li_1, li_2, li_28, li_720, li_m1] at f_s_2
  try have m_1_ := ti_add (x := r_1) (y := 2) (by omega) (by omega)
  refine wp_chk_i (inb_ti (by first | omega | (simp (disch := omega) only [ti_add, ti_sub, b2t_, b2f_, li_0, li_1, li_2, li_28, li_720, li_m1]; omega)) (by first | omega | (simp (disch := omega) only [ti_add, ti_sub, b2t_, b2f_, li_0, li_1, li_2, li_28, li_720, li_m1]; omega))) ?_
  exact wp_some_i (by subst hQ; exact (by rw [e_s_2]))
set_option maxHeartbeats 1000000 in
set_option maxRecDepth 20000 in
theorem tX10_thing (a1 : Int32) (a2 : Int32) (s0 : Sg) (h0 : I10_ s0)  : wp_ (fX10_thing a1 a2 s0) (fun q => N10_ s0 q.2) := by
  have g_s0 : N10_ s0 s0 := N10_.rf h0
  have hFU_ : FU = 1000000000 := rfl
  generalize hQ : (fun q : (Int32 × Sg) => N10_ s0 q.2) = Q
  unfold fX10_thing
  rw [ixl_0]
  have L0_ := li_0
  have L1_ := li_1
  have L2_ := li_2
  have L9_ := li_9
  have L12_ := li_12
  have L28_ := li_28
  have L720_ := li_720
  have L999_ := li_999
  have M1_ := li_m1
  refine wp_bnd_i (tX10_isIn a1 1 999 s0 g_s0.1 ) (fun r_1 s_2 p_s_2 => ?_)
  have e_s_2 : s_2 = s0 := p_s_2.1
  have g_s_2 : N10_ s0 s_2 := by rw [e_s_2]; exact g_s0
  have f_s_2 := p_s_2.2
  try dsimp only at f_s_2
  try simp (disch := omega) only [ti_add, ti_sub, b2t_, b2f_, li_0, li_1, li_2, li_9, li_12, li_28, li_720, li_999, li_m1] at f_s_2
  refine wp_if_i (fun h_1_ => ?_) (fun h_1_ => ?_)
  · skip
    have b_2_ := b2i_bd r_1
    have j_3_ := eq_ti h_1_
    try simp (disch := omega) only [ti_add, ti_sub, b2t_, b2f_, li_0, li_1, li_2, li_9, li_12, li_28, li_720, li_999, li_m1] at j_3_
    exact wp_some_i (by subst hQ; exact g_s_2)
  · skip
    have b_4_ := b2i_bd r_1
    have j_5_ := ne_ti h_1_
    try simp (disch := omega) only [ti_add, ti_sub, b2t_, b2f_, li_0, li_1, li_2, li_9, li_12, li_28, li_720, li_999, li_m1] at j_5_
    refine wp_bnd_i (tX10_isIn a2 0 9 s_2 g_s_2.1 ) (fun r_3 s_4 p_s_4 => ?_)
    have e_s_4 : s_4 = s_2 := p_s_4.1
    have g_s_4 : N10_ s0 s_4 := by rw [e_s_4]; exact g_s_2
    have f_s_4 := p_s_4.2
    try dsimp only at f_s_4
    try simp (disch := omega) only [ti_add, ti_sub, b2t_, b2f_, li_0, li_1, li_2, li_9, li_12, li_28, li_720, li_999, li_m1] at f_s_4
    refine wp_if_i (fun h_6_ => ?_) (fun h_6_ => ?_)
    · skip
      have b_7_ := b2i_bd r_3
      have j_8_ := eq_ti h_6_
      try simp (disch := omega) only [ti_add, ti_sub, b2t_, b2f_, li_0, li_1, li_2, li_9, li_12, li_28, li_720, li_999, li_m1] at j_8_
      exact wp_some_i (by subst hQ; exact g_s_4)
    · skip
      have b_9_ := b2i_bd r_3
      have j_10_ := ne_ti h_6_
      try simp (disch := omega) only [ti_add, ti_sub, b2t_, b2f_, li_0, li_1, li_2, li_9, li_12, li_28, li_720, li_999, li_m1] at j_10_
      refine wp_if_i (fun h_11_ => ?_) (fun h_11_ => ?_)
      · skip
        have b_12_ : 0 ≤ (gi s0 28 0).toInt ∧ (gi s0 28 0).toInt ≤ 12 := (g_s0.1 28 0).1 rfl
        have r_13_ : (gi s_2 28 0).toInt = (gi s0 28 0).toInt := by rw [e_s_2]
        have b_14_ : 0 ≤ (gi s_2 28 0).toInt ∧ (gi s_2 28 0).toInt ≤ 12 := (g_s_2.1 28 0).1 rfl
        have r_15_ : (gi s_4 28 0).toInt = (gi s_2 28 0).toInt := by rw [e_s_4]
        have b_16_ : 0 ≤ (gi s_4 28 0).toInt ∧ (gi s_4 28 0).toInt ≤ 12 := (g_s_4.1 28 0).1 rfl
        have j_17_ := eq_ti h_11_
        try simp (disch := omega) only [ti_add, ti_sub, b2t_, b2f_, li_0, li_1, li_2, li_9, li_12, li_28, li_720, li_999, li_m1] at j_17_
        exact wp_some_i (by subst hQ; exact g_s_4)
      · skip
        have b_18_ : 0 ≤ (gi s0 28 0).toInt ∧ (gi s0 28 0).toInt ≤ 12 := (g_s0.1 28 0).1 rfl
        have r_19_ : (gi s_2 28 0).toInt = (gi s0 28 0).toInt := by rw [e_s_2]
        have b_20_ : 0 ≤ (gi s_2 28 0).toInt ∧ (gi s_2 28 0).toInt ≤ 12 := (g_s_2.1 28 0).1 rfl
        have r_21_ : (gi s_4 28 0).toInt = (gi s_2 28 0).toInt := by rw [e_s_4]
        have b_22_ : 0 ≤ (gi s_4 28 0).toInt ∧ (gi s_4 28 0).toInt ≤ 12 := (g_s_4.1 28 0).1 rfl
        have j_23_ := ne_ti h_11_
        try simp (disch := omega) only [ti_add, ti_sub, b2t_, b2f_, li_0, li_1, li_2, li_9, li_12, li_28, li_720, li_999, li_m1] at j_23_
        refine wp_bnd_i (tX10_thingAt (gi s_4 28 0) s_4 g_s_4.1 (by first | omega | (simp (disch := omega) only [ti_add, ti_sub, b2t_, b2f_, li_0, li_1, li_2, li_9, li_12, li_28, li_720, li_999, li_m1]; omega))) (fun r_5 s_6 p_s_6 => ?_)
        have e_s_6 : s_6 = s_4 := p_s_6.1
        have g_s_6 : N10_ s0 s_6 := by rw [e_s_6]; exact g_s_4
        have f_s_6 := p_s_6.2
        try dsimp only at f_s_6
        try simp (disch := omega) only [ti_add, ti_sub, b2t_, b2f_, li_0, li_1, li_2, li_9, li_12, li_28, li_720, li_999, li_m1] at f_s_6
        refine wp_chk_i (inb_ti (by first | omega | (simp (disch := omega) only [ti_add, ti_sub, b2t_, b2f_, li_0, li_1, li_2, li_9, li_12, li_28, li_720, li_999, li_m1]; omega)) (by first | omega | (simp (disch := omega) only [ti_add, ti_sub, b2t_, b2f_, li_0, li_1, li_2, li_9, li_12, li_28, li_720, li_999, li_m1]; omega))) ?_
        have x_24_ : ix r_5 = (r_5).toInt.toNat := rfl
        apply wp_bv_i
        intro s_8 e_s_8
        have g_s_8 : N10_ s0 s_8 := by rw [e_s_8]; exact N10_.si g_s_6 (by decide) (by refine ⟨?_, ?_, ?_, ?_, ?_, ?_⟩ <;> intro x_ <;> first | omega | (simp (disch := omega) only [ti_add, ti_sub, b2t_, b2f_, li_0, li_1, li_2, li_9, li_12, li_28, li_720, li_999, li_m1]; omega))
        have r_25_ : (gi s_6 28 0).toInt = (gi s_4 28 0).toInt := by rw [e_s_6]
        have b_26_ : 0 ≤ (gi s_6 28 0).toInt ∧ (gi s_6 28 0).toInt ≤ 12 := (g_s_6.1 28 0).1 rfl
        have r_27_ : (gi s_8 28 0).toInt = (gi s_6 28 0).toInt := by rw [e_s_8]; rw [gsi_ne (by first | decide | omega)]
        have b_28_ : 0 ≤ (gi s_8 28 0).toInt ∧ (gi s_8 28 0).toInt ≤ 12 := (g_s_8.1 28 0).1 rfl
        refine wp_bnd_i (tX10_thingAt (gi s_8 28 0) s_8 g_s_8.1 (by first | omega | (simp (disch := omega) only [ti_add, ti_sub, b2t_, b2f_, li_0, li_1, li_2, li_9, li_12, li_28, li_720, li_999, li_m1]; omega))) (fun r_9 s_10 p_s_10 => ?_)
        have e_s_10 : s_10 = s_8 := p_s_10.1
        have g_s_10 : N10_ s0 s_10 := by rw [e_s_10]; exact g_s_8
        have f_s_10 := p_s_10.2
        try dsimp only at f_s_10
        try simp (disch := omega) only [ti_add, ti_sub, b2t_, b2f_, li_0, li_1, li_2, li_9, li_12, li_28, li_720, li_999, li_m1] at f_s_10
        try have m_29_ := ti_add (x := r_9) (y := 1) (by omega) (by omega)
        refine wp_chk_i (inb_ti (by first | omega | (simp (disch := omega) only [ti_add, ti_sub, b2t_, b2f_, li_0, li_1, li_2, li_9, li_12, li_28, li_720, li_999, li_m1]; omega)) (by first | omega | (simp (disch := omega) only [ti_add, ti_sub, b2t_, b2f_, li_0, li_1, li_2, li_9, li_12, li_28, li_720, li_999, li_m1]; omega))) ?_
        have x_30_ : ix (r_9 + 1) = ((r_9 + 1)).toInt.toNat := rfl
        apply wp_bv_i
        intro s_12 e_s_12
        have g_s_12 : N10_ s0 s_12 := by rw [e_s_12]; exact N10_.si g_s_10 (by decide) (by refine ⟨?_, ?_, ?_, ?_, ?_, ?_⟩ <;> intro x_ <;> first | omega | (simp (disch := omega) only [ti_add, ti_sub, b2t_, b2f_, li_0, li_1, li_2, li_9, li_12, li_28, li_720, li_999, li_m1]; omega))
        have r_31_ : (gi s_10 28 0).toInt = (gi s_8 28 0).toInt := by rw [e_s_10]
        have b_32_ : 0 ≤ (gi s_10 28 0).toInt ∧ (gi s_10 28 0).toInt ≤ 12 := (g_s_10.1 28 0).1 rfl
        have r_33_ : (gi s_12 28 0).toInt = (gi s_10 28 0).toInt := by rw [e_s_12]; rw [gsi_ne (by first | decide | omega)]
        have b_34_ : 0 ≤ (gi s_12 28 0).toInt ∧ (gi s_12 28 0).toInt ≤ 12 := (g_s_12.1 28 0).1 rfl
        refine wp_bnd_i (tX10_thingAt (gi s_12 28 0) s_12 g_s_12.1 (by first | omega | (simp (disch := omega) only [ti_add, ti_sub, b2t_, b2f_, li_0, li_1, li_2, li_9, li_12, li_28, li_720, li_999, li_m1]; omega))) (fun r_13 s_14 p_s_14 => ?_)
        have e_s_14 : s_14 = s_12 := p_s_14.1
        have g_s_14 : N10_ s0 s_14 := by rw [e_s_14]; exact g_s_12
        have f_s_14 := p_s_14.2
        try dsimp only at f_s_14
        try simp (disch := omega) only [ti_add, ti_sub, b2t_, b2f_, li_0, li_1, li_2, li_9, li_12, li_28, li_720, li_999, li_m1] at f_s_14
        try have m_35_ := ti_add (x := r_13) (y := 2) (by omega) (by omega)
        refine wp_chk_i (inb_ti (by first | omega | (simp (disch := omega) only [ti_add, ti_sub, b2t_, b2f_, li_0, li_1, li_2, li_9, li_12, li_28, li_720, li_999, li_m1]; omega)) (by first | omega | (simp (disch := omega) only [ti_add, ti_sub, b2t_, b2f_, li_0, li_1, li_2, li_9, li_12, li_28, li_720, li_999, li_m1]; omega))) ?_
        have x_36_ : ix (r_13 + 2) = ((r_13 + 2)).toInt.toNat := rfl
        apply wp_bv_i
        intro s_16 e_s_16
        have g_s_16 : N10_ s0 s_16 := by rw [e_s_16]; exact N10_.si g_s_14 (by decide) (by refine ⟨?_, ?_, ?_, ?_, ?_, ?_⟩ <;> intro x_ <;> first | omega | (simp (disch := omega) only [ti_add, ti_sub, b2t_, b2f_, li_0, li_1, li_2, li_9, li_12, li_28, li_720, li_999, li_m1]; omega))
        have r_37_ : (gi s_14 28 0).toInt = (gi s_12 28 0).toInt := by rw [e_s_14]
        have b_38_ : 0 ≤ (gi s_14 28 0).toInt ∧ (gi s_14 28 0).toInt ≤ 12 := (g_s_14.1 28 0).1 rfl
        have r_39_ : (gi s_16 28 0).toInt = (gi s_14 28 0).toInt := by rw [e_s_16]; rw [gsi_ne (by first | decide | omega)]
        have b_40_ : 0 ≤ (gi s_16 28 0).toInt ∧ (gi s_16 28 0).toInt ≤ 12 := (g_s_16.1 28 0).1 rfl
        try have m_41_ := ti_add (x := (gi s_16 28 0)) (y := 1) (by omega) (by omega)
        apply wp_bv_i
        intro s_17 e_s_17
        have g_s_17 : N10_ s0 s_17 := by rw [e_s_17]; exact N10_.si g_s_16 (by decide) (by refine ⟨?_, ?_, ?_, ?_, ?_, ?_⟩ <;> intro x_ <;> first | omega | (simp (disch := omega) only [ti_add, ti_sub, b2t_, b2f_, li_0, li_1, li_2, li_9, li_12, li_28, li_720, li_999, li_m1]; omega))
        have r_42_ : (gi s_17 28 0).toInt = ((((gi s_16 28 0) + 1) : Int32)).toInt := by rw [e_s_17]; rw [gsi_eq]
        try simp (disch := omega) only [ti_add, ti_sub, b2t_, b2f_, li_0, li_1, li_2, li_9, li_12, li_28, li_720, li_999, li_m1] at r_42_
        have b_43_ : 0 ≤ (gi s_17 28 0).toInt ∧ (gi s_17 28 0).toInt ≤ 12 := (g_s_17.1 28 0).1 rfl
        exact wp_some_i (by subst hQ; exact g_s_17)
set_option maxHeartbeats 1000000 in
set_option maxRecDepth 20000 in
theorem lX10_bits_4_b {Q : (Int32 × Sg) → Prop} (S_ : Sg) (hI_ : I10_ S_) (a1 : Int32) (s0 : Sg) (hsome : ∀ q : (Int32 × Sg), q.2 = S_ → Q q) (e_s0 : s0 = S_)  : ∀ (n : Nat) (x1_1 : Int32) (x2_2 : Int32), 0 ≤ x2_2.toInt → (12 - x2_2.toInt).toNat < n → wp_ (lo2 (fX10_bits_4_b a1 s0) n x1_1 x2_2) Q := by
  intro n
  induction n with
  | zero =>
    intro x1_1 x2_2 _ hm_
    exact absurd hm_ (Nat.not_lt_zero _)
  | succ n ih =>
    intro x1_1 x2_2 i0_ hm_
    show wp_ (fX10_bits_4_b a1 s0 (lo2 (fX10_bits_4_b a1 s0) n) x1_1 x2_2) Q
    have hrec := ih
    generalize lo2 (fX10_bits_4_b a1 s0) n = rc at hrec ⊢
    clear ih
    have hFU_ : FU = 1000000000 := rfl
    unfold fX10_bits_4_b
    have L0_ := li_0
    have L1_ := li_1
    have L12_ := li_12
    have L31_ := li_31
    have M1_ := li_m1
    have g_s0 : N10_ S_ s0 := by rw [e_s0]; exact N10_.rf hI_
    refine wp_if_i (fun h_1_ => ?_) (fun h_1_ => ?_)
    · skip
      have j_2_ := le_ti h_1_
      try simp (disch := omega) only [ti_add, ti_sub, b2t_, b2f_, li_0, li_1, li_12, li_31, li_m1] at j_2_
      exact wp_some_i (hsome (x1_1, s0) (by rw [e_s0]))
    · skip
      have j_3_ := nle_ti h_1_
      try simp (disch := omega) only [ti_add, ti_sub, b2t_, b2f_, li_0, li_1, li_12, li_31, li_m1] at j_3_
      apply wp_bv_i
      intro v_3 e_v_3
      have j_4_ := eq_ti e_v_3
      try simp (disch := omega) only [ti_add, ti_sub, b2t_, b2f_, li_0, li_1, li_12, li_31, li_m1] at j_4_
      apply wp_bv_i
      intro v_4 e_v_4
      have j_5_ := eq_ti e_v_4
      try simp (disch := omega) only [ti_add, ti_sub, b2t_, b2f_, li_0, li_1, li_12, li_31, li_m1] at j_5_
      exact hrec v_3 v_4  (by first | omega | (simp (disch := omega) only [ti_add, ti_sub, b2t_, b2f_, li_0, li_1, li_12, li_31, li_m1]; omega)) (by first | omega | (simp (disch := omega) only [ti_add, ti_sub, b2t_, b2f_, li_0, li_1, li_12, li_31, li_m1]; omega))
set_option maxHeartbeats 1000000 in
set_option maxRecDepth 20000 in
theorem tX10_bits (a1 : Int32) (s0 : Sg) (h0 : I10_ s0)  : wp_ (fX10_bits a1 s0) (fun q => q.2 = s0) := by
  have g_s0 : N10_ s0 s0 := N10_.rf h0
  have hFU_ : FU = 1000000000 := rfl
  generalize hQ : (fun q : (Int32 × Sg) => q.2 = s0) = Q
  unfold fX10_bits
  have L0_ := li_0
  have L1_ := li_1
  have M1_ := li_m1
  exact lX10_bits_4_b s0 g_s0.1 a1 s0  (fun q hq => by subst hQ; exact hq.trans rfl) rfl  FU 0 0  (by first | omega | (simp (disch := omega) only [ti_add, ti_sub, b2t_, b2f_, li_0, li_1, li_m1]; omega)) (by first | omega | (simp (disch := omega) only [ti_add, ti_sub, b2t_, b2f_, li_0, li_1, li_m1]; omega))
set_option maxHeartbeats 1000000 in
set_option maxRecDepth 20000 in
theorem lX10_lying_4_b {Q : (Int32 × Sg) → Prop} (S_ : Sg) (hI_ : I10_ S_) (a1 : Int32) (hsome : ∀ q : (Int32 × Sg), q.2 = S_ → Q q)  : ∀ (n : Nat) (x2_1 : Int32) (x3_2 : Int32) (s_3 : Sg), s_3 = S_ → 0 ≤ x3_2.toInt → (12 - x3_2.toInt).toNat < n → wp_ (lo3 (fX10_lying_4_b a1) n x2_1 x3_2 s_3) Q := by
  intro n
  induction n with
  | zero =>
    intro x2_1 x3_2 s_3 _ _ hm_
    exact absurd hm_ (Nat.not_lt_zero _)
  | succ n ih =>
    intro x2_1 x3_2 s_3 e_s_3 i0_ hm_
    show wp_ (fX10_lying_4_b a1 (lo3 (fX10_lying_4_b a1) n) x2_1 x3_2 s_3) Q
    have hrec := ih
    generalize lo3 (fX10_lying_4_b a1) n = rc at hrec ⊢
    clear ih
    have hFU_ : FU = 1000000000 := rfl
    unfold fX10_lying_4_b
    rw [ixl_0]
    have L0_ := li_0
    have L1_ := li_1
    have L28_ := li_28
    have L31_ := li_31
    have M1_ := li_m1
    have g_s_3 : N10_ S_ s_3 := by rw [e_s_3]; exact N10_.rf hI_
    refine wp_if_i (fun h_1_ => ?_) (fun h_1_ => ?_)
    · skip
      have b_2_ : 0 ≤ (gi S_ 28 0).toInt ∧ (gi S_ 28 0).toInt ≤ 12 := ((N10_.rf hI_).1 28 0).1 rfl
      have r_3_ : (gi s_3 28 0).toInt = (gi S_ 28 0).toInt := by rw [e_s_3]
      have b_4_ : 0 ≤ (gi s_3 28 0).toInt ∧ (gi s_3 28 0).toInt ≤ 12 := (g_s_3.1 28 0).1 rfl
      have j_5_ := le_ti h_1_
      try simp (disch := omega) only [ti_add, ti_sub, b2t_, b2f_, li_0, li_1, li_28, li_31, li_m1] at j_5_
      exact wp_some_i (hsome (x2_1, s_3) (by rw [e_s_3]))
    · skip
      have b_6_ : 0 ≤ (gi S_ 28 0).toInt ∧ (gi S_ 28 0).toInt ≤ 12 := ((N10_.rf hI_).1 28 0).1 rfl
      have r_7_ : (gi s_3 28 0).toInt = (gi S_ 28 0).toInt := by rw [e_s_3]
      have b_8_ : 0 ≤ (gi s_3 28 0).toInt ∧ (gi s_3 28 0).toInt ≤ 12 := (g_s_3.1 28 0).1 rfl
      have j_9_ := nle_ti h_1_
      try simp (disch := omega) only [ti_add, ti_sub, b2t_, b2f_, li_0, li_1, li_28, li_31, li_m1] at j_9_
      refine wp_bnd_i (tX10_panOf x3_2 s_3 g_s_3.1 (by first | omega | (simp (disch := omega) only [ti_add, ti_sub, b2t_, b2f_, li_0, li_1, li_28, li_31, li_m1]; omega))) (fun r_4 s_5 p_s_5 => ?_)
      have e_s_5 : s_5 = s_3 := p_s_5
      have g_s_5 : N10_ S_ s_5 := by rw [e_s_5]; exact g_s_3
      refine wp_jn (fun k_8 => ∀ (y_6 : Int32) (y_7 : Int32), wp_ (k_8 y_6 y_7) Q) ?_ (fun k_8 hk_8 => ?_)
      · intro y_6 y_7
        try dsimp only
        apply wp_bv_i
        intro v_9 e_v_9
        have j_10_ := eq_ti e_v_9
        try simp (disch := omega) only [ti_add, ti_sub, b2t_, b2f_, li_0, li_1, li_28, li_31, li_m1] at j_10_
        apply wp_bv_i
        intro v_10 e_v_10
        have j_11_ := eq_ti e_v_10
        try simp (disch := omega) only [ti_add, ti_sub, b2t_, b2f_, li_0, li_1, li_28, li_31, li_m1] at j_11_
        exact hrec v_9 v_10 s_5 (by rw [e_s_5, e_s_3]) (by first | omega | (simp (disch := omega) only [ti_add, ti_sub, b2t_, b2f_, li_0, li_1, li_28, li_31, li_m1]; omega)) (by first | omega | (simp (disch := omega) only [ti_add, ti_sub, b2t_, b2f_, li_0, li_1, li_28, li_31, li_m1]; omega))
      refine wp_if_i (fun h_12_ => ?_) (fun h_12_ => ?_)
      · skip
        have j_13_ := eq_ti h_12_
        try simp (disch := omega) only [ti_add, ti_sub, b2t_, b2f_, li_0, li_1, li_28, li_31, li_m1] at j_13_
        exact hk_8 x2_1 (1 <<< (x3_2 &&& 31))  
      · skip
        have j_14_ := ne_ti h_12_
        try simp (disch := omega) only [ti_add, ti_sub, b2t_, b2f_, li_0, li_1, li_28, li_31, li_m1] at j_14_
        exact hk_8 x2_1 0  
