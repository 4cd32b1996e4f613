set_option maxHeartbeats 1000000 in
set_option maxRecDepth 20000 in
theorem tkX10_beam (a1 : Int32) (a2 : Int32) (a3 : Int32) (s0 : Sg) (h0 : I10_ s0)  : wp_ (fX10_beam a1 a2 a3 s0) (fun q => Z10_ s0 q.2) := by
  have g_s0 : Z10_ s0 s0 := Z10_.rf h0
  have hFU_ : FU = 1000000000 := rfl
  generalize hQ : (fun q : (Bool × Sg) => Z10_ s0 q.2) = Q
  unfold fX10_beam
  rw [ixl_1, ixl_2, ixl_3]
  have L0_ := li_0
  have L1_ := li_1
  have L2_ := li_2
  have L3_ := li_3
  have L28_ := li_28
  have L99_ := li_99
  have L9999_ := li_9999
  have M1_ := li_m1
  refine wp_bnd_i (tX10_isIn a1 1 99 s0 g_s0.1 ) (fun r_1 s_2 p_s_2 => ?_)
  have e_s_2 : s_2 = s0 := p_s_2.1
  have g_s_2 : Z10_ s0 s_2 := by rw [e_s_2]; exact g_s0
  have f_s_2 := p_s_2.2
  try dsimp only at f_s_2
  try simp (disch := omega) only [ti_add, ti_sub, b2t_, b2f_, li_0, li_1, li_2, li_3, li_28, li_99, li_9999, li_m1] at f_s_2
  refine wp_if_i (fun h_1_ => ?_) (fun h_1_ => ?_)
  · skip
    have b_2_ := b2i_bd r_1
    have j_3_ := eq_ti h_1_
    try simp (disch := omega) only [ti_add, ti_sub, b2t_, b2f_, li_0, li_1, li_2, li_3, li_28, li_99, li_9999, li_m1] at j_3_
    exact wp_some_i (by subst hQ; exact g_s_2)
  · skip
    have b_4_ := b2i_bd r_1
    have j_5_ := ne_ti h_1_
    try simp (disch := omega) only [ti_add, ti_sub, b2t_, b2f_, li_0, li_1, li_2, li_3, li_28, li_99, li_9999, li_m1] at j_5_
    refine wp_bnd_i (tX10_isIn a2 1 99 s_2 g_s_2.1 ) (fun r_3 s_4 p_s_4 => ?_)
    have e_s_4 : s_4 = s_2 := p_s_4.1
    have g_s_4 : Z10_ s0 s_4 := by rw [e_s_4]; exact g_s_2
    have f_s_4 := p_s_4.2
    try dsimp only at f_s_4
    try simp (disch := omega) only [ti_add, ti_sub, b2t_, b2f_, li_0, li_1, li_2, li_3, li_28, li_99, li_9999, li_m1] at f_s_4
    refine wp_if_i (fun h_6_ => ?_) (fun h_6_ => ?_)
    · skip
      have b_7_ := b2i_bd r_3
      have j_8_ := eq_ti h_6_
      try simp (disch := omega) only [ti_add, ti_sub, b2t_, b2f_, li_0, li_1, li_2, li_3, li_28, li_99, li_9999, li_m1] at j_8_
      exact wp_some_i (by subst hQ; exact g_s_4)
    · skip
      have b_9_ := b2i_bd r_3
      have j_10_ := ne_ti h_6_
      try simp (disch := omega) only [ti_add, ti_sub, b2t_, b2f_, li_0, li_1, li_2, li_3, li_28, li_99, li_9999, li_m1] at j_10_
      refine wp_bnd_i (tX10_isIn a3 0 9999 s_4 g_s_4.1 ) (fun r_5 s_6 p_s_6 => ?_)
      have e_s_6 : s_6 = s_4 := p_s_6.1
      have g_s_6 : Z10_ s0 s_6 := by rw [e_s_6]; exact g_s_4
      have f_s_6 := p_s_6.2
      try dsimp only at f_s_6
      try simp (disch := omega) only [ti_add, ti_sub, b2t_, b2f_, li_0, li_1, li_2, li_3, li_28, li_99, li_9999, li_m1] at f_s_6
      refine wp_if_i (fun h_11_ => ?_) (fun h_11_ => ?_)
      · skip
        have b_12_ := b2i_bd r_5
        have j_13_ := eq_ti h_11_
        try simp (disch := omega) only [ti_add, ti_sub, b2t_, b2f_, li_0, li_1, li_2, li_3, li_28, li_99, li_9999, li_m1] at j_13_
        exact wp_some_i (by subst hQ; exact g_s_6)
      · skip
        have b_14_ := b2i_bd r_5
        have j_15_ := ne_ti h_11_
        try simp (disch := omega) only [ti_add, ti_sub, b2t_, b2f_, li_0, li_1, li_2, li_3, li_28, li_99, li_9999, li_m1] at j_15_
        apply wp_bv_i
        intro s_7 e_s_7
        have g_s_7 : Z10_ s0 s_7 := by rw [e_s_7]; exact Z10_.si g_s_6 (by decide) (by refine ⟨?_, ?_, ?_, ?_, ?_, ?_⟩ <;> intro x_ <;> first | omega | (simp (disch := omega) only [ti_add, ti_sub, b2t_, b2f_, li_0, li_1, li_2, li_3, li_28, li_99, li_9999, li_m1]; omega)) (fun _ hk_ => by unfold kp_ at hk_; omega)
        apply wp_bv_i
        intro s_8 e_s_8
        have g_s_8 : Z10_ s0 s_8 := by rw [e_s_8]; exact Z10_.si g_s_7 (by decide) (by refine ⟨?_, ?_, ?_, ?_, ?_, ?_⟩ <;> intro x_ <;> first | omega | (simp (disch := omega) only [ti_add, ti_sub, b2t_, b2f_, li_0, li_1, li_2, li_3, li_28, li_99, li_9999, li_m1]; omega)) (fun _ hk_ => by unfold kp_ at hk_; omega)
        apply wp_bv_i
        intro s_9 e_s_9
        have g_s_9 : Z10_ s0 s_9 := by rw [e_s_9]; exact Z10_.si g_s_8 (by decide) (by refine ⟨?_, ?_, ?_, ?_, ?_, ?_⟩ <;> intro x_ <;> first | omega | (simp (disch := omega) only [ti_add, ti_sub, b2t_, b2f_, li_0, li_1, li_2, li_3, li_28, li_99, li_9999, li_m1]; omega)) (fun _ hk_ => by unfold kp_ at hk_; omega)
        exact wp_some_i (by subst hQ; exact g_s_9)
set_option maxHeartbeats 1000000 in
set_option maxRecDepth 20000 in
theorem tkX10_weather (a1 : Int32) (a2 : Int32) (a3 : Int32) (s0 : Sg) (h0 : I10_ s0)  : wp_ (fX10_weather a1 a2 a3 s0) (fun q => Z10_ s0 q.2) := by
  have g_s0 : Z10_ s0 s0 := Z10_.rf h0
  have hFU_ : FU = 1000000000 := rfl
  generalize hQ : (fun q : (Bool × Sg) => Z10_ s0 q.2) = Q
  unfold fX10_weather
  rw [ixl_4, ixl_5, ixl_6]
  have L0_ := li_0
  have L1_ := li_1
  have L4_ := li_4
  have L5_ := li_5
  have L6_ := li_6
  have L9_ := li_9
  have L23_ := li_23
  have L28_ := li_28
  have M1_ := li_m1
  have M9_ := li_m9
  refine wp_bnd_i (tX10_isIn a1 0 23 s0 g_s0.1 ) (fun r_1 s_2 p_s_2 => ?_)
  have e_s_2 : s_2 = s0 := p_s_2.1
  have g_s_2 : Z10_ s0 s_2 := by rw [e_s_2]; exact g_s0
  have f_s_2 := p_s_2.2
  try dsimp only at f_s_2
  try simp (disch := omega) only [ti_add, ti_sub, b2t_, b2f_, li_0, li_1, li_4, li_5, li_6, li_9, li_23, li_28, li_m1, li_m9] at f_s_2
  refine wp_if_i (fun h_1_ => ?_) (fun h_1_ => ?_)
  · skip
    have b_2_ := b2i_bd r_1
    have j_3_ := eq_ti h_1_
    try simp (disch := omega) only [ti_add, ti_sub, b2t_, b2f_, li_0, li_1, li_4, li_5, li_6, li_9, li_23, li_28, li_m1, li_m9] at j_3_
    exact wp_some_i (by subst hQ; exact g_s_2)
  · skip
    have b_4_ := b2i_bd r_1
    have j_5_ := ne_ti h_1_
    try simp (disch := omega) only [ti_add, ti_sub, b2t_, b2f_, li_0, li_1, li_4, li_5, li_6, li_9, li_23, li_28, li_m1, li_m9] at j_5_
    refine wp_bnd_i (tX10_isIn a2 0 9 s_2 g_s_2.1 ) (fun r_3 s_4 p_s_4 => ?_)
    have e_s_4 : s_4 = s_2 := p_s_4.1
    have g_s_4 : Z10_ s0 s_4 := by rw [e_s_4]; exact g_s_2
    have f_s_4 := p_s_4.2
    try dsimp only at f_s_4
    try simp (disch := omega) only [ti_add, ti_sub, b2t_, b2f_, li_0, li_1, li_4, li_5, li_6, li_9, li_23, li_28, li_m1, li_m9] at f_s_4
    refine wp_if_i (fun h_6_ => ?_) (fun h_6_ => ?_)
    · skip
      have b_7_ := b2i_bd r_3
      have j_8_ := eq_ti h_6_
      try simp (disch := omega) only [ti_add, ti_sub, b2t_, b2f_, li_0, li_1, li_4, li_5, li_6, li_9, li_23, li_28, li_m1, li_m9] at j_8_
      exact wp_some_i (by subst hQ; exact g_s_4)
    · skip
      have b_9_ := b2i_bd r_3
      have j_10_ := ne_ti h_6_
      try simp (disch := omega) only [ti_add, ti_sub, b2t_, b2f_, li_0, li_1, li_4, li_5, li_6, li_9, li_23, li_28, li_m1, li_m9] at j_10_
      refine wp_bnd_i (tX10_isIn a3 (-9) 9 s_4 g_s_4.1 ) (fun r_5 s_6 p_s_6 => ?_)
      have e_s_6 : s_6 = s_4 := p_s_6.1
      have g_s_6 : Z10_ s0 s_6 := by rw [e_s_6]; exact g_s_4
      have f_s_6 := p_s_6.2
      try dsimp only at f_s_6
      try simp (disch := omega) only [ti_add, ti_sub, b2t_, b2f_, li_0, li_1, li_4, li_5, li_6, li_9, li_23, li_28, li_m1, li_m9] at f_s_6
      refine wp_if_i (fun h_11_ => ?_) (fun h_11_ => ?_)
      · skip
        have b_12_ := b2i_bd r_5
        have j_13_ := eq_ti h_11_
        try simp (disch := omega) only [ti_add, ti_sub, b2t_, b2f_, li_0, li_1, li_4, li_5, li_6, li_9, li_23, li_28, li_m1, li_m9] at j_13_
        exact wp_some_i (by subst hQ; exact g_s_6)
      · skip
        have b_14_ := b2i_bd r_5
        have j_15_ := ne_ti h_11_
        try simp (disch := omega) only [ti_add, ti_sub, b2t_, b2f_, li_0, li_1, li_4, li_5, li_6, li_9, li_23, li_28, li_m1, li_m9] at j_15_
        apply wp_bv_i
        intro s_7 e_s_7
        have g_s_7 : Z10_ s0 s_7 := by rw [e_s_7]; exact Z10_.si g_s_6 (by decide) (by refine ⟨?_, ?_, ?_, ?_, ?_, ?_⟩ <;> intro x_ <;> first | omega | (simp (disch := omega) only [ti_add, ti_sub, b2t_, b2f_, li_0, li_1, li_4, li_5, li_6, li_9, li_23, li_28, li_m1, li_m9]; omega)) (fun _ hk_ => by unfold kp_ at hk_; omega)
        apply wp_bv_i
        intro s_8 e_s_8
        have g_s_8 : Z10_ s0 s_8 := by rw [e_s_8]; exact Z10_.si g_s_7 (by decide) (by refine ⟨?_, ?_, ?_, ?_, ?_, ?_⟩ <;> intro x_ <;> first | omega | (simp (disch := omega) only [ti_add, ti_sub, b2t_, b2f_, li_0, li_1, li_4, li_5, li_6, li_9, li_23, li_28, li_m1, li_m9]; omega)) (fun _ hk_ => by unfold kp_ at hk_; omega)
        apply wp_bv_i
        intro s_9 e_s_9
        have g_s_9 : Z10_ s0 s_9 := by rw [e_s_9]; exact Z10_.si g_s_8 (by decide) (by refine ⟨?_, ?_, ?_, ?_, ?_, ?_⟩ <;> intro x_ <;> first | omega | (simp (disch := omega) only [ti_add, ti_sub, b2t_, b2f_, li_0, li_1, li_4, li_5, li_6, li_9, li_23, li_28, li_m1, li_m9]; omega)) (fun _ hk_ => by unfold kp_ at hk_; omega)
        exact wp_some_i (by subst hQ; exact g_s_9)
set_option maxHeartbeats 1000000 in
set_option maxRecDepth 20000 in
theorem tkX10_end (a1 : Int32) (s0 : Sg) (h0 : I10_ s0)  : wp_ (fX10_end a1 s0) (fun q => Z10_ s0 q.2) := by
  have g_s0 : Z10_ s0 s0 := Z10_.rf h0
  have hFU_ : FU = 1000000000 := rfl
  generalize hQ : (fun q : (Int32 × Sg) => Z10_ s0 q.2) = Q
  unfold fX10_end
  have L0_ := li_0
  have L1_ := li_1
  have L4_ := li_4
  have L27_ := li_27
  have M1_ := li_m1
  have b_1_ : 0 ≤ (gi s0 27 4).toInt ∧ (gi s0 27 4).toInt ≤ 300 := g_s0.1 27 4
  refine wp_bnd_i (tX10_isIn a1 0 (gi s0 27 4) s0 g_s0.1 ) (fun r_1 s_2 p_s_2 => ?_)
  have e_s_2 : s_2 = s0 := p_s_2.1
  have g_s_2 : Z10_ s0 s_2 := by rw [e_s_2]; exact g_s0
  have f_s_2 := p_s_2.2
  try dsimp only at f_s_2
  try simp (disch := omega) only [ti_add, ti_sub, b2t_, b2f_, li_0, li_1, li_4, li_27, li_m1] at f_s_2
  refine wp_if_i (fun h_2_ => ?_) (fun h_2_ => ?_)
  · skip
    have b_3_ := b2i_bd r_1
    have j_4_ := eq_ti h_2_
    try simp (disch := omega) only [ti_add, ti_sub, b2t_, b2f_, li_0, li_1, li_4, li_27, li_m1] at j_4_
    exact wp_some_i (by subst hQ; exact g_s_2)
  · skip
    have b_5_ := b2i_bd r_1
    have j_6_ := ne_ti h_2_
    try simp (disch := omega) only [ti_add, ti_sub, b2t_, b2f_, li_0, li_1, li_4, li_27, li_m1] at j_6_
    apply wp_bv_i
    intro s_3 e_s_3
    have g_s_3 : Z10_ s0 s_3 := by rw [e_s_3]; exact Z10_.si g_s_2 (by decide) ⟨by first | omega | (simp (disch := omega) only [ti_add, ti_sub, b2t_, b2f_, li_0, li_1, li_4, li_27, li_m1]; omega), by first | omega | (simp (disch := omega) only [ti_add, ti_sub, b2t_, b2f_, li_0, li_1, li_4, li_27, li_m1]; omega)⟩ (fun e_ => absurd e_ (by decide))
    exact wp_some_i (by subst hQ; exact g_s_3)
set_option maxHeartbeats 1000000 in
set_option maxRecDepth 20000 in
theorem tkX10_by (a1 : Int32) (s0 : Sg) (h0 : I10_ s0)  : wp_ (fX10_by a1 s0) (fun q => Z10_ s0 q.2) := by
  have g_s0 : Z10_ s0 s0 := Z10_.rf h0
  have hFU_ : FU = 1000000000 := rfl
  generalize hQ : (fun q : (Bool × Sg) => Z10_ s0 q.2) = Q
  unfold fX10_by
  rw [ixl_7, ixl_8]
  have L0_ := li_0
  have L1_ := li_1
  have L7_ := li_7
  have L8_ := li_8
  have L28_ := li_28
  have M1_ := li_m1
  have b_1_ : 0 ≤ (gi s0 28 7).toInt ∧ (gi s0 28 7).toInt ≤ 4 := (g_s0.1 28 7).2.1 rfl
  try have m_2_ := ti_sub (x := (gi s0 28 7)) (y := 1) (by omega) (by omega)
  refine wp_bnd_i (tX10_isIn a1 (-1) ((gi s0 28 7) - 1) s0 g_s0.1 ) (fun r_1 s_2 p_s_2 => ?_)
  have e_s_2 : s_2 = s0 := p_s_2.1
  have g_s_2 : Z10_ s0 s_2 := by rw [e_s_2]; exact g_s0
  have f_s_2 := p_s_2.2
  try dsimp only at f_s_2
  try simp (disch := omega) only [ti_add, ti_sub, b2t_, b2f_, li_0, li_1, li_7, li_8, li_28, li_m1] at f_s_2
  refine wp_if_i (fun h_3_ => ?_) (fun h_3_ => ?_)
  · skip
    have b_4_ := b2i_bd r_1
    have j_5_ := eq_ti h_3_
    try simp (disch := omega) only [ti_add, ti_sub, b2t_, b2f_, li_0, li_1, li_7, li_8, li_28, li_m1] at j_5_
    exact wp_some_i (by subst hQ; exact g_s_2)
  · skip
    have b_6_ := b2i_bd r_1
    have j_7_ := ne_ti h_3_
    try simp (disch := omega) only [ti_add, ti_sub, b2t_, b2f_, li_0, li_1, li_7, li_8, li_28, li_m1] at j_7_
    apply wp_bv_i
    intro s_3 e_s_3
    have g_s_3 : Z10_ s0 s_3 := by rw [e_s_3]; exact Z10_.si g_s_2 (by decide) (by refine ⟨?_, ?_, ?_, ?_, ?_, ?_⟩ <;> intro x_ <;> first | omega | (simp (disch := omega) only [ti_add, ti_sub, b2t_, b2f_, li_0, li_1, li_7, li_8, li_28, li_m1]; omega)) (fun _ hk_ => by unfold kp_ at hk_; omega)
    exact wp_some_i (by subst hQ; exact g_s_3)
set_option maxHeartbeats 1000000 in
set_option maxRecDepth 20000 in
theorem lkX10_keep_101_b {Q : (Sg) → Prop} (S_ : Sg) (hI_ : I10_ S_) (v_3 : Int32) (k_9 : Sg → Option (Sg)) (hk_9 : ∀ (z0_ : Sg), Z10_ S_ z0_ → (gi z0_ 28 9).toInt ≤ 39 → wp_ (k_9 z0_) Q) (cp0_ : (v_3.toInt - 160) % 14 = 0 ∧ 160 ≤ v_3.toInt ∧ v_3.toInt ≤ 706) : ∀ (n : Nat) (x2_11 : Int32) (s_12 : Sg), Z10_ S_ s_12 → 0 ≤ x2_11.toInt → (gi s_12 28 9).toInt ≤ 39 → (12 - x2_11.toInt).toNat < n → wp_ (lo2 (fX10_keep_101_b v_3 k_9) n x2_11 s_12) Q := by
  intro n
  induction n with
  | zero =>
    intro x2_11 s_12 _ _ _ hm_
    exact absurd hm_ (Nat.not_lt_zero _)
  | succ n ih =>
    intro x2_11 s_12 g_s_12 i0_ i1_ hm_
    show wp_ (fX10_keep_101_b v_3 k_9 (lo2 (fX10_keep_101_b v_3 k_9) n) x2_11 s_12) Q
    have hrec := ih
    generalize lo2 (fX10_keep_101_b v_3 k_9) n = rc at hrec ⊢
    clear ih
    have hFU_ : FU = 1000000000 := rfl
    unfold fX10_keep_101_b
    have L0_ := li_0
    have L1_ := li_1
    have L2_ := li_2
    have L12_ := li_12
    have L28_ := li_28
    have L720_ := li_720
    have M1_ := li_m1
    refine wp_if_i (fun h_1_ => ?_) (fun h_1_ => ?_)
    · skip
      have j_2_ := le_ti h_1_
      try simp (disch := omega) only [ti_add, ti_sub, b2t_, b2f_, li_0, li_1, li_2, li_12, li_28, li_720, li_m1] at j_2_
      have b_3_ : 0 ≤ (gi s_12 28 9).toInt ∧ (gi s_12 28 9).toInt ≤ 40 := (g_s_12.1 28 9).2.2.2.1 rfl
      exact hk_9 s_12 g_s_12 (by first | omega | (simp (disch := omega) only [ti_add, ti_sub, b2t_, b2f_, li_0, li_1, li_2, li_12, li_28, li_720, li_m1]; omega))
    · skip
      have j_4_ := nle_ti h_1_
      try simp (disch := omega) only [ti_add, ti_sub, b2t_, b2f_, li_0, li_1, li_2, li_12, li_28, li_720, li_m1] at j_4_
      refine wp_bnd_i (tX10_panOf x2_11 s_12 g_s_12.1 (by first | omega | (simp (disch := omega) only [ti_add, ti_sub, b2t_, b2f_, li_0, li_1, li_2, li_12, li_28, li_720, li_m1]; omega))) (fun r_13 s_14 p_s_14 => ?_)
      have e_s_14 : s_14 = s_12 := p_s_14
      have g_s_14 : Z10_ S_ s_14 := by rw [e_s_14]; exact g_s_12
      try have m_5_ := ti_add (x := v_3) (y := 2) (by omega) (by omega)
      try have m_6_ := ti_add (x := (v_3 + 2)) (y := x2_11) (by omega) (by omega)
      refine wp_chk_i (inb_ti (by first | omega | (simp (disch := omega) only [ti_add, ti_sub, b2t_, b2f_, li_0, li_1, li_2, li_12, li_28, li_720, li_m1]; omega)) (by first | omega | (simp (disch := omega) only [ti_add, ti_sub, b2t_, b2f_, li_0, li_1, li_2, li_12, li_28, li_720, li_m1]; omega))) ?_
      have x_7_ : ix ((v_3 + 2) + x2_11) = (((v_3 + 2) + x2_11)).toInt.toNat := rfl
      apply wp_bv_i
      intro s_16 e_s_16
      have g_s_16 : Z10_ S_ s_16 := by rw [e_s_16]; exact Z10_.si g_s_14 (by decide) (by refine ⟨?_, ?_, ?_, ?_, ?_, ?_⟩ <;> intro x_ <;> first | omega | (simp (disch := omega) only [ti_add, ti_sub, b2t_, b2f_, li_0, li_1, li_2, li_12, li_28, li_720, li_m1]; omega)) (fun _ hk_ => by unfold kp_ at hk_; omega)
      apply wp_bv_i
      intro v_17 e_v_17
      have j_8_ := eq_ti e_v_17
      try simp (disch := omega) only [ti_add, ti_sub, b2t_, b2f_, li_0, li_1, li_2, li_12, li_28, li_720, li_m1] at j_8_
      have b_9_ : 0 ≤ (gi s_12 28 9).toInt ∧ (gi s_12 28 9).toInt ≤ 40 := (g_s_12.1 28 9).2.2.2.1 rfl
      have r_10_ : (gi s_14 28 9).toInt = (gi s_12 28 9).toInt := by rw [e_s_14]
      have b_11_ : 0 ≤ (gi s_14 28 9).toInt ∧ (gi s_14 28 9).toInt ≤ 40 := (g_s_14.1 28 9).2.2.2.1 rfl
      have r_12_ : (gi s_16 28 9).toInt = (gi s_14 28 9).toInt := by rw [e_s_16]; rw [gsi_ne (by first | decide | omega)]
      have b_13_ : 0 ≤ (gi s_16 28 9).toInt ∧ (gi s_16 28 9).toInt ≤ 40 := (g_s_16.1 28 9).2.2.2.1 rfl
      exact hrec v_17 s_16 g_s_16 (by first | omega | (simp (disch := omega) only [ti_add, ti_sub, b2t_, b2f_, li_0, li_1, li_2, li_12, li_28, li_720, li_m1]; omega)) (by first | omega | (simp (disch := omega) only [ti_add, ti_sub, b2t_, b2f_, li_0, li_1, li_2, li_12, li_28, li_720, li_m1]; omega)) (by first | omega | (simp (disch := omega) only [ti_add, ti_sub, b2t_, b2f_, li_0, li_1, li_2, li_12, li_28, li_720, li_m1]; omega))
set_option maxHeartbeats 1000000 in
set_option maxRecDepth 20000 in
theorem lkX10_keep_14_b {Q : (Sg) → Prop} (S_ : Sg) (hI_ : I10_ S_) (k_19 : Sg → Option (Sg)) (hk_19 : ∀ (z0_ : Sg), Z10_ S_ z0_ → (gi z0_ 28 9).toInt = 40 → wp_ (k_19 z0_) Q)  : ∀ (n : Nat) (x1_21 : Int32) (s_22 : Sg), Z10_ S_ s_22 → 0 ≤ x1_21.toInt → (gi s_22 28 9).toInt = 40 → (546 - x1_21.toInt).toNat < n → wp_ (lo2 (fX10_keep_14_b k_19) n x1_21 s_22) Q := by
  intro n
  induction n with
  | zero =>
    intro x1_21 s_22 _ _ _ hm_
    exact absurd hm_ (Nat.not_lt_zero _)
  | succ n ih =>
    intro x1_21 s_22 g_s_22 i0_ i1_ hm_
    show wp_ (fX10_keep_14_b k_19 (lo2 (fX10_keep_14_b k_19) n) x1_21 s_22) Q
    have hrec := ih
    generalize lo2 (fX10_keep_14_b k_19) n = rc at hrec ⊢
    clear ih
    have hFU_ : FU = 1000000000 := rfl
    unfold fX10_keep_14_b
    have L0_ := li_0
    have L1_ := li_1
    have L28_ := li_28
    have L160_ := li_160
    have L174_ := li_174
    have L546_ := li_546
    have L720_ := li_720
    have M1_ := li_m1
    refine wp_if_i (fun h_1_ => ?_) (fun h_1_ => ?_)
    · skip
      have j_2_ := le_ti h_1_
      try simp (disch := omega) only [ti_add, ti_sub, b2t_, b2f_, li_0, li_1, li_28, li_160, li_174, li_546, li_720, li_m1] at j_2_
      have b_3_ : 0 ≤ (gi s_22 28 9).toInt ∧ (gi s_22 28 9).toInt ≤ 40 := (g_s_22.1 28 9).2.2.2.1 rfl
      exact hk_19 s_22 g_s_22 (by first | omega | (simp (disch := omega) only [ti_add, ti_sub, b2t_, b2f_, li_0, li_1, li_28, li_160, li_174, li_546, li_720, li_m1]; omega))
    · skip
      have j_4_ := nle_ti h_1_
      try simp (disch := omega) only [ti_add, ti_sub, b2t_, b2f_, li_0, li_1, li_28, li_160, li_174, li_546, li_720, li_m1] at j_4_
      try have m_5_ := ti_add (x := 174) (y := x1_21) (by omega) (by omega)
      refine wp_chk_i (inb_ti (by first | omega | (simp (disch := omega) only [ti_add, ti_sub, b2t_, b2f_, li_0, li_1, li_28, li_160, li_174, li_546, li_720, li_m1]; omega)) (by first | omega | (simp (disch := omega) only [ti_add, ti_sub, b2t_, b2f_, li_0, li_1, li_28, li_160, li_174, li_546, li_720, li_m1]; omega))) ?_
      try have m_6_ := ti_add (x := 160) (y := x1_21) (by omega) (by omega)
      refine wp_chk_i (inb_ti (by first | omega | (simp (disch := omega) only [ti_add, ti_sub, b2t_, b2f_, li_0, li_1, li_28, li_160, li_174, li_546, li_720, li_m1]; omega)) (by first | omega | (simp (disch := omega) only [ti_add, ti_sub, b2t_, b2f_, li_0, li_1, li_28, li_160, li_174, li_546, li_720, li_m1]; omega))) ?_
      have x_7_ : ix (160 + x1_21) = ((160 + x1_21)).toInt.toNat := rfl
      apply wp_bv_i
      intro s_25 e_s_25
      have g_s_25 : Z10_ S_ s_25 := by rw [e_s_25]; exact Z10_.si g_s_22 (by decide) (by have z_ := g_s_22.1 28 (ix (174 + x1_21)); have y1_ : ix (174 + x1_21) = (174 + x1_21).toInt.toNat := rfl; have y2_ : ix (160 + x1_21) = (160 + x1_21).toInt.toNat := rfl; refine ⟨?_, ?_, ?_, ?_, ?_, ?_⟩ <;> intro x_ <;> first | omega | exact z_.2.2.2.2.2 (by omega)) (fun _ hk_ => by unfold kp_ at hk_; omega)
      apply wp_bv_i
      intro v_26 e_v_26
      have j_8_ := eq_ti e_v_26
      try simp (disch := omega) only [ti_add, ti_sub, b2t_, b2f_, li_0, li_1, li_28, li_160, li_174, li_546, li_720, li_m1] at j_8_
      have b_9_ : 0 ≤ (gi s_22 28 9).toInt ∧ (gi s_22 28 9).toInt ≤ 40 := (g_s_22.1 28 9).2.2.2.1 rfl
      have r_10_ : (gi s_25 28 9).toInt = (gi s_22 28 9).toInt := by rw [e_s_25]; rw [gsi_ne (by first | decide | omega)]
      have b_11_ : 0 ≤ (gi s_25 28 9).toInt ∧ (gi s_25 28 9).toInt ≤ 40 := (g_s_25.1 28 9).2.2.2.1 rfl
      exact hrec v_26 s_25 g_s_25 (by first | omega | (simp (disch := omega) only [ti_add, ti_sub, b2t_, b2f_, li_0, li_1, li_28, li_160, li_174, li_546, li_720, li_m1]; omega)) (by first | omega | (simp (disch := omega) only [ti_add, ti_sub, b2t_, b2f_, li_0, li_1, li_28, li_160, li_174, li_546, li_720, li_m1]; omega)) (by first | omega | (simp (disch := omega) only [ti_add, ti_sub, b2t_, b2f_, li_0, li_1, li_28, li_160, li_174, li_546, li_720, li_m1]; omega))
set_option maxHeartbeats 1000000 in
set_option maxRecDepth 20000 in
theorem tkX10_keep (s0 : Sg) (h0 : I10_ s0)  : wp_ (fX10_keep s0) (fun q => Z10_ s0 q) := by
  have g_s0 : Z10_ s0 s0 := Z10_.rf h0
  have hFU_ : FU = 1000000000 := rfl
  generalize hQ : (fun q : (Sg) => Z10_ s0 q) = Q
  unfold fX10_keep
  rw [ixl_0, ixl_4, ixl_9]
  have L0_ := li_0
  have L1_ := li_1
  have L4_ := li_4
  have L9_ := li_9
  have L14_ := li_14
  have L28_ := li_28
  have L40_ := li_40
  have L160_ := li_160
  have L720_ := li_720
  have M1_ := li_m1
  refine wp_jn (fun k_2 => ∀ (s_1 : Sg), Z10_ s0 s_1 → (gi s_1 28 9).toInt ≤ 39 → wp_ (k_2 s_1) Q) ?_ (fun k_2 hk_2 => ?_)
  · intro s_1 g_s_1 u_0_k_2
    try dsimp only
    have b_1_ : 0 ≤ (gi s_1 28 9).toInt ∧ (gi s_1 28 9).toInt ≤ 40 := (g_s_1.1 28 9).2.2.2.1 rfl
    try have m_2_ := tm_14 (x := (gi s_1 28 9)) (by omega) (by omega)
    apply wp_bv_i
    intro v_3 e_v_3
    have j_3_ := eq_ti e_v_3
    try simp (disch := omega) only [ti_add, ti_sub, b2t_, b2f_, li_0, li_1, li_4, li_9, li_14, li_28, li_40, li_160, li_720, li_m1] at j_3_
    refine wp_chk_i (inb_ti (by first | omega | (simp (disch := omega) only [ti_add, ti_sub, b2t_, b2f_, li_0, li_1, li_4, li_9, li_14, li_28, li_40, li_160, li_720, li_m1]; omega)) (by first | omega | (simp (disch := omega) only [ti_add, ti_sub, b2t_, b2f_, li_0, li_1, li_4, li_9, li_14, li_28, li_40, li_160, li_720, li_m1]; omega))) ?_
    have x_4_ : ix v_3 = (v_3).toInt.toNat := rfl
    apply wp_bv_i
    intro s_5 e_s_5
    have g_s_5 : Z10_ s0 s_5 := by rw [e_s_5]; exact Z10_.si g_s_1 (by decide) (by refine ⟨?_, ?_, ?_, ?_, ?_, ?_⟩ <;> intro x_ <;> first | omega | (simp (disch := omega) only [ti_add, ti_sub, b2t_, b2f_, li_0, li_1, li_4, li_9, li_14, li_28, li_40, li_160, li_720, li_m1]; omega)) (fun _ hk_ => by unfold kp_ at hk_; omega)
    try have m_5_ := ti_add (x := v_3) (y := 1) (by omega) (by omega)
    refine wp_chk_i (inb_ti (by first | omega | (simp (disch := omega) only [ti_add, ti_sub, b2t_, b2f_, li_0, li_1, li_4, li_9, li_14, li_28, li_40, li_160, li_720, li_m1]; omega)) (by first | omega | (simp (disch := omega) only [ti_add, ti_sub, b2t_, b2f_, li_0, li_1, li_4, li_9, li_14, li_28, li_40, li_160, li_720, li_m1]; omega))) ?_
    have b_6_ : 0 ≤ (gi s_1 28 0).toInt ∧ (gi s_1 28 0).toInt ≤ 12 := (g_s_1.1 28 0).1 rfl
    have r_7_ : (gi s_5 28 0).toInt = (gi s_1 28 0).toInt := by rw [e_s_5]; rw [gsi_ne (by first | decide | omega)]
    have b_8_ : 0 ≤ (gi s_5 28 0).toInt ∧ (gi s_5 28 0).toInt ≤ 12 := (g_s_5.1 28 0).1 rfl
    have x_9_ : ix (v_3 + 1) = ((v_3 + 1)).toInt.toNat := rfl
    apply wp_bv_i
    intro s_7 e_s_7
    have g_s_7 : Z10_ s0 s_7 := by rw [e_s_7]; exact Z10_.si g_s_5 (by decide) (by refine ⟨?_, ?_, ?_, ?_, ?_, ?_⟩ <;> intro x_ <;> first | omega | (simp (disch := omega) only [ti_add, ti_sub, b2t_, b2f_, li_0, li_1, li_4, li_9, li_14, li_28, li_40, li_160, li_720, li_m1]; omega)) (fun _ hk_ => by unfold kp_ at hk_; omega)
    refine wp_jn (fun k_9 => ∀ (s_8 : Sg), Z10_ s0 s_8 → (gi s_8 28 9).toInt ≤ 39 → wp_ (k_9 s_8) Q) ?_ (fun k_9 hk_9 => ?_)
    · intro s_8 g_s_8 u_0_k_9
      try dsimp only
      have b_10_ : 0 ≤ (gi s_8 28 9).toInt ∧ (gi s_8 28 9).toInt ≤ 40 := (g_s_8.1 28 9).2.2.2.1 rfl
      try have m_11_ := ti_add (x := (gi s_8 28 9)) (y := 1) (by omega) (by omega)
      apply wp_bv_i
      intro s_10 e_s_10
      have g_s_10 : Z10_ s0 s_10 := by rw [e_s_10]; exact Z10_.si g_s_8 (by decide) (by refine ⟨?_, ?_, ?_, ?_, ?_, ?_⟩ <;> intro x_ <;> first | omega | (simp (disch := omega) only [ti_add, ti_sub, b2t_, b2f_, li_0, li_1, li_4, li_9, li_14, li_28, li_40, li_160, li_720, li_m1]; omega)) (fun _ hk_ => by unfold kp_ at hk_; omega)
      exact wp_some_i (by subst hQ; exact g_s_10)
    have r_12_ : (gi s_5 28 9).toInt = (gi s_1 28 9).toInt := by rw [e_s_5]; rw [gsi_ne (by first | decide | omega)]
    have b_13_ : 0 ≤ (gi s_5 28 9).toInt ∧ (gi s_5 28 9).toInt ≤ 40 := (g_s_5.1 28 9).2.2.2.1 rfl
    have r_14_ : (gi s_7 28 9).toInt = (gi s_5 28 9).toInt := by rw [e_s_7]; rw [gsi_ne (by first | decide | omega)]
    have b_15_ : 0 ≤ (gi s_7 28 9).toInt ∧ (gi s_7 28 9).toInt ≤ 40 := (g_s_7.1 28 9).2.2.2.1 rfl
    exact lkX10_keep_101_b s0 h0 v_3 k_9 hk_9 (by first | omega | (simp (disch := omega) only [ti_add, ti_sub, b2t_, b2f_, li_0, li_1, li_4, li_9, li_14, li_28, li_40, li_160, li_720, li_m1]; omega)) FU 0 s_7 g_s_7 (by first | omega | (simp (disch := omega) only [ti_add, ti_sub, b2t_, b2f_, li_0, li_1, li_4, li_9, li_14, li_28, li_40, li_160, li_720, li_m1]; omega)) (by first | omega | (simp (disch := omega) only [ti_add, ti_sub, b2t_, b2f_, li_0, li_1, li_4, li_9, li_14, li_28, li_40, li_160, li_720, li_m1]; omega)) (by first | omega | (simp (disch := omega) only [ti_add, ti_sub, b2t_, b2f_, li_0, li_1, li_4, li_9, li_14, li_28, li_40, li_160, li_720, li_m1]; omega))
  refine wp_if_i (fun h_16_ => ?_) (fun h_16_ => ?_)
  · skip
    have b_17_ : 0 ≤ (gi s0 28 9).toInt ∧ (gi s0 28 9).toInt ≤ 40 := (g_s0.1 28 9).2.2.2.1 rfl
    have j_18_ := eq_ti h_16_
    try simp (disch := omega) only [ti_add, ti_sub, b2t_, b2f_, li_0, li_1, li_4, li_9, li_14, li_28, li_40, li_160, li_720, li_m1] at j_18_
    refine wp_jn (fun k_19 => ∀ (s_18 : Sg), Z10_ s0 s_18 → (gi s_18 28 9).toInt = 40 → wp_ (k_19 s_18) Q) ?_ (fun k_19 hk_19 => ?_)
    · intro s_18 g_s_18 u_0_k_19
      try dsimp only
      have b_19_ : 0 ≤ (gi s_18 28 9).toInt ∧ (gi s_18 28 9).toInt ≤ 40 := (g_s_18.1 28 9).2.2.2.1 rfl
      try have m_20_ := ti_sub (x := (gi s_18 28 9)) (y := 1) (by omega) (by omega)
      apply wp_bv_i
      intro s_20 e_s_20
      have g_s_20 : Z10_ s0 s_20 := by rw [e_s_20]; exact Z10_.si g_s_18 (by decide) (by refine ⟨?_, ?_, ?_, ?_, ?_, ?_⟩ <;> intro x_ <;> first | omega | (simp (disch := omega) only [ti_add, ti_sub, b2t_, b2f_, li_0, li_1, li_4, li_9, li_14, li_28, li_40, li_160, li_720, li_m1]; omega)) (fun _ hk_ => by unfold kp_ at hk_; omega)
      have r_21_ : (gi s_20 28 9).toInt = ((((gi s_18 28 9) - 1) : Int32)).toInt := by rw [e_s_20]; rw [gsi_eq]
      try simp (disch := omega) only [ti_add, ti_sub, b2t_, b2f_, li_0, li_1, li_4, li_9, li_14, li_28, li_40, li_160, li_720, li_m1] at r_21_
      have b_22_ : 0 ≤ (gi s_20 28 9).toInt ∧ (gi s_20 28 9).toInt ≤ 40 := (g_s_20.1 28 9).2.2.2.1 rfl
      exact hk_2 s_20 g_s_20 (by first | omega | (simp (disch := omega) only [ti_add, ti_sub, b2t_, b2f_, li_0, li_1, li_4, li_9, li_14, li_28, li_40, li_160, li_720, li_m1]; omega))
    exact lkX10_keep_14_b s0 h0 k_19 hk_19  FU 0 s0 g_s0 (by first | omega | (simp (disch := omega) only [ti_add, ti_sub, b2t_, b2f_, li_0, li_1, li_4, li_9, li_14, li_28, li_40, li_160, li_720, li_m1]; omega)) (by first | omega | (simp (disch := omega) only [ti_add, ti_sub, b2t_, b2f_, li_0, li_1, li_4, li_9, li_14, li_28, li_40, li_160, li_720, li_m1]; omega)) (by first | omega | (simp (disch := omega) only [ti_add, ti_sub, b2t_, b2f_, li_0, li_1, li_4, li_9, li_14, li_28, li_40, li_160, li_720, li_m1]; omega))
  · skip
    have b_23_ : 0 ≤ (gi s0 28 9).toInt ∧ (gi s0 28 9).toInt ≤ 40 := (g_s0.1 28 9).2.2.2.1 rfl
    have j_24_ := ne_ti h_16_
    try simp (disch := omega) only [ti_add, ti_sub, b2t_, b2f_, li_0, li_1, li_4, li_9, li_14, li_28, li_40, li_160, li_720, li_m1] at j_24_
    exact hk_2 s0 g_s0 (by first | omega | (simp (disch := omega) only [ti_add, ti_sub, b2t_, b2f_, li_0, li_1, li_4, li_9, li_14, li_28, li_40, li_160, li_720, li_m1]; omega))
set_option maxHeartbeats 1000000 in
set_option maxRecDepth 20000 in
theorem tkX10_pass (a1 : Int32) (s0 : Sg) (h0 : I10_ s0)  : wp_ (fX10_pass a1 s0) (fun q => Z10_ s0 q.2) := by
  have g_s0 : Z10_ s0 s0 := Z10_.rf h0
  have hFU_ : FU = 1000000000 := rfl
  generalize hQ : (fun q : (Int32 × Sg) => Z10_ s0 q.2) = Q
  unfold fX10_pass
  rw [ixl_4]
  have L0_ := li_0
  have L1_ := li_1
  have L4_ := li_4
  have L24_ := li_24
  have L28_ := li_28
  have L99_ := li_99
  have M1_ := li_m1
  refine wp_bnd_i (tX10_isIn a1 0 99 s0 g_s0.1 ) (fun r_1 s_2 p_s_2 => ?_)
  have e_s_2 : s_2 = s0 := p_s_2.1
  have g_s_2 : Z10_ s0 s_2 := by rw [e_s_2]; exact g_s0
  have f_s_2 := p_s_2.2
  try dsimp only at f_s_2
  try simp (disch := omega) only [ti_add, ti_sub, b2t_, b2f_, li_0, li_1, li_4, li_24, li_28, li_99, li_m1] at f_s_2
  refine wp_if_i (fun h_1_ => ?_) (fun h_1_ => ?_)
  · skip
    have b_2_ := b2i_bd r_1
    have j_3_ := eq_ti h_1_
    try simp (disch := omega) only [ti_add, ti_sub, b2t_, b2f_, li_0, li_1, li_4, li_24, li_28, li_99, li_m1] at j_3_
    exact wp_some_i (by subst hQ; exact g_s_2)
  · skip
    have b_4_ := b2i_bd r_1
    have j_5_ := ne_ti h_1_
    try simp (disch := omega) only [ti_add, ti_sub, b2t_, b2f_, li_0, li_1, li_4, li_24, li_28, li_99, li_m1] at j_5_
    refine wp_bnv_i (tkX10_keep s_2 g_s_2.1 ) (fun s_3 p_s_3 => ?_)
    have g_s_3 := g_s_2.tr p_s_3
    try have m_6_ := ti_add (x := (gi s_3 28 4)) (y := a1) (by omega) (by omega)
    apply wp_bv_i
    intro s_4 e_s_4
    have g_s_4 : Z10_ s0 s_4 := by rw [e_s_4]; exact Z10_.si g_s_3 (by decide) (by refine ⟨?_, ?_, ?_, ?_, ?_, ?_⟩ <;> intro x_ <;> first | omega | (simp (disch := omega) only [ti_add, ti_sub, b2t_, b2f_, li_0, li_1, li_4, li_24, li_28, li_99, li_m1]; omega)) (fun _ hk_ => by unfold kp_ at hk_; omega)
    exact wp_some_i (by subst hQ; exact g_s_4)
set_option maxHeartbeats 1000000 in
set_option maxRecDepth 20000 in
theorem lkX10_undo_52_b {Q : (Int32 × Sg) → Prop} (S_ : Sg) (hI_ : I10_ S_) (v_2 : Int32) (k_6 : Sg → Option (Int32 × Sg)) (hk_6 : ∀ (z0_ : Sg), Z10_ S_ z0_ → wp_ (k_6 z0_) Q) (cp0_ : (v_2.toInt - 160) % 14 = 0 ∧ 160 ≤ v_2.toInt ∧ v_2.toInt ≤ 706) : ∀ (n : Nat) (x2_7 : Int32) (s_8 : Sg), Z10_ S_ s_8 → 0 ≤ x2_7.toInt → (12 - x2_7.toInt).toNat < n → wp_ (lo2 (fX10_undo_52_b v_2 k_6) n x2_7 s_8) Q := by
  intro n
  induction n with
  | zero =>
    intro x2_7 s_8 _ _ hm_
    exact absurd hm_ (Nat.not_lt_zero _)
  | succ n ih =>
    intro x2_7 s_8 g_s_8 i0_ hm_
    show wp_ (fX10_undo_52_b v_2 k_6 (lo2 (fX10_undo_52_b v_2 k_6) n) x2_7 s_8) Q
    have hrec := ih
    generalize lo2 (fX10_undo_52_b v_2 k_6) n = rc at hrec ⊢
    clear ih
    have hFU_ : FU = 1000000000 := rfl
    unfold fX10_undo_52_b
    have L0_ := li_0
    have L1_ := li_1
    have L2_ := li_2
    have L28_ := li_28
    have L720_ := li_720
    have M1_ := li_m1
    have m0_ := ti_add (x := v_2) (y := 1) (by omega) (by omega)
    have y1_ : ix (v_2 + 1) = (v_2 + 1).toInt.toNat := rfl
    have z_ := (g_s_8.1 28 (ix (v_2 + 1))).2.2.2.2.2 (by omega)
    try have m_1_ := ti_add (x := v_2) (y := 1) (by omega) (by omega)
    refine wp_chk_i (inb_ti (by first | omega | (simp (disch := omega) only [ti_add, ti_sub, b2t_, b2f_, li_0, li_1, li_2, li_28, li_720, li_m1]; omega)) (by first | omega | (simp (disch := omega) only [ti_add, ti_sub, b2t_, b2f_, li_0, li_1, li_2, li_28, li_720, li_m1]; omega))) ?_
    refine wp_if_i (fun h_2_ => ?_) (fun h_2_ => ?_)
    · skip
      have j_3_ := le_ti h_2_
      try simp (disch := omega) only [ti_add, ti_sub, b2t_, b2f_, li_0, li_1, li_2, li_28, li_720, li_m1] at j_3_
      exact hk_6 s_8 g_s_8 
    · skip
      have j_4_ := nle_ti h_2_
      try simp (disch := omega) only [ti_add, ti_sub, b2t_, b2f_, li_0, li_1, li_2, li_28, li_720, li_m1] at j_4_
      refine wp_bnd_i (tX10_thingAt x2_7 s_8 g_s_8.1 (by first | omega | (simp (disch := omega) only [ti_add, ti_sub, b2t_, b2f_, li_0, li_1, li_2, li_28, li_720, li_m1]; omega))) (fun r_10 s_11 p_s_11 => ?_)
      have e_s_11 : s_11 = s_8 := p_s_11.1
      have g_s_11 : Z10_ S_ s_11 := by rw [e_s_11]; exact g_s_8
      have f_s_11 := p_s_11.2
      try dsimp only at f_s_11
      try simp (disch := omega) only [ti_add, ti_sub, b2t_, b2f_, li_0, li_1, li_2, li_28, li_720, li_m1] at f_s_11
      try have m_5_ := ti_add (x := v_2) (y := 2) (by omega) (by omega)
      try have m_6_ := ti_add (x := (v_2 + 2)) (y := x2_7) (by omega) (by omega)
      refine wp_chk_i (inb_ti (by first | omega | (simp (disch := omega) only [ti_add, ti_sub, b2t_, b2f_, li_0, li_1, li_2, li_28, li_720, li_m1]; omega)) (by first | omega | (simp (disch := omega) only [ti_add, ti_sub, b2t_, b2f_, li_0, li_1, li_2, li_28, li_720, li_m1]; omega))) ?_
      try have m_7_ := ti_add (x := r_10) (y := 2) (by omega) (by omega)
      refine wp_chk_i (inb_ti (by first | omega | (simp (disch := omega) only [ti_add, ti_sub, b2t_, b2f_, li_0, li_1, li_2, li_28, li_720, li_m1]; omega)) (by first | omega | (simp (disch := omega) only [ti_add, ti_sub, b2t_, b2f_, li_0, li_1, li_2, li_28, li_720, li_m1]; omega))) ?_
      have x_8_ : ix (r_10 + 2) = ((r_10 + 2)).toInt.toNat := rfl
      apply wp_bv_i
      intro s_14 e_s_14
      have g_s_14 : Z10_ S_ s_14 := by rw [e_s_14]; exact Z10_.si g_s_11 (by decide) (by refine ⟨?_, ?_, ?_, ?_, ?_, ?_⟩ <;> intro x_ <;> first | omega | (simp (disch := omega) only [ti_add, ti_sub, b2t_, b2f_, li_0, li_1, li_2, li_28, li_720, li_m1]; omega)) (fun _ hk_ => by unfold kp_ at hk_; omega)
      apply wp_bv_i
      intro v_15 e_v_15
      have j_9_ := eq_ti e_v_15
      try simp (disch := omega) only [ti_add, ti_sub, b2t_, b2f_, li_0, li_1, li_2, li_28, li_720, li_m1] at j_9_
      exact hrec v_15 s_14 g_s_14 (by first | omega | (simp (disch := omega) only [ti_add, ti_sub, b2t_, b2f_, li_0, li_1, li_2, li_28, li_720, li_m1]; omega)) (by first | omega | (simp (disch := omega) only [ti_add, ti_sub, b2t_, b2f_, li_0, li_1, li_2, li_28, li_720, li_m1]; omega))
set_option maxHeartbeats 1000000 in
set_option maxRecDepth 20000 in
theorem tkX10_undo (s0 : Sg) (h0 : I10_ s0)  : wp_ (fX10_undo s0) (fun q => Z10_ s0 q.2) := by
  have g_s0 : Z10_ s0 s0 := Z10_.rf h0
  have hFU_ : FU = 1000000000 := rfl
  generalize hQ : (fun q : (Int32 × Sg) => Z10_ s0 q.2) = Q
  unfold fX10_undo
  rw [ixl_4, ixl_9]
  have L0_ := li_0
  have L1_ := li_1
  have L4_ := li_4
  have L9_ := li_9
  have L14_ := li_14
  have L28_ := li_28
  have L160_ := li_160
  have L720_ := li_720
  have M1_ := li_m1
  refine wp_if_i (fun h_1_ => ?_) (fun h_1_ => ?_)
  · skip
    have b_2_ : 0 ≤ (gi s0 28 9).toInt ∧ (gi s0 28 9).toInt ≤ 40 := (g_s0.1 28 9).2.2.2.1 rfl
    have j_3_ := eq_ti h_1_
    try simp (disch := omega) only [ti_add, ti_sub, b2t_, b2f_, li_0, li_1, li_4, li_9, li_14, li_28, li_160, li_720, li_m1] at j_3_
    exact wp_some_i (by subst hQ; exact g_s0)
  · skip
    have b_4_ : 0 ≤ (gi s0 28 9).toInt ∧ (gi s0 28 9).toInt ≤ 40 := (g_s0.1 28 9).2.2.2.1 rfl
    have j_5_ := ne_ti h_1_
    try simp (disch := omega) only [ti_add, ti_sub, b2t_, b2f_, li_0, li_1, li_4, li_9, li_14, li_28, li_160, li_720, li_m1] at j_5_
    try have m_6_ := ti_sub (x := (gi s0 28 9)) (y := 1) (by omega) (by omega)
    apply wp_bv_i
    intro s_1 e_s_1
    have g_s_1 : Z10_ s0 s_1 := by rw [e_s_1]; exact Z10_.si g_s0 (by decide) (by refine ⟨?_, ?_, ?_, ?_, ?_, ?_⟩ <;> intro x_ <;> first | omega | (simp (disch := omega) only [ti_add, ti_sub, b2t_, b2f_, li_0, li_1, li_4, li_9, li_14, li_28, li_160, li_720, li_m1]; omega)) (fun _ hk_ => by unfold kp_ at hk_; omega)
    have r_7_ : (gi s_1 28 9).toInt = ((((gi s0 28 9) - 1) : Int32)).toInt := by rw [e_s_1]; rw [gsi_eq]
    try simp (disch := omega) only [ti_add, ti_sub, b2t_, b2f_, li_0, li_1, li_4, li_9, li_14, li_28, li_160, li_720, li_m1] at r_7_
    have b_8_ : 0 ≤ (gi s_1 28 9).toInt ∧ (gi s_1 28 9).toInt ≤ 40 := (g_s_1.1 28 9).2.2.2.1 rfl
    try have m_9_ := tm_14 (x := (gi s_1 28 9)) (by omega) (by omega)
    apply wp_bv_i
    intro v_2 e_v_2
    have j_10_ := eq_ti e_v_2
    try simp (disch := omega) only [ti_add, ti_sub, b2t_, b2f_, li_0, li_1, li_4, li_9, li_14, li_28, li_160, li_720, li_m1] at j_10_
    refine wp_chk_i (inb_ti (by first | omega | (simp (disch := omega) only [ti_add, ti_sub, b2t_, b2f_, li_0, li_1, li_4, li_9, li_14, li_28, li_160, li_720, li_m1]; omega)) (by first | omega | (simp (disch := omega) only [ti_add, ti_sub, b2t_, b2f_, li_0, li_1, li_4, li_9, li_14, li_28, li_160, li_720, li_m1]; omega))) ?_
    apply wp_bv_i
    intro s_4 e_s_4
    have g_s_4 : Z10_ s0 s_4 := by rw [e_s_4]; exact Z10_.si g_s_1 (by decide) (by refine ⟨?_, ?_, ?_, ?_, ?_, ?_⟩ <;> intro x_ <;> first | omega | (simp (disch := omega) only [ti_add, ti_sub, b2t_, b2f_, li_0, li_1, li_4, li_9, li_14, li_28, li_160, li_720, li_m1]; omega)) (fun _ hk_ => by unfold kp_ at hk_; omega)
    refine wp_jn (fun k_6 => ∀ (s_5 : Sg), Z10_ s0 s_5 → wp_ (k_6 s_5) Q) ?_ (fun k_6 hk_6 => ?_)
    · intro s_5 g_s_5
      try dsimp only
      have b_11_ : 0 ≤ (gi s_5 28 9).toInt ∧ (gi s_5 28 9).toInt ≤ 40 := (g_s_5.1 28 9).2.2.2.1 rfl
      exact wp_some_i (by subst hQ; exact g_s_5)
    exact lkX10_undo_52_b s0 h0 v_2 k_6 hk_6 (by first | omega | (simp (disch := omega) only [ti_add, ti_sub, b2t_, b2f_, li_0, li_1, li_4, li_9, li_14, li_28, li_160, li_720, li_m1]; omega)) FU 0 s_4 g_s_4 (by first | omega | (simp (disch := omega) only [ti_add, ti_sub, b2t_, b2f_, li_0, li_1, li_4, li_9, li_14, li_28, li_160, li_720, li_m1]; omega)) (by first | omega | (simp (disch := omega) only [ti_add, ti_sub, b2t_, b2f_, li_0, li_1, li_4, li_9, li_14, li_28, li_160, li_720, li_m1]; omega))
set_option maxHeartbeats 1000000 in
set_option maxRecDepth 20000 in
theorem lkX10_balanced_53_b {Q : (Int32 × Sg) → Prop} (S_ : Sg) (hI_ : I10_ S_) (x4_27 : Int32) (k_32 : Sg → Option (Int32 × Sg)) (hk_32 : ∀ (z0_ : Sg), Z10_ S_ z0_ → wp_ (k_32 z0_) Q) (cp0_ : 0 ≤ x4_27.toInt ∧ x4_27.toInt ≤ 4095) : ∀ (n : Nat) (x5_34 : Int32) (s_35 : Sg), Z10_ S_ s_35 → 0 ≤ x5_34.toInt → (12 - x5_34.toInt).toNat < n → wp_ (lo2 (fX10_balanced_53_b x4_27 k_32) n x5_34 s_35) Q := by
  intro n
  induction n with
  | zero =>
    intro x5_34 s_35 _ _ hm_
    exact absurd hm_ (Nat.not_lt_zero _)
  | succ n ih =>
    intro x5_34 s_35 g_s_35 i0_ hm_
    show wp_ (fX10_balanced_53_b x4_27 k_32 (lo2 (fX10_balanced_53_b x4_27 k_32) n) x5_34 s_35) Q
    have hrec := ih
    generalize lo2 (fX10_balanced_53_b x4_27 k_32) n = rc at hrec ⊢
    clear ih
    have hFU_ : FU = 1000000000 := rfl
    unfold fX10_balanced_53_b
    rw [ixl_0]
    have L0_ := li_0
    have L1_ := li_1
    have L28_ := li_28
    have L44_ := li_44
    have L720_ := li_720
    have L4096_ := li_4096
    have M1_ := li_m1
    refine wp_if_i (fun h_1_ => ?_) (fun h_1_ => ?_)
    · skip
      have b_2_ : 0 ≤ (gi s_35 28 0).toInt ∧ (gi s_35 28 0).toInt ≤ 12 := (g_s_35.1 28 0).1 rfl
      have j_3_ := le_ti h_1_
      try simp (disch := omega) only [ti_add, ti_sub, b2t_, b2f_, li_0, li_1, li_28, li_44, li_720, li_4096, li_m1] at j_3_
      exact hk_32 s_35 g_s_35 
    · skip
      have b_4_ : 0 ≤ (gi s_35 28 0).toInt ∧ (gi s_35 28 0).toInt ≤ 12 := (g_s_35.1 28 0).1 rfl
      have j_5_ := nle_ti h_1_
      try simp (disch := omega) only [ti_add, ti_sub, b2t_, b2f_, li_0, li_1, li_28, li_44, li_720, li_4096, li_m1] at j_5_
      refine wp_chk_i (inb_ti (by first | omega | (simp (disch := omega) only [ti_add, ti_sub, b2t_, b2f_, li_0, li_1, li_28, li_44, li_720, li_4096, li_m1]; omega)) (by first | omega | (simp (disch := omega) only [ti_add, ti_sub, b2t_, b2f_, li_0, li_1, li_28, li_44, li_720, li_4096, li_m1]; omega))) ?_
      refine wp_bnd_i (tX10_has x4_27 x5_34 s_35 g_s_35.1 ) (fun r_37 s_38 p_s_38 => ?_)
      have e_s_38 : s_38 = s_35 := p_s_38
      have g_s_38 : Z10_ S_ s_38 := by rw [e_s_38]; exact g_s_35
      refine wp_jn (fun k_43 => ∀ (y_39 : Int32) (y_40 : Int32) (y_41 : Int32) (s_42 : Sg), Z10_ S_ s_42 → 0 ≤ y_39.toInt ∧ y_39.toInt ≤ 4095 → wp_ (k_43 y_39 y_40 y_41 s_42) Q) ?_ (fun k_43 hk_43 => ?_)
      · intro y_39 y_40 y_41 s_42 g_s_42 u_0_k_43
        try dsimp only
        refine wp_chk_i (inb_ti (by first | omega | (simp (disch := omega) only [ti_add, ti_sub, b2t_, b2f_, li_0, li_1, li_28, li_44, li_720, li_4096, li_m1]; omega)) (by first | omega | (simp (disch := omega) only [ti_add, ti_sub, b2t_, b2f_, li_0, li_1, li_28, li_44, li_720, li_4096, li_m1]; omega))) ?_
        try have m_6_ := ti_add (x := y_40) (y := y_41) (by omega) (by omega)
        apply wp_bv_i
        intro s_45 e_s_45
        have g_s_45 : Z10_ S_ s_45 := by rw [e_s_45]; exact Z10_.si g_s_42 (by decide) trivial (fun e_ => absurd e_ (by decide))
        apply wp_bv_i
        intro v_46 e_v_46
        have j_7_ := eq_ti e_v_46
        try simp (disch := omega) only [ti_add, ti_sub, b2t_, b2f_, li_0, li_1, li_28, li_44, li_720, li_4096, li_m1] at j_7_
        exact hrec v_46 s_45 g_s_45 (by first | omega | (simp (disch := omega) only [ti_add, ti_sub, b2t_, b2f_, li_0, li_1, li_28, li_44, li_720, li_4096, li_m1]; omega)) (by first | omega | (simp (disch := omega) only [ti_add, ti_sub, b2t_, b2f_, li_0, li_1, li_28, li_44, li_720, li_4096, li_m1]; omega))
      refine wp_if_i (fun h_8_ => ?_) (fun h_8_ => ?_)
      · skip
        have b_9_ := b2i_bd r_37
        have j_10_ := eq_ti h_8_
        try simp (disch := omega) only [ti_add, ti_sub, b2t_, b2f_, li_0, li_1, li_28, li_44, li_720, li_4096, li_m1] at j_10_
        exact hk_43 x4_27 (gi s_35 44 (ix x4_27)) 0 s_38 g_s_38 (by first | omega | (simp (disch := omega) only [ti_add, ti_sub, b2t_, b2f_, li_0, li_1, li_28, li_44, li_720, li_4096, li_m1]; omega))
      · skip
        have b_11_ := b2i_bd r_37
        have j_12_ := ne_ti h_8_
        try simp (disch := omega) only [ti_add, ti_sub, b2t_, b2f_, li_0, li_1, li_28, li_44, li_720, li_4096, li_m1] at j_12_
        refine wp_bnd_i (tX10_thingAt x5_34 s_38 g_s_38.1 (by first | omega | (simp (disch := omega) only [ti_add, ti_sub, b2t_, b2f_, li_0, li_1, li_28, li_44, li_720, li_4096, li_m1]; omega))) (fun r_47 s_48 p_s_48 => ?_)
        have e_s_48 : s_48 = s_38 := p_s_48.1
        have g_s_48 : Z10_ S_ s_48 := by rw [e_s_48]; exact g_s_38
        have f_s_48 := p_s_48.2
        try dsimp only at f_s_48
        try simp (disch := omega) only [ti_add, ti_sub, b2t_, b2f_, li_0, li_1, li_28, li_44, li_720, li_4096, li_m1] at f_s_48
        refine wp_chk_i (inb_ti (by first | omega | (simp (disch := omega) only [ti_add, ti_sub, b2t_, b2f_, li_0, li_1, li_28, li_44, li_720, li_4096, li_m1]; omega)) (by first | omega | (simp (disch := omega) only [ti_add, ti_sub, b2t_, b2f_, li_0, li_1, li_28, li_44, li_720, li_4096, li_m1]; omega))) ?_
        exact hk_43 x4_27 (gi s_35 44 (ix x4_27)) (gi s_48 28 (ix r_47)) s_48 g_s_48 (by first | omega | (simp (disch := omega) only [ti_add, ti_sub, b2t_, b2f_, li_0, li_1, li_28, li_44, li_720, li_4096, li_m1]; omega))
set_option maxHeartbeats 1000000 in
set_option maxRecDepth 20000 in
theorem lkX10_balanced_36_b {Q : (Int32 × Sg) → Prop} (S_ : Sg) (hI_ : I10_ S_) (v_5 : Int32) (k_7 : Sg → Option (Int32 × Sg)) (hk_7 : ∀ (z0_ : Sg), Z10_ S_ z0_ → wp_ (k_7 z0_) Q) (cp0_ : v_5.toInt ≤ 4095) : ∀ (n : Nat) (x4_27 : Int32) (s_28 : Sg), Z10_ S_ s_28 → 0 ≤ x4_27.toInt → (4096 - x4_27.toInt).toNat < n → wp_ (lo2 (fX10_balanced_36_b v_5 k_7) n x4_27 s_28) Q := by
  intro n
  induction n with
  | zero =>
    intro x4_27 s_28 _ _ hm_
    exact absurd hm_ (Nat.not_lt_zero _)
  | succ n ih =>
    intro x4_27 s_28 g_s_28 i0_ hm_
    show wp_ (fX10_balanced_36_b v_5 k_7 (lo2 (fX10_balanced_36_b v_5 k_7) n) x4_27 s_28) Q
    have hrec := ih
    generalize lo2 (fX10_balanced_36_b v_5 k_7) n = rc at hrec ⊢
    clear ih
    have hFU_ : FU = 1000000000 := rfl
    unfold fX10_balanced_36_b
    have L0_ := li_0
    have L1_ := li_1
    have L44_ := li_44
    have L4096_ := li_4096
    have M1_ := li_m1
    refine wp_if_i (fun h_1_ => ?_) (fun h_1_ => ?_)
    · skip
      have j_2_ := lt_ti h_1_
      try simp (disch := omega) only [ti_add, ti_sub, b2t_, b2f_, li_0, li_1, li_44, li_4096, li_m1] at j_2_
      exact hk_7 s_28 g_s_28 
    · skip
      have j_3_ := nlt_ti h_1_
      try simp (disch := omega) only [ti_add, ti_sub, b2t_, b2f_, li_0, li_1, li_44, li_4096, li_m1] at j_3_
      refine wp_chk_i (inb_ti (by first | omega | (simp (disch := omega) only [ti_add, ti_sub, b2t_, b2f_, li_0, li_1, li_44, li_4096, li_m1]; omega)) (by first | omega | (simp (disch := omega) only [ti_add, ti_sub, b2t_, b2f_, li_0, li_1, li_44, li_4096, li_m1]; omega))) ?_
      apply wp_bv_i
      intro s_30 e_s_30
      have g_s_30 : Z10_ S_ s_30 := by rw [e_s_30]; exact Z10_.si g_s_28 (by decide) trivial (fun e_ => absurd e_ (by decide))
      refine wp_jn (fun k_32 => ∀ (s_31 : Sg), Z10_ S_ s_31 → wp_ (k_32 s_31) Q) ?_ (fun k_32 hk_32 => ?_)
      · intro s_31 g_s_31
        try dsimp only
        apply wp_bv_i
        intro v_33 e_v_33
        have j_4_ := eq_ti e_v_33
        try simp (disch := omega) only [ti_add, ti_sub, b2t_, b2f_, li_0, li_1, li_44, li_4096, li_m1] at j_4_
        exact hrec v_33 s_31 g_s_31 (by first | omega | (simp (disch := omega) only [ti_add, ti_sub, b2t_, b2f_, li_0, li_1, li_44, li_4096, li_m1]; omega)) (by first | omega | (simp (disch := omega) only [ti_add, ti_sub, b2t_, b2f_, li_0, li_1, li_44, li_4096, li_m1]; omega))
      exact lkX10_balanced_53_b S_ hI_ x4_27 k_32 hk_32 (by first | omega | (simp (disch := omega) only [ti_add, ti_sub, b2t_, b2f_, li_0, li_1, li_44, li_4096, li_m1]; omega)) FU 0 s_30 g_s_30 (by first | omega | (simp (disch := omega) only [ti_add, ti_sub, b2t_, b2f_, li_0, li_1, li_44, li_4096, li_m1]; omega)) (by first | omega | (simp (disch := omega) only [ti_add, ti_sub, b2t_, b2f_, li_0, li_1, li_44, li_4096, li_m1]; omega))
set_option maxHeartbeats 1000000 in
set_option maxRecDepth 20000 in
theorem tkX10_tryBalanced (a1 : Int32) (a2 : Int32) (s0 : Sg) (h0 : I10_ s0)  : wp_ (fX10_tryBalanced a1 a2 s0) (fun q => Z10_ s0 q) := by
  have g_s0 : Z10_ s0 s0 := Z10_.rf h0
  have hFU_ : FU = 1000000000 := rfl
  generalize hQ : (fun q : (Sg) => Z10_ s0 q) = Q
  unfold fX10_tryBalanced
  rw [ixl_0, ixl_1, ixl_2]
  have L0_ := li_0
  have L1_ := li_1
  have L2_ := li_2
  have L43_ := li_43
  have M1_ := li_m1
  refine wp_bnd_i (tX10_bits a1 s0 g_s0.1 ) (fun r_1 s_2 p_s_2 => ?_)
  have e_s_2 : s_2 = s0 := p_s_2
  have g_s_2 : Z10_ s0 s_2 := by rw [e_s_2]; exact g_s0
  refine wp_jn (fun k_4 => ∀ (y_3 : Bool), wp_ (k_4 y_3) Q) ?_ (fun k_4 hk_4 => ?_)
  · intro y_3
    try dsimp only
    refine wp_if_i (fun h_1_ => ?_) (fun h_1_ => ?_)
    · skip
      have b_2_ := b2i_bd y_3
      have j_3_ := eq_ti h_1_
      try simp (disch := omega) only [ti_add, ti_sub, b2t_, b2f_, li_0, li_1, li_2, li_43, li_m1] at j_3_
      exact wp_some_i (by subst hQ; exact g_s_2)
    · skip
      have b_4_ := b2i_bd y_3
      have j_5_ := ne_ti h_1_
      try simp (disch := omega) only [ti_add, ti_sub, b2t_, b2f_, li_0, li_1, li_2, li_43, li_m1] at j_5_
      apply wp_bv_i
      intro s_5 e_s_5
      have g_s_5 : Z10_ s0 s_5 := by rw [e_s_5]; exact Z10_.si g_s_2 (by decide) trivial (fun e_ => absurd e_ (by decide))
      apply wp_bv_i
      intro s_6 e_s_6
      have g_s_6 : Z10_ s0 s_6 := by rw [e_s_6]; exact Z10_.si g_s_5 (by decide) trivial (fun e_ => absurd e_ (by decide))
      apply wp_bv_i
      intro s_7 e_s_7
      have g_s_7 : Z10_ s0 s_7 := by rw [e_s_7]; exact Z10_.si g_s_6 (by decide) trivial (fun e_ => absurd e_ (by decide))
      exact wp_some_i (by subst hQ; exact g_s_7)
  refine wp_jn (fun k_8 => wp_ k_8 Q) ?_ (fun k_8 hk_8 => ?_)
  · skip
    exact hk_4 true  
  refine wp_if_i (fun h_6_ => ?_) (fun h_6_ => ?_)
  · skip
    have j_7_ := lt_ti h_6_
    try simp (disch := omega) only [ti_add, ti_sub, b2t_, b2f_, li_0, li_1, li_2, li_43, li_m1] at j_7_
    exact hk_8   
  · skip
    have j_8_ := nlt_ti h_6_
    try simp (disch := omega) only [ti_add, ti_sub, b2t_, b2f_, li_0, li_1, li_2, li_43, li_m1] at j_8_
    refine wp_if_i (fun h_9_ => ?_) (fun h_9_ => ?_)
    · skip
      have j_10_ := lt_ti h_9_
      try simp (disch := omega) only [ti_add, ti_sub, b2t_, b2f_, li_0, li_1, li_2, li_43, li_m1] at j_10_
      exact hk_8   
    · skip
      have j_11_ := nlt_ti h_9_
      try simp (disch := omega) only [ti_add, ti_sub, b2t_, b2f_, li_0, li_1, li_2, li_43, li_m1] at j_11_
      refine wp_jn (fun k_9 => wp_ k_9 Q) ?_ (fun k_9 hk_9 => ?_)
      · skip
        exact hk_4 false  
      refine wp_if_i (fun h_12_ => ?_) (fun h_12_ => ?_)
      · skip
        have j_13_ := eq_ti h_12_
        try simp (disch := omega) only [ti_add, ti_sub, b2t_, b2f_, li_0, li_1, li_2, li_43, li_m1] at j_13_
        refine wp_if_i (fun h_14_ => ?_) (fun h_14_ => ?_)
        · skip
          have j_15_ := lt_ti h_14_
          try simp (disch := omega) only [ti_add, ti_sub, b2t_, b2f_, li_0, li_1, li_2, li_43, li_m1] at j_15_
          exact hk_8   
        · skip
          have j_16_ := nlt_ti h_14_
          try simp (disch := omega) only [ti_add, ti_sub, b2t_, b2f_, li_0, li_1, li_2, li_43, li_m1] at j_16_
          refine wp_if_i (fun h_17_ => ?_) (fun h_17_ => ?_)
          · skip
            have j_18_ := eq_ti h_17_
            try simp (disch := omega) only [ti_add, ti_sub, b2t_, b2f_, li_0, li_1, li_2, li_43, li_m1] at j_18_
            refine wp_if_i (fun h_19_ => ?_) (fun h_19_ => ?_)
            · skip
              have j_20_ := le_ti h_19_
              try simp (disch := omega) only [ti_add, ti_sub, b2t_, b2f_, li_0, li_1, li_2, li_43, li_m1] at j_20_
              exact hk_9   
            · skip
              have j_21_ := nle_ti h_19_
              try simp (disch := omega) only [ti_add, ti_sub, b2t_, b2f_, li_0, li_1, li_2, li_43, li_m1] at j_21_
              exact hk_8   
          · skip
            have j_22_ := ne_ti h_17_
            try simp (disch := omega) only [ti_add, ti_sub, b2t_, b2f_, li_0, li_1, li_2, li_43, li_m1] at j_22_
            exact hk_9   
      · skip
        have j_23_ := ne_ti h_12_
        try simp (disch := omega) only [ti_add, ti_sub, b2t_, b2f_, li_0, li_1, li_2, li_43, li_m1] at j_23_
        exact hk_9   
set_option maxHeartbeats 1000000 in
set_option maxRecDepth 20000 in
theorem lkX10_balanced_156_b {Q : (Int32 × Sg) → Prop} (S_ : Sg) (hI_ : I10_ S_) (a1 : Int32) (x4_12 : Int32) (k_15 : Sg → Option (Int32 × Sg)) (hk_15 : ∀ (z0_ : Sg), Z10_ S_ z0_ → wp_ (k_15 z0_) Q) (cp0_ : 0 ≤ x4_12.toInt ∧ x4_12.toInt ≤ 4095) : ∀ (n : Nat) (x5_19 : Int32) (s_20 : Sg), Z10_ S_ s_20 → 0 ≤ x5_19.toInt ∧ x5_19.toInt ≤ 4095 → (x5_19.toInt).toNat < n → wp_ (lo2 (fX10_balanced_156_b a1 x4_12 k_15) n x5_19 s_20) Q := by
  intro n
  induction n with
  | zero =>
    intro x5_19 s_20 _ _ hm_
    exact absurd hm_ (Nat.not_lt_zero _)
  | succ n ih =>
    intro x5_19 s_20 g_s_20 i0_ hm_
    show wp_ (fX10_balanced_156_b a1 x4_12 k_15 (lo2 (fX10_balanced_156_b a1 x4_12 k_15) n) x5_19 s_20) Q
    have hrec := ih
    generalize lo2 (fX10_balanced_156_b a1 x4_12 k_15) n = rc at hrec ⊢
    clear ih
    have hFU_ : FU = 1000000000 := rfl
    unfold fX10_balanced_156_b
    have L0_ := li_0
    have L1_ := li_1
    have L2_ := li_2
    have L44_ := li_44
    have L4096_ := li_4096
    have M1_ := li_m1
    refine wp_if_i (fun h_1_ => ?_) (fun h_1_ => ?_)
    · skip
      have j_2_ := le_ti h_1_
      try simp (disch := omega) only [ti_add, ti_sub, b2t_, b2f_, li_0, li_1, li_2, li_44, li_4096, li_m1] at j_2_
      exact hk_15 s_20 g_s_20 
    · skip
      have j_3_ := nle_ti h_1_
      try simp (disch := omega) only [ti_add, ti_sub, b2t_, b2f_, li_0, li_1, li_2, li_44, li_4096, li_m1] at j_3_
      try have m_4_ := ti_sub (x := x5_19) (y := 1) (by omega) (by omega)
      apply wp_bv_i
      intro v_21 e_v_21
      have ab_ := and_bd (x5_19 - 1) x4_12 (by omega)
      have ac_ := and_bd x4_12 (x5_19 - 1) (by first | omega | (rw [ti_sub (by omega) (by omega)]; omega))
      rw [Int32.and_comm, ← e_v_21] at ac_
      rw [← e_v_21] at ab_
      rw [ti_sub (by omega) (by omega)] at ac_
      have j_5_ := eq_ti e_v_21
      try simp (disch := omega) only [ti_add, ti_sub, b2t_, b2f_, li_0, li_1, li_2, li_44, li_4096, li_m1] at j_5_
      refine wp_chk_i (inb_ti (by first | omega | (simp (disch := omega) only [ti_add, ti_sub, b2t_, b2f_, li_0, li_1, li_2, li_44, li_4096, li_m1]; omega)) (by first | omega | (simp (disch := omega) only [ti_add, ti_sub, b2t_, b2f_, li_0, li_1, li_2, li_44, li_4096, li_m1]; omega))) ?_
      refine wp_chk_i (inb_ti (by first | omega | (simp (disch := omega) only [ti_add, ti_sub, b2t_, b2f_, li_0, li_1, li_2, li_44, li_4096, li_m1]; omega)) (by first | omega | (simp (disch := omega) only [ti_add, ti_sub, b2t_, b2f_, li_0, li_1, li_2, li_44, li_4096, li_m1]; omega))) ?_
      refine wp_if_i (fun h_6_ => ?_) (fun h_6_ => ?_)
      · skip
        try have m_7_ := tm_2 (x := (gi s_20 44 (ix v_21))) (by omega) (by omega)
        try have m_8_ := ti_sub (x := (gi s_20 44 (ix x4_12))) (y := (2 * (gi s_20 44 (ix v_21)))) (by omega) (by omega)
        have j_9_ := eq_ti h_6_
        try simp (disch := omega) only [ti_add, ti_sub, b2t_, b2f_, li_0, li_1, li_2, li_44, li_4096, li_m1] at j_9_
        refine wp_bnv_i (tkX10_tryBalanced x4_12 v_21 s_20 g_s_20.1 ) (fun s_24 p_s_24 => ?_)
        have g_s_24 := g_s_20.tr p_s_24
        exact hrec v_21 s_24 g_s_24 (by first | omega | (simp (disch := omega) only [ti_add, ti_sub, b2t_, b2f_, li_0, li_1, li_2, li_44, li_4096, li_m1]; omega)) (by first | omega | (simp (disch := omega) only [ti_add, ti_sub, b2t_, b2f_, li_0, li_1, li_2, li_44, li_4096, li_m1]; omega))
      · skip
        try have m_10_ := tm_2 (x := (gi s_20 44 (ix v_21))) (by omega) (by omega)
        try have m_11_ := ti_sub (x := (gi s_20 44 (ix x4_12))) (y := (2 * (gi s_20 44 (ix v_21)))) (by omega) (by omega)
        have j_12_ := ne_ti h_6_
        try simp (disch := omega) only [ti_add, ti_sub, b2t_, b2f_, li_0, li_1, li_2, li_44, li_4096, li_m1] at j_12_
        exact hrec v_21 s_20 g_s_20 (by first | omega | (simp (disch := omega) only [ti_add, ti_sub, b2t_, b2f_, li_0, li_1, li_2, li_44, li_4096, li_m1]; omega)) (by first | omega | (simp (disch := omega) only [ti_add, ti_sub, b2t_, b2f_, li_0, li_1, li_2, li_44, li_4096, li_m1]; omega))
set_option maxHeartbeats 1000000 in
set_option maxRecDepth 20000 in
theorem lkX10_balanced_120_b {Q : (Int32 × Sg) → Prop} (S_ : Sg) (hI_ : I10_ S_) (a1 : Int32) (v_5 : Int32) (k_10 : Sg → Option (Int32 × Sg)) (hk_10 : ∀ (z0_ : Sg), Z10_ S_ z0_ → wp_ (k_10 z0_) Q) (cp0_ : v_5.toInt ≤ 4095) : ∀ (n : Nat) (x4_12 : Int32) (s_13 : Sg), Z10_ S_ s_13 → 1 ≤ x4_12.toInt → (4097 - x4_12.toInt).toNat < n → wp_ (lo2 (fX10_balanced_120_b a1 v_5 k_10) n x4_12 s_13) Q := by
  intro n
  induction n with
  | zero =>
    intro x4_12 s_13 _ _ hm_
    exact absurd hm_ (Nat.not_lt_zero _)
  | succ n ih =>
    intro x4_12 s_13 g_s_13 i0_ hm_
    show wp_ (fX10_balanced_120_b a1 v_5 k_10 (lo2 (fX10_balanced_120_b a1 v_5 k_10) n) x4_12 s_13) Q
    have hrec := ih
    generalize lo2 (fX10_balanced_120_b a1 v_5 k_10) n = rc at hrec ⊢
    clear ih
    have hFU_ : FU = 1000000000 := rfl
    unfold fX10_balanced_120_b
    rw [ixl_0]
    have L0_ := li_0
    have L1_ := li_1
    have L43_ := li_43
    have M1_ := li_m1
    refine wp_if_i (fun h_1_ => ?_) (fun h_1_ => ?_)
    · skip
      have j_2_ := lt_ti h_1_
      try simp (disch := omega) only [ti_add, ti_sub, b2t_, b2f_, li_0, li_1, li_43, li_m1] at j_2_
      exact hk_10 s_13 g_s_13 
    · skip
      have j_3_ := nlt_ti h_1_
      try simp (disch := omega) only [ti_add, ti_sub, b2t_, b2f_, li_0, li_1, li_43, li_m1] at j_3_
      refine wp_jn (fun k_15 => ∀ (s_14 : Sg), Z10_ S_ s_14 → wp_ (k_15 s_14) Q) ?_ (fun k_15 hk_15 => ?_)
      · intro s_14 g_s_14
        try dsimp only
        apply wp_bv_i
        intro v_16 e_v_16
        have j_4_ := eq_ti e_v_16
        try simp (disch := omega) only [ti_add, ti_sub, b2t_, b2f_, li_0, li_1, li_43, li_m1] at j_4_
        exact hrec v_16 s_14 g_s_14 (by first | omega | (simp (disch := omega) only [ti_add, ti_sub, b2t_, b2f_, li_0, li_1, li_43, li_m1]; omega)) (by first | omega | (simp (disch := omega) only [ti_add, ti_sub, b2t_, b2f_, li_0, li_1, li_43, li_m1]; omega))
      refine wp_jn (fun k_18 => ∀ (s_17 : Sg), Z10_ S_ s_17 → wp_ (k_18 s_17) Q) ?_ (fun k_18 hk_18 => ?_)
      · intro s_17 g_s_17
        try dsimp only
        exact lkX10_balanced_156_b S_ hI_ a1 x4_12 k_15 hk_15 (by first | omega | (simp (disch := omega) only [ti_add, ti_sub, b2t_, b2f_, li_0, li_1, li_43, li_m1]; omega)) FU x4_12 s_17 g_s_17 (by first | omega | (simp (disch := omega) only [ti_add, ti_sub, b2t_, b2f_, li_0, li_1, li_43, li_m1]; omega)) (by first | omega | (simp (disch := omega) only [ti_add, ti_sub, b2t_, b2f_, li_0, li_1, li_43, li_m1]; omega))
      refine wp_if_i (fun h_5_ => ?_) (fun h_5_ => ?_)
      · skip
        have j_6_ := lt_ti h_5_
        try simp (disch := omega) only [ti_add, ti_sub, b2t_, b2f_, li_0, li_1, li_43, li_m1] at j_6_
        exact hk_18 s_13 g_s_13 
      · skip
        have j_7_ := nlt_ti h_5_
        try simp (disch := omega) only [ti_add, ti_sub, b2t_, b2f_, li_0, li_1, li_43, li_m1] at j_7_
        refine wp_bnd_i (tX10_bits x4_12 s_13 g_s_13.1 ) (fun r_25 s_26 p_s_26 => ?_)
        have e_s_26 : s_26 = s_13 := p_s_26
        have g_s_26 : Z10_ S_ s_26 := by rw [e_s_26]; exact g_s_13
        refine wp_if_i (fun h_8_ => ?_) (fun h_8_ => ?_)
        · skip
          have j_9_ := le_ti h_8_
          try simp (disch := omega) only [ti_add, ti_sub, b2t_, b2f_, li_0, li_1, li_43, li_m1] at j_9_
          exact hk_18 s_26 g_s_26 
        · skip
          have j_10_ := nle_ti h_8_
          try simp (disch := omega) only [ti_add, ti_sub, b2t_, b2f_, li_0, li_1, li_43, li_m1] at j_10_
          exact hk_15 s_26 g_s_26 
set_option maxHeartbeats 1000000 in
set_option maxRecDepth 20000 in
theorem tkX10_balanced (a1 : Int32) (a2 : Int32) (s0 : Sg) (h0 : I10_ s0)  : wp_ (fX10_balanced a1 a2 s0) (fun q => Z10_ s0 q.2) := by
  have g_s0 : Z10_ s0 s0 := Z10_.rf h0
  have hFU_ : FU = 1000000000 := rfl
  generalize hQ : (fun q : (Int32 × Sg) => Z10_ s0 q.2) = Q
  unfold fX10_balanced
  rw [ixl_0]
  have L0_ := li_0
  have L1_ := li_1
  have L2_ := li_2
  have L3_ := li_3
  have L28_ := li_28
  have L31_ := li_31
  have L43_ := li_43
  have L999_ := li_999
  have M1_ := li_m1
  refine wp_bnd_i (tX10_isIn a1 1 999 s0 g_s0.1 ) (fun r_1 s_2 p_s_2 => ?_)
  have e_s_2 : s_2 = s0 := p_s_2.1
  have g_s_2 : Z10_ s0 s_2 := by rw [e_s_2]; exact g_s0
  have f_s_2 := p_s_2.2
  try dsimp only at f_s_2
  try simp (disch := omega) only [ti_add, ti_sub, b2t_, b2f_, li_0, li_1, li_2, li_3, li_28, li_31, li_43, li_999, li_m1] at f_s_2
  refine wp_if_i (fun h_1_ => ?_) (fun h_1_ => ?_)
  · skip
    have b_2_ := b2i_bd r_1
    have j_3_ := eq_ti h_1_
    try simp (disch := omega) only [ti_add, ti_sub, b2t_, b2f_, li_0, li_1, li_2, li_3, li_28, li_31, li_43, li_999, li_m1] at j_3_
    exact wp_some_i (by subst hQ; exact g_s_2)
  · skip
    have b_4_ := b2i_bd r_1
    have j_5_ := ne_ti h_1_
    try simp (disch := omega) only [ti_add, ti_sub, b2t_, b2f_, li_0, li_1, li_2, li_3, li_28, li_31, li_43, li_999, li_m1] at j_5_
    refine wp_bnd_i (tX10_isIn a2 0 2 s_2 g_s_2.1 ) (fun r_3 s_4 p_s_4 => ?_)
    have e_s_4 : s_4 = s_2 := p_s_4.1
    have g_s_4 : Z10_ s0 s_4 := by rw [e_s_4]; exact g_s_2
    have f_s_4 := p_s_4.2
    try dsimp only at f_s_4
    try simp (disch := omega) only [ti_add, ti_sub, b2t_, b2f_, li_0, li_1, li_2, li_3, li_28, li_31, li_43, li_999, li_m1] at f_s_4
    refine wp_if_i (fun h_6_ => ?_) (fun h_6_ => ?_)
    · skip
      have b_7_ := b2i_bd r_3
      have j_8_ := eq_ti h_6_
      try simp (disch := omega) only [ti_add, ti_sub, b2t_, b2f_, li_0, li_1, li_2, li_3, li_28, li_31, li_43, li_999, li_m1] at j_8_
      exact wp_some_i (by subst hQ; exact g_s_4)
    · skip
      have b_9_ := b2i_bd r_3
      have j_10_ := ne_ti h_6_
      try simp (disch := omega) only [ti_add, ti_sub, b2t_, b2f_, li_0, li_1, li_2, li_3, li_28, li_31, li_43, li_999, li_m1] at j_10_
      have b_11_ : 0 ≤ (gi s0 28 0).toInt ∧ (gi s0 28 0).toInt ≤ 12 := (g_s0.1 28 0).1 rfl
      have r_12_ : (gi s_2 28 0).toInt = (gi s0 28 0).toInt := by rw [e_s_2]
      have b_13_ : 0 ≤ (gi s_2 28 0).toInt ∧ (gi s_2 28 0).toInt ≤ 12 := (g_s_2.1 28 0).1 rfl
      have r_14_ : (gi s_4 28 0).toInt = (gi s_2 28 0).toInt := by rw [e_s_4]
      have b_15_ : 0 ≤ (gi s_4 28 0).toInt ∧ (gi s_4 28 0).toInt ≤ 12 := (g_s_4.1 28 0).1 rfl
      have sh_16_ := shl_le (gi s_4 28 0) 12 (by first | omega | (simp (disch := omega) only [ti_add, ti_sub, b2t_, b2f_, li_0, li_1, li_2, li_3, li_28, li_31, li_43, li_999, li_m1]; omega)) (by first | omega | (simp (disch := omega) only [ti_add, ti_sub, b2t_, b2f_, li_0, li_1, li_2, li_3, li_28, li_31, li_43, li_999, li_m1]; omega)) (by decide)
      try simp only [Nat.reducePow, Nat.cast_ofNat, Int.reducePow] at sh_16_
      apply wp_bv_i
      intro v_5 e_v_5
      have j_17_ := eq_ti e_v_5
      try simp (disch := omega) only [ti_add, ti_sub, b2t_, b2f_, li_0, li_1, li_2, li_3, li_28, li_31, li_43, li_999, li_m1] at j_17_
      refine wp_jn (fun k_7 => ∀ (s_6 : Sg), Z10_ s0 s_6 → wp_ (k_7 s_6) Q) ?_ (fun k_7 hk_7 => ?_)
      · intro s_6 g_s_6
        try dsimp only
        apply wp_bv_i
        intro s_8 e_s_8
        have g_s_8 : Z10_ s0 s_8 := by rw [e_s_8]; exact Z10_.si g_s_6 (by decide) trivial (fun e_ => absurd e_ (by decide))
        refine wp_jn (fun k_10 => ∀ (s_9 : Sg), Z10_ s0 s_9 → wp_ (k_10 s_9) Q) ?_ (fun k_10 hk_10 => ?_)
        · intro s_9 g_s_9
          try dsimp only
          refine wp_if_i (fun h_18_ => ?_) (fun h_18_ => ?_)
          · skip
            have j_19_ := le_ti h_18_
            try simp (disch := omega) only [ti_add, ti_sub, b2t_, b2f_, li_0, li_1, li_2, li_3, li_28, li_31, li_43, li_999, li_m1] at j_19_
            refine wp_chk_i (inb_ti (by first | omega | (simp (disch := omega) only [ti_add, ti_sub, b2t_, b2f_, li_0, li_1, li_2, li_3, li_28, li_31, li_43, li_999, li_m1]; omega)) (by first | omega | (simp (disch := omega) only [ti_add, ti_sub, b2t_, b2f_, li_0, li_1, li_2, li_3, li_28, li_31, li_43, li_999, li_m1]; omega))) ?_
            exact wp_some_i (by subst hQ; exact g_s_9)
          · skip
            have j_20_ := nle_ti h_18_
            try simp (disch := omega) only [ti_add, ti_sub, b2t_, b2f_, li_0, li_1, li_2, li_3, li_28, li_31, li_43, li_999, li_m1] at j_20_
            exact wp_some_i (by subst hQ; exact g_s_9)
        exact lkX10_balanced_120_b s0 h0 a1 v_5 k_10 hk_10 (by first | omega | (simp (disch := omega) only [ti_add, ti_sub, b2t_, b2f_, li_0, li_1, li_2, li_3, li_28, li_31, li_43, li_999, li_m1]; omega)) FU 1 s_8 g_s_8 (by first | omega | (simp (disch := omega) only [ti_add, ti_sub, b2t_, b2f_, li_0, li_1, li_2, li_3, li_28, li_31, li_43, li_999, li_m1]; omega)) (by first | omega | (simp (disch := omega) only [ti_add, ti_sub, b2t_, b2f_, li_0, li_1, li_2, li_3, li_28, li_31, li_43, li_999, li_m1]; omega))
      exact lkX10_balanced_36_b s0 h0 v_5 k_7 hk_7 (by first | omega | (simp (disch := omega) only [ti_add, ti_sub, b2t_, b2f_, li_0, li_1, li_2, li_3, li_28, li_31, li_43, li_999, li_m1]; omega)) FU 0 s_4 g_s_4 (by first | omega | (simp (disch := omega) only [ti_add, ti_sub, b2t_, b2f_, li_0, li_1, li_2, li_3, li_28, li_31, li_43, li_999, li_m1]; omega)) (by first | omega | (simp (disch := omega) only [ti_add, ti_sub, b2t_, b2f_, li_0, li_1, li_2, li_3, li_28, li_31, li_43, li_999, li_m1]; omega))
