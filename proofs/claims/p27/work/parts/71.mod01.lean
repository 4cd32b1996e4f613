set_option maxHeartbeats 1000000 in
set_option maxRecDepth 20000 in
theorem tX10_lying (a1 : Int32) (s0 : Sg) (h0 : I10_ s0)  : wp_ (fX10_lying a1 s0) (fun q => q.2 = s0) := by
  have g_s0 : N10_ s0 s0 := N10_.rf h0
  have hFU_ : FU = 1000000000 := rfl
  generalize hQ : (fun q : (Int32 × Sg) => q.2 = s0) = Q
  unfold fX10_lying
  have L0_ := li_0
  have L1_ := li_1
  have M1_ := li_m1
  exact lX10_lying_4_b s0 h0 a1  (fun q hq => by subst hQ; exact hq)  FU 0 0 s0 rfl (by first | omega | (simp (disch := omega) only [ti_add, ti_sub, b2t_, b2f_, li_0, li_1, li_m1]; omega)) (by first | omega | (simp (disch := omega) only [ti_add, ti_sub, b2t_, b2f_, li_0, li_1, li_m1]; omega))
set_option maxHeartbeats 1000000 in
set_option maxRecDepth 20000 in
theorem tX10_about (a1 : Int32) (s0 : Sg) (h0 : I10_ s0)  : wp_ (fX10_about a1 s0) (fun q => q.2 = s0) := by
  have g_s0 : N10_ s0 s0 := N10_.rf h0
  have hFU_ : FU = 1000000000 := rfl
  generalize hQ : (fun q : (Int32 × Sg) => q.2 = s0) = Q
  unfold fX10_about
  have L0_ := li_0
  have L1_ := li_1
  have L4_ := li_4
  have L10_ := li_10
  have L11_ := li_11
  have L12_ := li_12
  have L13_ := li_13
  have L27_ := li_27
  have L28_ := li_28
  have L100_ := li_100
  have L720_ := li_720
  have M1_ := li_m1
  have M100_ := li_m100
  refine wp_bnd_i (tX10_isIn a1 0 10 s0 g_s0.1 ) (fun r_1 s_2 p_s_2 => ?_)
  have e_s_2 : s_2 = s0 := p_s_2.1
  have g_s_2 : N10_ s0 s_2 := by rw [e_s_2]; exact g_s0
  have f_s_2 := p_s_2.2
  try dsimp only at f_s_2
  try simp (disch := omega) only [ti_add, ti_sub, b2t_, b2f_, li_0, li_1, li_4, li_10, li_11, li_12, li_13, li_27, li_28, li_100, li_720, li_m1, li_m100] at f_s_2
  refine wp_if_i (fun h_1_ => ?_) (fun h_1_ => ?_)
  · skip
    have b_2_ := b2i_bd r_1
    have j_3_ := eq_ti h_1_
    try simp (disch := omega) only [ti_add, ti_sub, b2t_, b2f_, li_0, li_1, li_4, li_10, li_11, li_12, li_13, li_27, li_28, li_100, li_720, li_m1, li_m100] at j_3_
    refine wp_if_i (fun h_4_ => ?_) (fun h_4_ => ?_)
    · skip
      have j_5_ := eq_ti h_4_
      try simp (disch := omega) only [ti_add, ti_sub, b2t_, b2f_, li_0, li_1, li_4, li_10, li_11, li_12, li_13, li_27, li_28, li_100, li_720, li_m1, li_m100] at j_5_
      have b_6_ : 0 ≤ (gi s0 27 4).toInt ∧ (gi s0 27 4).toInt ≤ 300 := g_s0.1 27 4
      have r_7_ : (gi s_2 27 4).toInt = (gi s0 27 4).toInt := by rw [e_s_2]
      have b_8_ : 0 ≤ (gi s_2 27 4).toInt ∧ (gi s_2 27 4).toInt ≤ 300 := g_s_2.1 27 4
      exact wp_some_i (by subst hQ; exact (by rw [e_s_2]))
    · skip
      have j_9_ := ne_ti h_4_
      try simp (disch := omega) only [ti_add, ti_sub, b2t_, b2f_, li_0, li_1, li_4, li_10, li_11, li_12, li_13, li_27, li_28, li_100, li_720, li_m1, li_m100] at j_9_
      refine wp_jn (fun k_3 => wp_ k_3 Q) ?_ (fun k_3 hk_3 => ?_)
      · skip
        try have m_10_ := ti_sub (x := a1) (y := 12) (by omega) (by omega)
        refine wp_bnd_i (tX10_lying (a1 - 12) s_2 g_s_2.1 ) (fun r_4 s_5 p_s_5 => ?_)
        have e_s_5 : s_5 = s_2 := p_s_5
        have g_s_5 : N10_ s0 s_5 := by rw [e_s_5]; exact g_s_2
        exact wp_some_i (by subst hQ; exact (by rw [e_s_5, e_s_2]))
      refine wp_if_i (fun h_11_ => ?_) (fun h_11_ => ?_)
      · skip
        have j_12_ := eq_ti h_11_
        try simp (disch := omega) only [ti_add, ti_sub, b2t_, b2f_, li_0, li_1, li_4, li_10, li_11, li_12, li_13, li_27, li_28, li_100, li_720, li_m1, li_m100] at j_12_
        exact hk_3   
      · skip
        have j_13_ := ne_ti h_11_
        try simp (disch := omega) only [ti_add, ti_sub, b2t_, b2f_, li_0, li_1, li_4, li_10, li_11, li_12, li_13, li_27, li_28, li_100, li_720, li_m1, li_m100] at j_13_
        refine wp_if_i (fun h_14_ => ?_) (fun h_14_ => ?_)
        · skip
          have j_15_ := eq_ti h_14_
          try simp (disch := omega) only [ti_add, ti_sub, b2t_, b2f_, li_0, li_1, li_4, li_10, li_11, li_12, li_13, li_27, li_28, li_100, li_720, li_m1, li_m100] at j_15_
          exact hk_3   
        · skip
          have j_16_ := ne_ti h_14_
          try simp (disch := omega) only [ti_add, ti_sub, b2t_, b2f_, li_0, li_1, li_4, li_10, li_11, li_12, li_13, li_27, li_28, li_100, li_720, li_m1, li_m100] at j_16_
          exact wp_some_i (by subst hQ; exact (by rw [e_s_2]))
  · skip
    have b_17_ := b2i_bd r_1
    have j_18_ := ne_ti h_1_
    try simp (disch := omega) only [ti_add, ti_sub, b2t_, b2f_, li_0, li_1, li_4, li_10, li_11, li_12, li_13, li_27, li_28, li_100, li_720, li_m1, li_m100] at j_18_
    refine wp_chk_i (inb_ti (by first | omega | (simp (disch := omega) only [ti_add, ti_sub, b2t_, b2f_, li_0, li_1, li_4, li_10, li_11, li_12, li_13, li_27, li_28, li_100, li_720, li_m1, li_m100]; omega)) (by first | omega | (simp (disch := omega) only [ti_add, ti_sub, b2t_, b2f_, li_0, li_1, li_4, li_10, li_11, li_12, li_13, li_27, li_28, li_100, li_720, li_m1, li_m100]; omega))) ?_
    exact wp_some_i (by subst hQ; exact (by rw [e_s_2]))
set_option maxHeartbeats 1000000 in
set_option maxRecDepth 20000 in
theorem lX10_copy_i_2_b {Q : (Sg) → Prop} (S_ : Sg) (hI_ : I10_ S_)  (hsome : ∀ q : (Sg), N10_ S_ q → Q q)  : ∀ (n : Nat) (x2_1 : Int32) (s_2 : Sg), N10_ S_ s_2 → 0 ≤ x2_1.toInt → (720 - x2_1.toInt).toNat < n → wp_ (lo2 (fX10_copy_i_2_b ) n x2_1 s_2) Q := by
  intro n
  induction n with
  | zero =>
    intro x2_1 s_2 _ _ hm_
    exact absurd hm_ (Nat.not_lt_zero _)
  | succ n ih =>
    intro x2_1 s_2 g_s_2 i0_ hm_
    show wp_ (fX10_copy_i_2_b  (lo2 (fX10_copy_i_2_b ) n) x2_1 s_2) Q
    have hrec := ih
    generalize lo2 (fX10_copy_i_2_b ) n = rc at hrec ⊢
    clear ih
    have hFU_ : FU = 1000000000 := rfl
    unfold fX10_copy_i_2_b
    have L0_ := li_0
    have L1_ := li_1
    have L28_ := li_28
    have L29_ := li_29
    have L720_ := li_720
    have M1_ := li_m1
    refine wp_if_i (fun h_1_ => ?_) (fun h_1_ => ?_)
    · skip
      have j_2_ := le_ti h_1_
      try simp (disch := omega) only [ti_add, ti_sub, b2t_, b2f_, li_0, li_1, li_28, li_29, li_720, li_m1] at j_2_
      exact wp_some_i (hsome (s_2) g_s_2)
    · skip
      have j_3_ := nle_ti h_1_
      try simp (disch := omega) only [ti_add, ti_sub, b2t_, b2f_, li_0, li_1, li_28, li_29, li_720, li_m1] at j_3_
      refine wp_chk_i (inb_ti (by first | omega | (simp (disch := omega) only [ti_add, ti_sub, b2t_, b2f_, li_0, li_1, li_28, li_29, li_720, li_m1]; omega)) (by first | omega | (simp (disch := omega) only [ti_add, ti_sub, b2t_, b2f_, li_0, li_1, li_28, li_29, li_720, li_m1]; omega))) ?_
      have x_4_ : ix x2_1 = (x2_1).toInt.toNat := rfl
      apply wp_bv_i
      intro s_4 e_s_4
      have g_s_4 : N10_ S_ s_4 := by rw [e_s_4]; exact N10_.si g_s_2 (by decide) (g_s_2.1 28 (ix x2_1))
      apply wp_bv_i
      intro v_5 e_v_5
      have j_5_ := eq_ti e_v_5
      try simp (disch := omega) only [ti_add, ti_sub, b2t_, b2f_, li_0, li_1, li_28, li_29, li_720, li_m1] at j_5_
      exact hrec v_5 s_4 g_s_4 (by first | omega | (simp (disch := omega) only [ti_add, ti_sub, b2t_, b2f_, li_0, li_1, li_28, li_29, li_720, li_m1]; omega)) (by first | omega | (simp (disch := omega) only [ti_add, ti_sub, b2t_, b2f_, li_0, li_1, li_28, li_29, li_720, li_m1]; omega))
set_option maxHeartbeats 1000000 in
set_option maxRecDepth 20000 in
theorem tX10_copy_i (s0 : Sg) (h0 : I10_ s0)  : wp_ (fX10_copy_i s0) (fun q => N10_ s0 q) := by
  have g_s0 : N10_ s0 s0 := N10_.rf h0
  have hFU_ : FU = 1000000000 := rfl
  generalize hQ : (fun q : (Sg) => N10_ s0 q) = Q
  unfold fX10_copy_i
  have L0_ := li_0
  have L1_ := li_1
  have M1_ := li_m1
  exact lX10_copy_i_2_b s0 h0   (fun q hq => by subst hQ; exact hq)  FU 0 s0 g_s0 (by first | omega | (simp (disch := omega) only [ti_add, ti_sub, b2t_, b2f_, li_0, li_1, li_m1]; omega)) (by first | omega | (simp (disch := omega) only [ti_add, ti_sub, b2t_, b2f_, li_0, li_1, li_m1]; omega))
set_option maxHeartbeats 1000000 in
set_option maxRecDepth 20000 in
theorem tX10_image (s0 : Sg) (h0 : I10_ s0)  : wp_ (fX10_image s0) (fun q => N10_ s0 q.2) := by
  have g_s0 : N10_ s0 s0 := N10_.rf h0
  have hFU_ : FU = 1000000000 := rfl
  generalize hQ : (fun q : (Int32 × Sg) => N10_ s0 q.2) = Q
  unfold fX10_image
  rw [ixl_0]
  have L0_ := li_0
  have L1_ := li_1
  have L28_ := li_28
  have M1_ := li_m1
  refine wp_bnv_i (tX10_copy_i s0 g_s0.1 ) (fun s_1 p_s_1 => ?_)
  have g_s_1 := g_s0.tr p_s_1
  have b_1_ : 0 ≤ (gi s_1 28 0).toInt ∧ (gi s_1 28 0).toInt ≤ 12 := (g_s_1.1 28 0).1 rfl
  exact wp_some_i (by subst hQ; exact g_s_1)
set_option maxHeartbeats 1000000 in
set_option maxRecDepth 20000 in
theorem lX10_copy_b_2_b {Q : (Sg) → Prop} (S_ : Sg) (hI_ : I10_ S_)  (hsome : ∀ q : (Sg), N10_ S_ q → Q q)  : ∀ (n : Nat) (x2_1 : Int32) (s_2 : Sg), N10_ S_ s_2 → 0 ≤ x2_1.toInt → (720 - x2_1.toInt).toNat < n → wp_ (lo2 (fX10_copy_b_2_b ) n x2_1 s_2) Q := by
  intro n
  induction n with
  | zero =>
    intro x2_1 s_2 _ _ hm_
    exact absurd hm_ (Nat.not_lt_zero _)
  | succ n ih =>
    intro x2_1 s_2 g_s_2 i0_ hm_
    show wp_ (fX10_copy_b_2_b  (lo2 (fX10_copy_b_2_b ) n) x2_1 s_2) Q
    have hrec := ih
    generalize lo2 (fX10_copy_b_2_b ) n = rc at hrec ⊢
    clear ih
    have hFU_ : FU = 1000000000 := rfl
    unfold fX10_copy_b_2_b
    have L0_ := li_0
    have L1_ := li_1
    have L28_ := li_28
    have L29_ := li_29
    have L720_ := li_720
    have M1_ := li_m1
    refine wp_if_i (fun h_1_ => ?_) (fun h_1_ => ?_)
    · skip
      have j_2_ := le_ti h_1_
      try simp (disch := omega) only [ti_add, ti_sub, b2t_, b2f_, li_0, li_1, li_28, li_29, li_720, li_m1] at j_2_
      exact wp_some_i (hsome (s_2) g_s_2)
    · skip
      have j_3_ := nle_ti h_1_
      try simp (disch := omega) only [ti_add, ti_sub, b2t_, b2f_, li_0, li_1, li_28, li_29, li_720, li_m1] at j_3_
      refine wp_chk_i (inb_ti (by first | omega | (simp (disch := omega) only [ti_add, ti_sub, b2t_, b2f_, li_0, li_1, li_28, li_29, li_720, li_m1]; omega)) (by first | omega | (simp (disch := omega) only [ti_add, ti_sub, b2t_, b2f_, li_0, li_1, li_28, li_29, li_720, li_m1]; omega))) ?_
      have x_4_ : ix x2_1 = (x2_1).toInt.toNat := rfl
      apply wp_bv_i
      intro s_4 e_s_4
      have g_s_4 : N10_ S_ s_4 := by rw [e_s_4]; exact N10_.si g_s_2 (by decide) (g_s_2.1 29 (ix x2_1))
      apply wp_bv_i
      intro v_5 e_v_5
      have j_5_ := eq_ti e_v_5
      try simp (disch := omega) only [ti_add, ti_sub, b2t_, b2f_, li_0, li_1, li_28, li_29, li_720, li_m1] at j_5_
      exact hrec v_5 s_4 g_s_4 (by first | omega | (simp (disch := omega) only [ti_add, ti_sub, b2t_, b2f_, li_0, li_1, li_28, li_29, li_720, li_m1]; omega)) (by first | omega | (simp (disch := omega) only [ti_add, ti_sub, b2t_, b2f_, li_0, li_1, li_28, li_29, li_720, li_m1]; omega))
set_option maxHeartbeats 1000000 in
set_option maxRecDepth 20000 in
theorem tX10_copy_b (s0 : Sg) (h0 : I10_ s0)  : wp_ (fX10_copy_b s0) (fun q => N10_ s0 q) := by
  have g_s0 : N10_ s0 s0 := N10_.rf h0
  have hFU_ : FU = 1000000000 := rfl
  generalize hQ : (fun q : (Sg) => N10_ s0 q) = Q
  unfold fX10_copy_b
  have L0_ := li_0
  have L1_ := li_1
  have M1_ := li_m1
  exact lX10_copy_b_2_b s0 h0   (fun q hq => by subst hQ; exact hq)  FU 0 s0 g_s0 (by first | omega | (simp (disch := omega) only [ti_add, ti_sub, b2t_, b2f_, li_0, li_1, li_m1]; omega)) (by first | omega | (simp (disch := omega) only [ti_add, ti_sub, b2t_, b2f_, li_0, li_1, li_m1]; omega))
set_option maxHeartbeats 1000000 in
set_option maxRecDepth 20000 in
theorem tX10_back (s0 : Sg) (h0 : I10_ s0)  : wp_ (fX10_back s0) (fun q => N10_ s0 q.2) := by
  have g_s0 : N10_ s0 s0 := N10_.rf h0
  have hFU_ : FU = 1000000000 := rfl
  generalize hQ : (fun q : (Int32 × Sg) => N10_ s0 q.2) = Q
  unfold fX10_back
  rw [ixl_0]
  have L0_ := li_0
  have L1_ := li_1
  have L28_ := li_28
  have M1_ := li_m1
  refine wp_bnv_i (tX10_copy_b s0 g_s0.1 ) (fun s_1 p_s_1 => ?_)
  have g_s_1 := g_s0.tr p_s_1
  have b_1_ : 0 ≤ (gi s_1 28 0).toInt ∧ (gi s_1 28 0).toInt ≤ 12 := (g_s_1.1 28 0).1 rfl
  exact wp_some_i (by subst hQ; exact g_s_1)
set_option maxHeartbeats 1000000 in
set_option maxRecDepth 20000 in
theorem lX10_four_3_b {Q : (Sg) → Prop} (S_ : Sg) (hI_ : I10_ S_) (a1 : Int32) (hsome : ∀ q : (Sg), N10_ S_ q → Q q)  : ∀ (n : Nat) (x2_1 : Int32) (s_2 : Sg), N10_ S_ s_2 → x2_1.toInt ≤ 24 → (gi s_2 27 4).toInt * 8 + x2_1.toInt ≤ 2392 → (x2_1.toInt + 8).toNat < n → wp_ (lo2 (fX10_four_3_b a1) n x2_1 s_2) Q := by
  intro n
  induction n with
  | zero =>
    intro x2_1 s_2 _ _ _ hm_
    exact absurd hm_ (Nat.not_lt_zero _)
  | succ n ih =>
    intro x2_1 s_2 g_s_2 i0_ i1_ hm_
    show wp_ (fX10_four_3_b a1 (lo2 (fX10_four_3_b a1) n) x2_1 s_2) Q
    have hrec := ih
    generalize lo2 (fX10_four_3_b a1) n = rc at hrec ⊢
    clear ih
    have hFU_ : FU = 1000000000 := rfl
    unfold fX10_four_3_b
    have L0_ := li_0
    have L1_ := li_1
    have L4_ := li_4
    have L8_ := li_8
    have L27_ := li_27
    have L31_ := li_31
    have L255_ := li_255
    have L300_ := li_300
    have M1_ := li_m1
    have M8_ := li_m8
    refine wp_if_i (fun h_1_ => ?_) (fun h_1_ => ?_)
    · skip
      have j_2_ := lt_ti h_1_
      try simp (disch := omega) only [ti_add, ti_sub, b2t_, b2f_, li_0, li_1, li_4, li_8, li_27, li_31, li_255, li_300, li_m1, li_m8] at j_2_
      exact wp_some_i (hsome (s_2) g_s_2)
    · skip
      have j_3_ := nlt_ti h_1_
      try simp (disch := omega) only [ti_add, ti_sub, b2t_, b2f_, li_0, li_1, li_4, li_8, li_27, li_31, li_255, li_300, li_m1, li_m8] at j_3_
      have b_4_ : 0 ≤ (gi s_2 27 4).toInt ∧ (gi s_2 27 4).toInt ≤ 300 := g_s_2.1 27 4
      refine wp_chk_i (inb_ti (by first | omega | (simp (disch := omega) only [ti_add, ti_sub, b2t_, b2f_, li_0, li_1, li_4, li_8, li_27, li_31, li_255, li_300, li_m1, li_m8]; omega)) (by first | omega | (simp (disch := omega) only [ti_add, ti_sub, b2t_, b2f_, li_0, li_1, li_4, li_8, li_27, li_31, li_255, li_300, li_m1, li_m8]; omega))) ?_
      apply wp_bv_i
      intro s_4 e_s_4
      have g_s_4 : N10_ S_ s_4 := by rw [e_s_4]; exact N10_.si g_s_2 (by decide) trivial
      have r_5_ : (gi s_4 27 4).toInt = (gi s_2 27 4).toInt := by rw [e_s_4]; rw [gsi_k (by decide)]
      have b_6_ : 0 ≤ (gi s_4 27 4).toInt ∧ (gi s_4 27 4).toInt ≤ 300 := g_s_4.1 27 4
      try have m_7_ := ti_add (x := (gi s_4 27 4)) (y := 1) (by omega) (by omega)
      apply wp_bv_i
      intro s_5 e_s_5
      have g_s_5 : N10_ S_ s_5 := by rw [e_s_5]; exact N10_.si g_s_4 (by decide) ⟨by first | omega | (simp (disch := omega) only [ti_add, ti_sub, b2t_, b2f_, li_0, li_1, li_4, li_8, li_27, li_31, li_255, li_300, li_m1, li_m8]; omega), by first | omega | (simp (disch := omega) only [ti_add, ti_sub, b2t_, b2f_, li_0, li_1, li_4, li_8, li_27, li_31, li_255, li_300, li_m1, li_m8]; omega)⟩
      apply wp_bv_i
      intro v_6 e_v_6
      have j_8_ := eq_ti e_v_6
      try simp (disch := omega) only [ti_add, ti_sub, b2t_, b2f_, li_0, li_1, li_4, li_8, li_27, li_31, li_255, li_300, li_m1, li_m8] at j_8_
      have r_9_ : (gi s_5 27 4).toInt = ((((gi s_4 27 4) + 1) : Int32)).toInt := by rw [e_s_5]; rw [gsi_eq]
      try simp (disch := omega) only [ti_add, ti_sub, b2t_, b2f_, li_0, li_1, li_4, li_8, li_27, li_31, li_255, li_300, li_m1, li_m8] at r_9_
      have b_10_ : 0 ≤ (gi s_5 27 4).toInt ∧ (gi s_5 27 4).toInt ≤ 300 := g_s_5.1 27 4
      exact hrec v_6 s_5 g_s_5 (by first | omega | (simp (disch := omega) only [ti_add, ti_sub, b2t_, b2f_, li_0, li_1, li_4, li_8, li_27, li_31, li_255, li_300, li_m1, li_m8]; omega)) (by first | omega | (simp (disch := omega) only [ti_add, ti_sub, b2t_, b2f_, li_0, li_1, li_4, li_8, li_27, li_31, li_255, li_300, li_m1, li_m8]; omega)) (by first | omega | (simp (disch := omega) only [ti_add, ti_sub, b2t_, b2f_, li_0, li_1, li_4, li_8, li_27, li_31, li_255, li_300, li_m1, li_m8]; omega))
set_option maxHeartbeats 1000000 in
set_option maxRecDepth 20000 in
theorem lX10_keep_101_b {Q : (Sg) → Prop} (S_ : Sg) (hI_ : I10_ S_) (v_3 : Int32) (k_9 : Sg → Option (Sg)) (hk_9 : ∀ (z0_ : Sg), N10_ S_ z0_ → (gi z0_ 28 9).toInt ≤ 39 → wp_ (k_9 z0_) Q) (cp0_ : (v_3.toInt - 160) % 14 = 0 ∧ 160 ≤ v_3.toInt ∧ v_3.toInt ≤ 706) : ∀ (n : Nat) (x2_11 : Int32) (s_12 : Sg), N10_ S_ s_12 → 0 ≤ x2_11.toInt → (gi s_12 28 9).toInt ≤ 39 → (12 - x2_11.toInt).toNat < n → wp_ (lo2 (fX10_keep_101_b v_3 k_9) n x2_11 s_12) Q := by
  intro n
  induction n with
  | zero =>
    intro x2_11 s_12 _ _ _ hm_
    exact absurd hm_ (Nat.not_lt_zero _)
  | succ n ih =>
    intro x2_11 s_12 g_s_12 i0_ i1_ hm_
    show wp_ (fX10_keep_101_b v_3 k_9 (lo2 (fX10_keep_101_b v_3 k_9) n) x2_11 s_12) Q
    have hrec := ih
    generalize lo2 (fX10_keep_101_b v_3 k_9) n = rc at hrec ⊢
    clear ih
    have hFU_ : FU = 1000000000 := rfl
    unfold fX10_keep_101_b
    have L0_ := li_0
    have L1_ := li_1
    have L2_ := li_2
    have L12_ := li_12
    have L28_ := li_28
    have L720_ := li_720
    have M1_ := li_m1
    refine wp_if_i (fun h_1_ => ?_) (fun h_1_ => ?_)
    · skip
      have j_2_ := le_ti h_1_
      try simp (disch := omega) only [ti_add, ti_sub, b2t_, b2f_, li_0, li_1, li_2, li_12, li_28, li_720, li_m1] at j_2_
      have b_3_ : 0 ≤ (gi s_12 28 9).toInt ∧ (gi s_12 28 9).toInt ≤ 40 := (g_s_12.1 28 9).2.2.2.1 rfl
      exact hk_9 s_12 g_s_12 (by first | omega | (simp (disch := omega) only [ti_add, ti_sub, b2t_, b2f_, li_0, li_1, li_2, li_12, li_28, li_720, li_m1]; omega))
    · skip
      have j_4_ := nle_ti h_1_
      try simp (disch := omega) only [ti_add, ti_sub, b2t_, b2f_, li_0, li_1, li_2, li_12, li_28, li_720, li_m1] at j_4_
      refine wp_bnd_i (tX10_panOf x2_11 s_12 g_s_12.1 (by first | omega | (simp (disch := omega) only [ti_add, ti_sub, b2t_, b2f_, li_0, li_1, li_2, li_12, li_28, li_720, li_m1]; omega))) (fun r_13 s_14 p_s_14 => ?_)
      have e_s_14 : s_14 = s_12 := p_s_14
      have g_s_14 : N10_ S_ s_14 := by rw [e_s_14]; exact g_s_12
      try have m_5_ := ti_add (x := v_3) (y := 2) (by omega) (by omega)
      try have m_6_ := ti_add (x := (v_3 + 2)) (y := x2_11) (by omega) (by omega)
      refine wp_chk_i (inb_ti (by first | omega | (simp (disch := omega) only [ti_add, ti_sub, b2t_, b2f_, li_0, li_1, li_2, li_12, li_28, li_720, li_m1]; omega)) (by first | omega | (simp (disch := omega) only [ti_add, ti_sub, b2t_, b2f_, li_0, li_1, li_2, li_12, li_28, li_720, li_m1]; omega))) ?_
      have x_7_ : ix ((v_3 + 2) + x2_11) = (((v_3 + 2) + x2_11)).toInt.toNat := rfl
      apply wp_bv_i
      intro s_16 e_s_16
      have g_s_16 : N10_ S_ s_16 := by rw [e_s_16]; exact N10_.si g_s_14 (by decide) (by refine ⟨?_, ?_, ?_, ?_, ?_, ?_⟩ <;> intro x_ <;> first | omega | (simp (disch := omega) only [ti_add, ti_sub, b2t_, b2f_, li_0, li_1, li_2, li_12, li_28, li_720, li_m1]; omega))
      apply wp_bv_i
      intro v_17 e_v_17
      have j_8_ := eq_ti e_v_17
      try simp (disch := omega) only [ti_add, ti_sub, b2t_, b2f_, li_0, li_1, li_2, li_12, li_28, li_720, li_m1] at j_8_
      have b_9_ : 0 ≤ (gi s_12 28 9).toInt ∧ (gi s_12 28 9).toInt ≤ 40 := (g_s_12.1 28 9).2.2.2.1 rfl
      have r_10_ : (gi s_14 28 9).toInt = (gi s_12 28 9).toInt := by rw [e_s_14]
      have b_11_ : 0 ≤ (gi s_14 28 9).toInt ∧ (gi s_14 28 9).toInt ≤ 40 := (g_s_14.1 28 9).2.2.2.1 rfl
      have r_12_ : (gi s_16 28 9).toInt = (gi s_14 28 9).toInt := by rw [e_s_16]; rw [gsi_ne (by first | decide | omega)]
      have b_13_ : 0 ≤ (gi s_16 28 9).toInt ∧ (gi s_16 28 9).toInt ≤ 40 := (g_s_16.1 28 9).2.2.2.1 rfl
      exact hrec v_17 s_16 g_s_16 (by first | omega | (simp (disch := omega) only [ti_add, ti_sub, b2t_, b2f_, li_0, li_1, li_2, li_12, li_28, li_720, li_m1]; omega)) (by first | omega | (simp (disch := omega) only [ti_add, ti_sub, b2t_, b2f_, li_0, li_1, li_2, li_12, li_28, li_720, li_m1]; omega)) (by first | omega | (simp (disch := omega) only [ti_add, ti_sub, b2t_, b2f_, li_0, li_1, li_2, li_12, li_28, li_720, li_m1]; omega))
set_option maxHeartbeats 1000000 in
set_option maxRecDepth 20000 in
theorem lX10_keep_14_b {Q : (Sg) → Prop} (S_ : Sg) (hI_ : I10_ S_) (k_19 : Sg → Option (Sg)) (hk_19 : ∀ (z0_ : Sg), N10_ S_ z0_ → (gi z0_ 28 9).toInt = 40 → wp_ (k_19 z0_) Q)  : ∀ (n : Nat) (x1_21 : Int32) (s_22 : Sg), N10_ S_ s_22 → 0 ≤ x1_21.toInt → (gi s_22 28 9).toInt = 40 → (546 - x1_21.toInt).toNat < n → wp_ (lo2 (fX10_keep_14_b k_19) n x1_21 s_22) Q := by
  intro n
  induction n with
  | zero =>
    intro x1_21 s_22 _ _ _ hm_
    exact absurd hm_ (Nat.not_lt_zero _)
  | succ n ih =>
    intro x1_21 s_22 g_s_22 i0_ i1_ hm_
    show wp_ (fX10_keep_14_b k_19 (lo2 (fX10_keep_14_b k_19) n) x1_21 s_22) Q
    have hrec := ih
    generalize lo2 (fX10_keep_14_b k_19) n = rc at hrec ⊢
    clear ih
    have hFU_ : FU = 1000000000 := rfl
    unfold fX10_keep_14_b
    have L0_ := li_0
    have L1_ := li_1
    have L28_ := li_28
    have L160_ := li_160
    have L174_ := li_174
    have L546_ := li_546
    have L720_ := li_720
    have M1_ := li_m1
    refine wp_if_i (fun h_1_ => ?_) (fun h_1_ => ?_)
    · skip
      have j_2_ := le_ti h_1_
      try simp (disch := omega) only [ti_add, ti_sub, b2t_, b2f_, li_0, li_1, li_28, li_160, li_174, li_546, li_720, li_m1] at j_2_
      have b_3_ : 0 ≤ (gi s_22 28 9).toInt ∧ (gi s_22 28 9).toInt ≤ 40 := (g_s_22.1 28 9).2.2.2.1 rfl
      exact hk_19 s_22 g_s_22 (by first | omega | (simp (disch := omega) only [ti_add, ti_sub, b2t_, b2f_, li_0, li_1, li_28, li_160, li_174, li_546, li_720, li_m1]; omega))
    · skip
      have j_4_ := nle_ti h_1_
      try simp (disch := omega) only [ti_add, ti_sub, b2t_, b2f_, li_0, li_1, li_28, li_160, li_174, li_546, li_720, li_m1] at j_4_
      try have m_5_ := ti_add (x := 174) (y := x1_21) (by omega) (by omega)
      refine wp_chk_i (inb_ti (by first | omega | (simp (disch := omega) only [ti_add, ti_sub, b2t_, b2f_, li_0, li_1, li_28, li_160, li_174, li_546, li_720, li_m1]; omega)) (by first | omega | (simp (disch := omega) only [ti_add, ti_sub, b2t_, b2f_, li_0, li_1, li_28, li_160, li_174, li_546, li_720, li_m1]; omega))) ?_
      try have m_6_ := ti_add (x := 160) (y := x1_21) (by omega) (by omega)
      refine wp_chk_i (inb_ti (by first | omega | (simp (disch := omega) only [ti_add, ti_sub, b2t_, b2f_, li_0, li_1, li_28, li_160, li_174, li_546, li_720, li_m1]; omega)) (by first | omega | (simp (disch := omega) only [ti_add, ti_sub, b2t_, b2f_, li_0, li_1, li_28, li_160, li_174, li_546, li_720, li_m1]; omega))) ?_
      have x_7_ : ix (160 + x1_21) = ((160 + x1_21)).toInt.toNat := rfl
      apply wp_bv_i
      intro s_25 e_s_25
      have g_s_25 : N10_ S_ s_25 := by rw [e_s_25]; exact N10_.si g_s_22 (by decide) (by have z_ := g_s_22.1 28 (ix (174 + x1_21)); have y1_ : ix (174 + x1_21) = (174 + x1_21).toInt.toNat := rfl; have y2_ : ix (160 + x1_21) = (160 + x1_21).toInt.toNat := rfl; refine ⟨?_, ?_, ?_, ?_, ?_, ?_⟩ <;> intro x_ <;> first | omega | exact z_.2.2.2.2.2 (by omega))
      apply wp_bv_i
      intro v_26 e_v_26
      have j_8_ := eq_ti e_v_26
      try simp (disch := omega) only [ti_add, ti_sub, b2t_, b2f_, li_0, li_1, li_28, li_160, li_174, li_546, li_720, li_m1] at j_8_
      have b_9_ : 0 ≤ (gi s_22 28 9).toInt ∧ (gi s_22 28 9).toInt ≤ 40 := (g_s_22.1 28 9).2.2.2.1 rfl
      have r_10_ : (gi s_25 28 9).toInt = (gi s_22 28 9).toInt := by rw [e_s_25]; rw [gsi_ne (by first | decide | omega)]
      have b_11_ : 0 ≤ (gi s_25 28 9).toInt ∧ (gi s_25 28 9).toInt ≤ 40 := (g_s_25.1 28 9).2.2.2.1 rfl
      exact hrec v_26 s_25 g_s_25 (by first | omega | (simp (disch := omega) only [ti_add, ti_sub, b2t_, b2f_, li_0, li_1, li_28, li_160, li_174, li_546, li_720, li_m1]; omega)) (by first | omega | (simp (disch := omega) only [ti_add, ti_sub, b2t_, b2f_, li_0, li_1, li_28, li_160, li_174, li_546, li_720, li_m1]; omega)) (by first | omega | (simp (disch := omega) only [ti_add, ti_sub, b2t_, b2f_, li_0, li_1, li_28, li_160, li_174, li_546, li_720, li_m1]; omega))
set_option maxHeartbeats 1000000 in
set_option maxRecDepth 20000 in
theorem tX10_keep (s0 : Sg) (h0 : I10_ s0)  : wp_ (fX10_keep s0) (fun q => N10_ s0 q) := by
  have g_s0 : N10_ s0 s0 := N10_.rf h0
  have hFU_ : FU = 1000000000 := rfl
  generalize hQ : (fun q : (Sg) => N10_ s0 q) = Q
  unfold fX10_keep
  rw [ixl_0, ixl_4, ixl_9]
  have L0_ := li_0
  have L1_ := li_1
  have L4_ := li_4
  have L9_ := li_9
  have L14_ := li_14
  have L28_ := li_28
  have L40_ := li_40
  have L160_ := li_160
  have L720_ := li_720
  have M1_ := li_m1
  refine wp_jn (fun k_2 => ∀ (s_1 : Sg), N10_ s0 s_1 → (gi s_1 28 9).toInt ≤ 39 → wp_ (k_2 s_1) Q) ?_ (fun k_2 hk_2 => ?_)
  · intro s_1 g_s_1 u_0_k_2
    try dsimp only
    have b_1_ : 0 ≤ (gi s_1 28 9).toInt ∧ (gi s_1 28 9).toInt ≤ 40 := (g_s_1.1 28 9).2.2.2.1 rfl
    try have m_2_ := tm_14 (x := (gi s_1 28 9)) (by omega) (by omega)
    apply wp_bv_i
    intro v_3 e_v_3
    have j_3_ := eq_ti e_v_3
    try simp (disch := omega) only [ti_add, ti_sub, b2t_, b2f_, li_0, li_1, li_4, li_9, li_14, li_28, li_40, li_160, li_720, li_m1] at j_3_
    refine wp_chk_i (inb_ti (by first | omega | (simp (disch := omega) only [ti_add, ti_sub, b2t_, b2f_, li_0, li_1, li_4, li_9, li_14, li_28, li_40, li_160, li_720, li_m1]; omega)) (by first | omega | (simp (disch := omega) only [ti_add, ti_sub, b2t_, b2f_, li_0, li_1, li_4, li_9, li_14, li_28, li_40, li_160, li_720, li_m1]; omega))) ?_
    have x_4_ : ix v_3 = (v_3).toInt.toNat := rfl
    apply wp_bv_i
    intro s_5 e_s_5
    have g_s_5 : N10_ s0 s_5 := by rw [e_s_5]; exact N10_.si g_s_1 (by decide) (by refine ⟨?_, ?_, ?_, ?_, ?_, ?_⟩ <;> intro x_ <;> first | omega | (simp (disch := omega) only [ti_add, ti_sub, b2t_, b2f_, li_0, li_1, li_4, li_9, li_14, li_28, li_40, li_160, li_720, li_m1]; omega))
    try have m_5_ := ti_add (x := v_3) (y := 1) (by omega) (by omega)
    refine wp_chk_i (inb_ti (by first | omega | (simp (disch := omega) only [ti_add, ti_sub, b2t_, b2f_, li_0, li_1, li_4, li_9, li_14, li_28, li_40, li_160, li_720, li_m1]; omega)) (by first | omega | (simp (disch := omega) only [ti_add, ti_sub, b2t_, b2f_, li_0, li_1, li_4, li_9, li_14, li_28, li_40, li_160, li_720, li_m1]; omega))) ?_
    have b_6_ : 0 ≤ (gi s_1 28 0).toInt ∧ (gi s_1 28 0).toInt ≤ 12 := (g_s_1.1 28 0).1 rfl
    have r_7_ : (gi s_5 28 0).toInt = (gi s_1 28 0).toInt := by rw [e_s_5]; rw [gsi_ne (by first | decide | omega)]
    have b_8_ : 0 ≤ (gi s_5 28 0).toInt ∧ (gi s_5 28 0).toInt ≤ 12 := (g_s_5.1 28 0).1 rfl
    have x_9_ : ix (v_3 + 1) = ((v_3 + 1)).toInt.toNat := rfl
    apply wp_bv_i
    intro s_7 e_s_7
    have g_s_7 : N10_ s0 s_7 := by rw [e_s_7]; exact N10_.si g_s_5 (by decide) (by refine ⟨?_, ?_, ?_, ?_, ?_, ?_⟩ <;> intro x_ <;> first | omega | (simp (disch := omega) only [ti_add, ti_sub, b2t_, b2f_, li_0, li_1, li_4, li_9, li_14, li_28, li_40, li_160, li_720, li_m1]; omega))
    refine wp_jn (fun k_9 => ∀ (s_8 : Sg), N10_ s0 s_8 → (gi s_8 28 9).toInt ≤ 39 → wp_ (k_9 s_8) Q) ?_ (fun k_9 hk_9 => ?_)
    · intro s_8 g_s_8 u_0_k_9
      try dsimp only
      have b_10_ : 0 ≤ (gi s_8 28 9).toInt ∧ (gi s_8 28 9).toInt ≤ 40 := (g_s_8.1 28 9).2.2.2.1 rfl
      try have m_11_ := ti_add (x := (gi s_8 28 9)) (y := 1) (by omega) (by omega)
      apply wp_bv_i
      intro s_10 e_s_10
      have g_s_10 : N10_ s0 s_10 := by rw [e_s_10]; exact N10_.si g_s_8 (by decide) (by refine ⟨?_, ?_, ?_, ?_, ?_, ?_⟩ <;> intro x_ <;> first | omega | (simp (disch := omega) only [ti_add, ti_sub, b2t_, b2f_, li_0, li_1, li_4, li_9, li_14, li_28, li_40, li_160, li_720, li_m1]; omega))
      exact wp_some_i (by subst hQ; exact g_s_10)
    have r_12_ : (gi s_5 28 9).toInt = (gi s_1 28 9).toInt := by rw [e_s_5]; rw [gsi_ne (by first | decide | omega)]
    have b_13_ : 0 ≤ (gi s_5 28 9).toInt ∧ (gi s_5 28 9).toInt ≤ 40 := (g_s_5.1 28 9).2.2.2.1 rfl
    have r_14_ : (gi s_7 28 9).toInt = (gi s_5 28 9).toInt := by rw [e_s_7]; rw [gsi_ne (by first | decide | omega)]
    have b_15_ : 0 ≤ (gi s_7 28 9).toInt ∧ (gi s_7 28 9).toInt ≤ 40 := (g_s_7.1 28 9).2.2.2.1 rfl
    exact lX10_keep_101_b s0 h0 v_3 k_9 hk_9 (by first | omega | (simp (disch := omega) only [ti_add, ti_sub, b2t_, b2f_, li_0, li_1, li_4, li_9, li_14, li_28, li_40, li_160, li_720, li_m1]; omega)) FU 0 s_7 g_s_7 (by first | omega | (simp (disch := omega) only [ti_add, ti_sub, b2t_, b2f_, li_0, li_1, li_4, li_9, li_14, li_28, li_40, li_160, li_720, li_m1]; omega)) (by first | omega | (simp (disch := omega) only [ti_add, ti_sub, b2t_, b2f_, li_0, li_1, li_4, li_9, li_14, li_28, li_40, li_160, li_720, li_m1]; omega)) (by first | omega | (simp (disch := omega) only [ti_add, ti_sub, b2t_, b2f_, li_0, li_1, li_4, li_9, li_14, li_28, li_40, li_160, li_720, li_m1]; omega))
  refine wp_if_i (fun h_16_ => ?_) (fun h_16_ => ?_)
  · skip
    have b_17_ : 0 ≤ (gi s0 28 9).toInt ∧ (gi s0 28 9).toInt ≤ 40 := (g_s0.1 28 9).2.2.2.1 rfl
    have j_18_ := eq_ti h_16_
    try simp (disch := omega) only [ti_add, ti_sub, b2t_, b2f_, li_0, li_1, li_4, li_9, li_14, li_28, li_40, li_160, li_720, li_m1] at j_18_
    refine wp_jn (fun k_19 => ∀ (s_18 : Sg), N10_ s0 s_18 → (gi s_18 28 9).toInt = 40 → wp_ (k_19 s_18) Q) ?_ (fun k_19 hk_19 => ?_)
    · intro s_18 g_s_18 u_0_k_19
      try dsimp only
      have b_19_ : 0 ≤ (gi s_18 28 9).toInt ∧ (gi s_18 28 9).toInt ≤ 40 := (g_s_18.1 28 9).2.2.2.1 rfl
      try have m_20_ := ti_sub (x := (gi s_18 28 9)) (y := 1) (by omega) (by omega)
      apply wp_bv_i
      intro s_20 e_s_20
      have g_s_20 : N10_ s0 s_20 := by rw [e_s_20]; exact N10_.si g_s_18 (by decide) (by refine ⟨?_, ?_, ?_, ?_, ?_, ?_⟩ <;> intro x_ <;> first | omega | (simp (disch := omega) only [ti_add, ti_sub, b2t_, b2f_, li_0, li_1, li_4, li_9, li_14, li_28, li_40, li_160, li_720, li_m1]; omega))
      have r_21_ : (gi s_20 28 9).toInt = ((((gi s_18 28 9) - 1) : Int32)).toInt := by rw [e_s_20]; rw [gsi_eq]
      try simp (disch := omega) only [ti_add, ti_sub, b2t_, b2f_, li_0, li_1, li_4, li_9, li_14, li_28, li_40, li_160, li_720, li_m1] at r_21_
      have b_22_ : 0 ≤ (gi s_20 28 9).toInt ∧ (gi s_20 28 9).toInt ≤ 40 := (g_s_20.1 28 9).2.2.2.1 rfl
      exact hk_2 s_20 g_s_20 (by first | omega | (simp (disch := omega) only [ti_add, ti_sub, b2t_, b2f_, li_0, li_1, li_4, li_9, li_14, li_28, li_40, li_160, li_720, li_m1]; omega))
    exact lX10_keep_14_b s0 h0 k_19 hk_19  FU 0 s0 g_s0 (by first | omega | (simp (disch := omega) only [ti_add, ti_sub, b2t_, b2f_, li_0, li_1, li_4, li_9, li_14, li_28, li_40, li_160, li_720, li_m1]; omega)) (by first | omega | (simp (disch := omega) only [ti_add, ti_sub, b2t_, b2f_, li_0, li_1, li_4, li_9, li_14, li_28, li_40, li_160, li_720, li_m1]; omega)) (by first | omega | (simp (disch := omega) only [ti_add, ti_sub, b2t_, b2f_, li_0, li_1, li_4, li_9, li_14, li_28, li_40, li_160, li_720, li_m1]; omega))
  · skip
    have b_23_ : 0 ≤ (gi s0 28 9).toInt ∧ (gi s0 28 9).toInt ≤ 40 := (g_s0.1 28 9).2.2.2.1 rfl
    have j_24_ := ne_ti h_16_
    try simp (disch := omega) only [ti_add, ti_sub, b2t_, b2f_, li_0, li_1, li_4, li_9, li_14, li_28, li_40, li_160, li_720, li_m1] at j_24_
    exact hk_2 s0 g_s0 (by first | omega | (simp (disch := omega) only [ti_add, ti_sub, b2t_, b2f_, li_0, li_1, li_4, li_9, li_14, li_28, li_40, li_160, li_720, li_m1]; omega))
set_option maxHeartbeats 1000000 in
set_option maxRecDepth 20000 in
theorem tX10_pass (a1 : Int32) (s0 : Sg) (h0 : I10_ s0)  : wp_ (fX10_pass a1 s0) (fun q => N10_ s0 q.2) := by
  have g_s0 : N10_ s0 s0 := N10_.rf h0
  have hFU_ : FU = 1000000000 := rfl
  generalize hQ : (fun q : (Int32 × Sg) => N10_ s0 q.2) = Q
  unfold fX10_pass
  rw [ixl_4]
  have L0_ := li_0
  have L1_ := li_1
  have L4_ := li_4
  have L24_ := li_24
  have L28_ := li_28
  have L99_ := li_99
  have M1_ := li_m1
  refine wp_bnd_i (tX10_isIn a1 0 99 s0 g_s0.1 ) (fun r_1 s_2 p_s_2 => ?_)
  have e_s_2 : s_2 = s0 := p_s_2.1
  have g_s_2 : N10_ s0 s_2 := by rw [e_s_2]; exact g_s0
  have f_s_2 := p_s_2.2
  try dsimp only at f_s_2
  try simp (disch := omega) only [ti_add, ti_sub, b2t_, b2f_, li_0, li_1, li_4, li_24, li_28, li_99, li_m1] at f_s_2
  refine wp_if_i (fun h_1_ => ?_) (fun h_1_ => ?_)
  · skip
    have b_2_ := b2i_bd r_1
    have j_3_ := eq_ti h_1_
    try simp (disch := omega) only [ti_add, ti_sub, b2t_, b2f_, li_0, li_1, li_4, li_24, li_28, li_99, li_m1] at j_3_
    exact wp_some_i (by subst hQ; exact g_s_2)
  · skip
    have b_4_ := b2i_bd r_1
    have j_5_ := ne_ti h_1_
    try simp (disch := omega) only [ti_add, ti_sub, b2t_, b2f_, li_0, li_1, li_4, li_24, li_28, li_99, li_m1] at j_5_
    refine wp_bnv_i (tX10_keep s_2 g_s_2.1 ) (fun s_3 p_s_3 => ?_)
    have g_s_3 := g_s_2.tr p_s_3
    try have m_6_ := ti_add (x := (gi s_3 28 4)) (y := a1) (by omega) (by omega)
    apply wp_bv_i
    intro s_4 e_s_4
    have g_s_4 : N10_ s0 s_4 := by rw [e_s_4]; exact N10_.si g_s_3 (by decide) (by refine ⟨?_, ?_, ?_, ?_, ?_, ?_⟩ <;> intro x_ <;> first | omega | (simp (disch := omega) only [ti_add, ti_sub, b2t_, b2f_, li_0, li_1, li_4, li_24, li_28, li_99, li_m1]; omega))
    exact wp_some_i (by subst hQ; exact g_s_4)
set_option maxHeartbeats 1000000 in
set_option maxRecDepth 20000 in
theorem lX10_undo_52_b {Q : (Int32 × Sg) → Prop} (S_ : Sg) (hI_ : I10_ S_) (v_2 : Int32) (k_6 : Sg → Option (Int32 × Sg)) (hk_6 : ∀ (z0_ : Sg), N10_ S_ z0_ → wp_ (k_6 z0_) Q) (cp0_ : (v_2.toInt - 160) % 14 = 0 ∧ 160 ≤ v_2.toInt ∧ v_2.toInt ≤ 706) : ∀ (n : Nat) (x2_7 : Int32) (s_8 : Sg), N10_ S_ s_8 → 0 ≤ x2_7.toInt → (12 - x2_7.toInt).toNat < n → wp_ (lo2 (fX10_undo_52_b v_2 k_6) n x2_7 s_8) Q := by
  intro n
  induction n with
  | zero =>
    intro x2_7 s_8 _ _ hm_
    exact absurd hm_ (Nat.not_lt_zero _)
  | succ n ih =>
    intro x2_7 s_8 g_s_8 i0_ hm_
    show wp_ (fX10_undo_52_b v_2 k_6 (lo2 (fX10_undo_52_b v_2 k_6) n) x2_7 s_8) Q
    have hrec := ih
    generalize lo2 (fX10_undo_52_b v_2 k_6) n = rc at hrec ⊢
    clear ih
    have hFU_ : FU = 1000000000 := rfl
    unfold fX10_undo_52_b
    have L0_ := li_0
    have L1_ := li_1
    have L2_ := li_2
    have L28_ := li_28
    have L720_ := li_720
    have M1_ := li_m1
    have m0_ := ti_add (x := v_2) (y := 1) (by omega) (by omega)
    have y1_ : ix (v_2 + 1) = (v_2 + 1).toInt.toNat := rfl
    have z_ := (g_s_8.1 28 (ix (v_2 + 1))).2.2.2.2.2 (by omega)
    try have m_1_ := ti_add (x := v_2) (y := 1) (by omega) (by omega)
    refine wp_chk_i (inb_ti (by first | omega | (simp (disch := omega) only [ti_add, ti_sub, b2t_, b2f_, li_0, li_1, li_2, li_28, li_720, li_m1]; omega)) (by first | omega | (simp (disch := omega) only [ti_add, ti_sub, b2t_, b2f_, li_0, li_1, li_2, li_28, li_720, li_m1]; omega))) ?_
    refine wp_if_i (fun h_2_ => ?_) (fun h_2_ => ?_)
    · skip
      have j_3_ := le_ti h_2_
      try simp (disch := omega) only [ti_add, ti_sub, b2t_, b2f_, li_0, li_1, li_2, li_28, li_720, li_m1] at j_3_
      exact hk_6 s_8 g_s_8 
    · skip
      have j_4_ := nle_ti h_2_
      try simp (disch := omega) only [ti_add, ti_sub, b2t_, b2f_, li_0, li_1, li_2, li_28, li_720, li_m1] at j_4_
      refine wp_bnd_i (tX10_thingAt x2_7 s_8 g_s_8.1 (by first | omega | (simp (disch := omega) only [ti_add, ti_sub, b2t_, b2f_, li_0, li_1, li_2, li_28, li_720, li_m1]; omega))) (fun r_10 s_11 p_s_11 => ?_)
      have e_s_11 : s_11 = s_8 := p_s_11.1
      have g_s_11 : N10_ S_ s_11 := by rw [e_s_11]; exact g_s_8
      have f_s_11 := p_s_11.2
      try dsimp only at f_s_11
      try simp (disch := omega) only [ti_add, ti_sub, b2t_, b2f_, li_0, li_1, li_2, li_28, li_720, li_m1] at f_s_11
      try have m_5_ := ti_add (x := v_2) (y := 2) (by omega) (by omega)
      try have m_6_ := ti_add (x := (v_2 + 2)) (y := x2_7) (by omega) (by omega)
      refine wp_chk_i (inb_ti (by first | omega | (simp (disch := omega) only [ti_add, ti_sub, b2t_, b2f_, li_0, li_1, li_2, li_28, li_720, li_m1]; omega)) (by first | omega | (simp (disch := omega) only [ti_add, ti_sub, b2t_, b2f_, li_0, li_1, li_2, li_28, li_720, li_m1]; omega))) ?_
      try have m_7_ := ti_add (x := r_10) (y := 2) (by omega) (by omega)
      refine wp_chk_i (inb_ti (by first | omega | (simp (disch := omega) only [ti_add, ti_sub, b2t_, b2f_, li_0, li_1, li_2, li_28, li_720, li_m1]; omega)) (by first | omega | (simp (disch := omega) only [ti_add, ti_sub, b2t_, b2f_, li_0, li_1, li_2, li_28, li_720, li_m1]; omega))) ?_
      have x_8_ : ix (r_10 + 2) = ((r_10 + 2)).toInt.toNat := rfl
      apply wp_bv_i
      intro s_14 e_s_14
      have g_s_14 : N10_ S_ s_14 := by rw [e_s_14]; exact N10_.si g_s_11 (by decide) (by refine ⟨?_, ?_, ?_, ?_, ?_, ?_⟩ <;> intro x_ <;> first | omega | (simp (disch := omega) only [ti_add, ti_sub, b2t_, b2f_, li_0, li_1, li_2, li_28, li_720, li_m1]; omega))
      apply wp_bv_i
      intro v_15 e_v_15
      have j_9_ := eq_ti e_v_15
      try simp (disch := omega) only [ti_add, ti_sub, b2t_, b2f_, li_0, li_1, li_2, li_28, li_720, li_m1] at j_9_
      exact hrec v_15 s_14 g_s_14 (by first | omega | (simp (disch := omega) only [ti_add, ti_sub, b2t_, b2f_, li_0, li_1, li_2, li_28, li_720, li_m1]; omega)) (by first | omega | (simp (disch := omega) only [ti_add, ti_sub, b2t_, b2f_, li_0, li_1, li_2, li_28, li_720, li_m1]; omega))
set_option maxHeartbeats 1000000 in
set_option maxRecDepth 20000 in
theorem tX10_undo (s0 : Sg) (h0 : I10_ s0)  : wp_ (fX10_undo s0) (fun q => N10_ s0 q.2) := by
  have g_s0 : N10_ s0 s0 := N10_.rf h0
  have hFU_ : FU = 1000000000 := rfl
  generalize hQ : (fun q : (Int32 × Sg) => N10_ s0 q.2) = Q
  unfold fX10_undo
  rw [ixl_4, ixl_9]
  have L0_ := li_0
  have L1_ := li_1
  have L4_ := li_4
  have L9_ := li_9
  have L14_ := li_14
  have L28_ := li_28
  have L160_ := li_160
  have L720_ := li_720
  have M1_ := li_m1
  refine wp_if_i (fun h_1_ => ?_) (fun h_1_ => ?_)
  · skip
    have b_2_ : 0 ≤ (gi s0 28 9).toInt ∧ (gi s0 28 9).toInt ≤ 40 := (g_s0.1 28 9).2.2.2.1 rfl
    have j_3_ := eq_ti h_1_
    try simp (disch := omega) only [ti_add, ti_sub, b2t_, b2f_, li_0, li_1, li_4, li_9, li_14, li_28, li_160, li_720, li_m1] at j_3_
    exact wp_some_i (by subst hQ; exact g_s0)
  · skip
    have b_4_ : 0 ≤ (gi s0 28 9).toInt ∧ (gi s0 28 9).toInt ≤ 40 := (g_s0.1 28 9).2.2.2.1 rfl
    have j_5_ := ne_ti h_1_
    try simp (disch := omega) only [ti_add, ti_sub, b2t_, b2f_, li_0, li_1, li_4, li_9, li_14, li_28, li_160, li_720, li_m1] at j_5_
    try have m_6_ := ti_sub (x := (gi s0 28 9)) (y := 1) (by omega) (by omega)
    apply wp_bv_i
    intro s_1 e_s_1
    have g_s_1 : N10_ s0 s_1 := by rw [e_s_1]; exact N10_.si g_s0 (by decide) (by refine ⟨?_, ?_, ?_, ?_, ?_, ?_⟩ <;> intro x_ <;> first | omega | (simp (disch := omega) only [ti_add, ti_sub, b2t_, b2f_, li_0, li_1, li_4, li_9, li_14, li_28, li_160, li_720, li_m1]; omega))
    have r_7_ : (gi s_1 28 9).toInt = ((((gi s0 28 9) - 1) : Int32)).toInt := by rw [e_s_1]; rw [gsi_eq]
    try simp (disch := omega) only [ti_add, ti_sub, b2t_, b2f_, li_0, li_1, li_4, li_9, li_14, li_28, li_160, li_720, li_m1] at r_7_
    have b_8_ : 0 ≤ (gi s_1 28 9).toInt ∧ (gi s_1 28 9).toInt ≤ 40 := (g_s_1.1 28 9).2.2.2.1 rfl
    try have m_9_ := tm_14 (x := (gi s_1 28 9)) (by omega) (by omega)
    apply wp_bv_i
    intro v_2 e_v_2
    have j_10_ := eq_ti e_v_2
    try simp (disch := omega) only [ti_add, ti_sub, b2t_, b2f_, li_0, li_1, li_4, li_9, li_14, li_28, li_160, li_720, li_m1] at j_10_
    refine wp_chk_i (inb_ti (by first | omega | (simp (disch := omega) only [ti_add, ti_sub, b2t_, b2f_, li_0, li_1, li_4, li_9, li_14, li_28, li_160, li_720, li_m1]; omega)) (by first | omega | (simp (disch := omega) only [ti_add, ti_sub, b2t_, b2f_, li_0, li_1, li_4, li_9, li_14, li_28, li_160, li_720, li_m1]; omega))) ?_
    apply wp_bv_i
    intro s_4 e_s_4
    have g_s_4 : N10_ s0 s_4 := by rw [e_s_4]; exact N10_.si g_s_1 (by decide) (by refine ⟨?_, ?_, ?_, ?_, ?_, ?_⟩ <;> intro x_ <;> first | omega | (simp (disch := omega) only [ti_add, ti_sub, b2t_, b2f_, li_0, li_1, li_4, li_9, li_14, li_28, li_160, li_720, li_m1]; omega))
    refine wp_jn (fun k_6 => ∀ (s_5 : Sg), N10_ s0 s_5 → wp_ (k_6 s_5) Q) ?_ (fun k_6 hk_6 => ?_)
    · intro s_5 g_s_5
      try dsimp only
      have b_11_ : 0 ≤ (gi s_5 28 9).toInt ∧ (gi s_5 28 9).toInt ≤ 40 := (g_s_5.1 28 9).2.2.2.1 rfl
      exact wp_some_i (by subst hQ; exact g_s_5)
    exact lX10_undo_52_b s0 h0 v_2 k_6 hk_6 (by first | omega | (simp (disch := omega) only [ti_add, ti_sub, b2t_, b2f_, li_0, li_1, li_4, li_9, li_14, li_28, li_160, li_720, li_m1]; omega)) FU 0 s_4 g_s_4 (by first | omega | (simp (disch := omega) only [ti_add, ti_sub, b2t_, b2f_, li_0, li_1, li_4, li_9, li_14, li_28, li_160, li_720, li_m1]; omega)) (by first | omega | (simp (disch := omega) only [ti_add, ti_sub, b2t_, b2f_, li_0, li_1, li_4, li_9, li_14, li_28, li_160, li_720, li_m1]; omega))
set_option maxHeartbeats 1000000 in
set_option maxRecDepth 20000 in
theorem tX10_byteAt (a1 : Int32) (s0 : Sg) (h0 : I10_ s0) (ha : 0 ≤ a1.toInt) : wp_ (fX10_byteAt a1 s0) (fun q => q.2 = s0) := by
  have g_s0 : N10_ s0 s0 := N10_.rf h0
  have hFU_ : FU = 1000000000 := rfl
  generalize hQ : (fun q : (Int32 × Sg) => q.2 = s0) = Q
  unfold fX10_byteAt
  have L0_ := li_0
  have L1_ := li_1
  have L4_ := li_4
  have L27_ := li_27
  have L31_ := li_31
  have L300_ := li_300
  have M1_ := li_m1
  refine wp_if_i (fun h_1_ => ?_) (fun h_1_ => ?_)
  · skip
    have b_2_ : 0 ≤ (gi s0 27 4).toInt ∧ (gi s0 27 4).toInt ≤ 300 := g_s0.1 27 4
    have j_3_ := le_ti h_1_
    try simp (disch := omega) only [ti_add, ti_sub, b2t_, b2f_, li_0, li_1, li_4, li_27, li_31, li_300, li_m1] at j_3_
    exact wp_some_i (by subst hQ; exact rfl)
  · skip
    have b_4_ : 0 ≤ (gi s0 27 4).toInt ∧ (gi s0 27 4).toInt ≤ 300 := g_s0.1 27 4
    have j_5_ := nle_ti h_1_
    try simp (disch := omega) only [ti_add, ti_sub, b2t_, b2f_, li_0, li_1, li_4, li_27, li_31, li_300, li_m1] at j_5_
    refine wp_chk_i (inb_ti (by first | omega | (simp (disch := omega) only [ti_add, ti_sub, b2t_, b2f_, li_0, li_1, li_4, li_27, li_31, li_300, li_m1]; omega)) (by first | omega | (simp (disch := omega) only [ti_add, ti_sub, b2t_, b2f_, li_0, li_1, li_4, li_27, li_31, li_300, li_m1]; omega))) ?_
    exact wp_some_i (by subst hQ; exact rfl)
set_option maxHeartbeats 1000000 in
set_option maxRecDepth 20000 in
theorem tX10_isDigit (a1 : Int32) (s0 : Sg) (h0 : I10_ s0)  : wp_ (fX10_isDigit a1 s0) (fun q => q.2 = s0) := by
  have g_s0 : N10_ s0 s0 := N10_.rf h0
  have hFU_ : FU = 1000000000 := rfl
  generalize hQ : (fun q : (Bool × Sg) => q.2 = s0) = Q
  unfold fX10_isDigit
  have L0_ := li_0
  have L1_ := li_1
  have L48_ := li_48
  have L57_ := li_57
  have M1_ := li_m1
  refine wp_bnd_i (tX10_isIn a1 48 57 s0 g_s0.1 ) (fun r_1 s_2 p_s_2 => ?_)
  have e_s_2 : s_2 = s0 := p_s_2.1
  have g_s_2 : N10_ s0 s_2 := by rw [e_s_2]; exact g_s0
  have f_s_2 := p_s_2.2
  try dsimp only at f_s_2
  try simp (disch := omega) only [ti_add, ti_sub, b2t_, b2f_, li_0, li_1, li_48, li_57, li_m1] at f_s_2
  exact wp_some_i (by subst hQ; exact (by rw [e_s_2]))
set_option maxHeartbeats 1000000 in
set_option maxRecDepth 20000 in
theorem tX10_isLetter (a1 : Int32) (s0 : Sg) (h0 : I10_ s0)  : wp_ (fX10_isLetter a1 s0) (fun q => q.2 = s0) := by
  have g_s0 : N10_ s0 s0 := N10_.rf h0
  have hFU_ : FU = 1000000000 := rfl
  generalize hQ : (fun q : (Bool × Sg) => q.2 = s0) = Q
  unfold fX10_isLetter
  have L0_ := li_0
  have L1_ := li_1
  have L65_ := li_65
  have L90_ := li_90
  have L97_ := li_97
  have L122_ := li_122
  have M1_ := li_m1
  refine wp_bnd_i (tX10_isIn a1 97 122 s0 g_s0.1 ) (fun r_1 s_2 p_s_2 => ?_)
  have e_s_2 : s_2 = s0 := p_s_2.1
  have g_s_2 : N10_ s0 s_2 := by rw [e_s_2]; exact g_s0
  have f_s_2 := p_s_2.2
  try dsimp only at f_s_2
  try simp (disch := omega) only [ti_add, ti_sub, b2t_, b2f_, li_0, li_1, li_65, li_90, li_97, li_122, li_m1] at f_s_2
  refine wp_if_i (fun h_1_ => ?_) (fun h_1_ => ?_)
  · skip
    have b_2_ := b2i_bd r_1
    have j_3_ := eq_ti h_1_
    try simp (disch := omega) only [ti_add, ti_sub, b2t_, b2f_, li_0, li_1, li_65, li_90, li_97, li_122, li_m1] at j_3_
    refine wp_bnd_i (tX10_isIn a1 65 90 s_2 g_s_2.1 ) (fun r_3 s_4 p_s_4 => ?_)
    have e_s_4 : s_4 = s_2 := p_s_4.1
    have g_s_4 : N10_ s0 s_4 := by rw [e_s_4]; exact g_s_2
    have f_s_4 := p_s_4.2
    try dsimp only at f_s_4
    try simp (disch := omega) only [ti_add, ti_sub, b2t_, b2f_, li_0, li_1, li_65, li_90, li_97, li_122, li_m1] at f_s_4
    refine wp_if_i (fun h_4_ => ?_) (fun h_4_ => ?_)
    · skip
      have b_5_ := b2i_bd r_3
      have j_6_ := eq_ti h_4_
      try simp (disch := omega) only [ti_add, ti_sub, b2t_, b2f_, li_0, li_1, li_65, li_90, li_97, li_122, li_m1] at j_6_
      exact wp_some_i (by subst hQ; exact (by rw [e_s_4, e_s_2]))
    · skip
      have b_7_ := b2i_bd r_3
      have j_8_ := ne_ti h_4_
      try simp (disch := omega) only [ti_add, ti_sub, b2t_, b2f_, li_0, li_1, li_65, li_90, li_97, li_122, li_m1] at j_8_
      exact wp_some_i (by subst hQ; exact (by rw [e_s_4, e_s_2]))
  · skip
    have b_9_ := b2i_bd r_1
    have j_10_ := ne_ti h_1_
    try simp (disch := omega) only [ti_add, ti_sub, b2t_, b2f_, li_0, li_1, li_65, li_90, li_97, li_122, li_m1] at j_10_
    exact wp_some_i (by subst hQ; exact (by rw [e_s_2]))
set_option maxHeartbeats 1000000 in
set_option maxRecDepth 20000 in
theorem tX10_clip (a1 : Int64) (s0 : Sg) (h0 : I10_ s0)  : wp_ (fX10_clip a1 s0) (fun q => q.2 = s0) := by
  have g_s0 : N10_ s0 s0 := N10_.rf h0
  have hFU_ : FU = 1000000000 := rfl
  generalize hQ : (fun q : (Int64 × Sg) => q.2 = s0) = Q
  unfold fX10_clip
  have L0_ := li_0
  have L1_ := li_1
  have L1000000_ := li_1000000
  have M1_ := li_m1
  have M1000000_ := li_m1000000
  refine wp_if_i (fun h_1_ => ?_) (fun h_1_ => ?_)
  · skip
    have j_2_ := le_ti h_1_
    try simp (disch := omega) only [ti_add, ti_sub, b2t_, b2f_, li_0, li_1, li_1000000, li_m1, li_m1000000] at j_2_
    refine wp_if_i (fun h_3_ => ?_) (fun h_3_ => ?_)
    · skip
      have j_4_ := le_ti h_3_
      try simp (disch := omega) only [ti_add, ti_sub, b2t_, b2f_, li_0, li_1, li_1000000, li_m1, li_m1000000] at j_4_
      exact wp_some_i (by subst hQ; exact rfl)
    · skip
      have j_5_ := nle_ti h_3_
      try simp (disch := omega) only [ti_add, ti_sub, b2t_, b2f_, li_0, li_1, li_1000000, li_m1, li_m1000000] at j_5_
      exact wp_some_i (by subst hQ; exact rfl)
  · skip
    have j_6_ := nle_ti h_1_
    try simp (disch := omega) only [ti_add, ti_sub, b2t_, b2f_, li_0, li_1, li_1000000, li_m1, li_m1000000] at j_6_
    exact wp_some_i (by subst hQ; exact rfl)
set_option maxHeartbeats 1000000 in
set_option maxRecDepth 20000 in
theorem tX10_two (a1 : Int32) (a2 : Int64) (a3 : Int64) (s0 : Sg) (h0 : I10_ s0)  : wp_ (fX10_two a1 a2 a3 s0) (fun q => q.2 = s0) := by
  have g_s0 : N10_ s0 s0 := N10_.rf h0
  have hFU_ : FU = 1000000000 := rfl
  generalize hQ : (fun q : (Int64 × Sg) => q.2 = s0) = Q
  unfold fX10_two
  have L0_ := li_0
  have L1_ := li_1
  have L3_ := li_3
  have L4_ := li_4
  have L5_ := li_5
  have M1_ := li_m1
  refine wp_if_i (fun h_1_ => ?_) (fun h_1_ => ?_)
  · skip
    have j_2_ := eq_ti h_1_
    try simp (disch := omega) only [ti_add, ti_sub, b2t_, b2f_, li_0, li_1, li_3, li_4, li_5, li_m1] at j_2_
    try have m_3_ := ti_add (x := a2) (y := a3) (by omega) (by omega)
    refine wp_bnd_i (tX10_clip (a2 + a3) s0 g_s0.1 ) (fun r_1 s_2 p_s_2 => ?_)
    have e_s_2 : s_2 = s0 := p_s_2
    have g_s_2 : N10_ s0 s_2 := by rw [e_s_2]; exact g_s0
    exact wp_some_i (by subst hQ; exact (by rw [e_s_2]))
  · skip
    have j_4_ := ne_ti h_1_
    try simp (disch := omega) only [ti_add, ti_sub, b2t_, b2f_, li_0, li_1, li_3, li_4, li_5, li_m1] at j_4_
    refine wp_if_i (fun h_5_ => ?_) (fun h_5_ => ?_)
    · skip
      have j_6_ := eq_ti h_5_
      try simp (disch := omega) only [ti_add, ti_sub, b2t_, b2f_, li_0, li_1, li_3, li_4, li_5, li_m1] at j_6_
      try have m_7_ := ti_sub (x := a2) (y := a3) (by omega) (by omega)
      refine wp_bnd_i (tX10_clip (a2 - a3) s0 g_s0.1 ) (fun r_4 s_5 p_s_5 => ?_)
      have e_s_5 : s_5 = s0 := p_s_5
      have g_s_5 : N10_ s0 s_5 := by rw [e_s_5]; exact g_s0
      exact wp_some_i (by subst hQ; exact (by rw [e_s_5]))
    · skip
      have j_8_ := ne_ti h_5_
      try simp (disch := omega) only [ti_add, ti_sub, b2t_, b2f_, li_0, li_1, li_3, li_4, li_5, li_m1] at j_8_
      refine wp_if_i (fun h_9_ => ?_) (fun h_9_ => ?_)
      · skip
        have j_10_ := eq_ti h_9_
        try simp (disch := omega) only [ti_add, ti_sub, b2t_, b2f_, li_0, li_1, li_3, li_4, li_5, li_m1] at j_10_
        refine wp_bnd_i (tX10_clip (a2 * a3) s0 g_s0.1 ) (fun r_7 s_8 p_s_8 => ?_)
        have e_s_8 : s_8 = s0 := p_s_8
        have g_s_8 : N10_ s0 s_8 := by rw [e_s_8]; exact g_s0
        exact wp_some_i (by subst hQ; exact (by rw [e_s_8]))
      · skip
        have j_11_ := ne_ti h_9_
        try simp (disch := omega) only [ti_add, ti_sub, b2t_, b2f_, li_0, li_1, li_3, li_4, li_5, li_m1] at j_11_
        refine wp_if_i (fun h_12_ => ?_) (fun h_12_ => ?_)
        · skip
          have j_13_ := eq_ti h_12_
          try simp (disch := omega) only [ti_add, ti_sub, b2t_, b2f_, li_0, li_1, li_3, li_4, li_5, li_m1] at j_13_
          exact wp_some_i (by subst hQ; exact rfl)
        · skip
          have j_14_ := ne_ti h_12_
          try simp (disch := omega) only [ti_add, ti_sub, b2t_, b2f_, li_0, li_1, li_3, li_4, li_5, li_m1] at j_14_
          refine wp_chk_i (lcmp_ne (by assumption)) ?_
          refine wp_bnd_i (tX10_clip (a2 / a3) s0 g_s0.1 ) (fun r_13 s_14 p_s_14 => ?_)
          have e_s_14 : s_14 = s0 := p_s_14
          have g_s_14 : N10_ s0 s_14 := by rw [e_s_14]; exact g_s0
          exact wp_some_i (by subst hQ; exact (by rw [e_s_14]))
set_option maxHeartbeats 1000000 in
set_option maxRecDepth 20000 in
theorem tX10_isAsked (a1 : Int32) (a2 : Int64) (a3 : Int64) (s0 : Sg) (h0 : I10_ s0)  : wp_ (fX10_isAsked a1 a2 a3 s0) (fun q => q.2 = s0) := by
  have g_s0 : N10_ s0 s0 := N10_.rf h0
  have hFU_ : FU = 1000000000 := rfl
  generalize hQ : (fun q : (Bool × Sg) => q.2 = s0) = Q
  unfold fX10_isAsked
  have L0_ := li_0
  have L1_ := li_1
  have L10_ := li_10
  have L11_ := li_11
  have L12_ := li_12
  have L13_ := li_13
  have L14_ := li_14
  have M1_ := li_m1
  refine wp_if_i (fun h_1_ => ?_) (fun h_1_ => ?_)
  · skip
    have j_2_ := eq_ti h_1_
    try simp (disch := omega) only [ti_add, ti_sub, b2t_, b2f_, li_0, li_1, li_10, li_11, li_12, li_13, li_14, li_m1] at j_2_
    refine wp_if_i (fun h_3_ => ?_) (fun h_3_ => ?_)
    · skip
      have j_4_ := le_ti h_3_
      try simp (disch := omega) only [ti_add, ti_sub, b2t_, b2f_, li_0, li_1, li_10, li_11, li_12, li_13, li_14, li_m1] at j_4_
      exact wp_some_i (by subst hQ; exact rfl)
    · skip
      have j_5_ := nle_ti h_3_
      try simp (disch := omega) only [ti_add, ti_sub, b2t_, b2f_, li_0, li_1, li_10, li_11, li_12, li_13, li_14, li_m1] at j_5_
      exact wp_some_i (by subst hQ; exact rfl)
  · skip
    have j_6_ := ne_ti h_1_
    try simp (disch := omega) only [ti_add, ti_sub, b2t_, b2f_, li_0, li_1, li_10, li_11, li_12, li_13, li_14, li_m1] at j_6_
    refine wp_if_i (fun h_7_ => ?_) (fun h_7_ => ?_)
    · skip
      have j_8_ := eq_ti h_7_
      try simp (disch := omega) only [ti_add, ti_sub, b2t_, b2f_, li_0, li_1, li_10, li_11, li_12, li_13, li_14, li_m1] at j_8_
      refine wp_if_i (fun h_9_ => ?_) (fun h_9_ => ?_)
      · skip
        have j_10_ := lt_ti h_9_
        try simp (disch := omega) only [ti_add, ti_sub, b2t_, b2f_, li_0, li_1, li_10, li_11, li_12, li_13, li_14, li_m1] at j_10_
        exact wp_some_i (by subst hQ; exact rfl)
      · skip
        have j_11_ := nlt_ti h_9_
        try simp (disch := omega) only [ti_add, ti_sub, b2t_, b2f_, li_0, li_1, li_10, li_11, li_12, li_13, li_14, li_m1] at j_11_
        exact wp_some_i (by subst hQ; exact rfl)
    · skip
      have j_12_ := ne_ti h_7_
      try simp (disch := omega) only [ti_add, ti_sub, b2t_, b2f_, li_0, li_1, li_10, li_11, li_12, li_13, li_14, li_m1] at j_12_
      refine wp_if_i (fun h_13_ => ?_) (fun h_13_ => ?_)
      · skip
        have j_14_ := eq_ti h_13_
        try simp (disch := omega) only [ti_add, ti_sub, b2t_, b2f_, li_0, li_1, li_10, li_11, li_12, li_13, li_14, li_m1] at j_14_
        refine wp_if_i (fun h_15_ => ?_) (fun h_15_ => ?_)
        · skip
          have j_16_ := le_ti h_15_
          try simp (disch := omega) only [ti_add, ti_sub, b2t_, b2f_, li_0, li_1, li_10, li_11, li_12, li_13, li_14, li_m1] at j_16_
          exact wp_some_i (by subst hQ; exact rfl)
        · skip
          have j_17_ := nle_ti h_15_
          try simp (disch := omega) only [ti_add, ti_sub, b2t_, b2f_, li_0, li_1, li_10, li_11, li_12, li_13, li_14, li_m1] at j_17_
          exact wp_some_i (by subst hQ; exact rfl)
      · skip
        have j_18_ := ne_ti h_13_
        try simp (disch := omega) only [ti_add, ti_sub, b2t_, b2f_, li_0, li_1, li_10, li_11, li_12, li_13, li_14, li_m1] at j_18_
        refine wp_if_i (fun h_19_ => ?_) (fun h_19_ => ?_)
        · skip
          have j_20_ := eq_ti h_19_
          try simp (disch := omega) only [ti_add, ti_sub, b2t_, b2f_, li_0, li_1, li_10, li_11, li_12, li_13, li_14, li_m1] at j_20_
          refine wp_if_i (fun h_21_ => ?_) (fun h_21_ => ?_)
          · skip
            have j_22_ := lt_ti h_21_
            try simp (disch := omega) only [ti_add, ti_sub, b2t_, b2f_, li_0, li_1, li_10, li_11, li_12, li_13, li_14, li_m1] at j_22_
            exact wp_some_i (by subst hQ; exact rfl)
          · skip
            have j_23_ := nlt_ti h_21_
            try simp (disch := omega) only [ti_add, ti_sub, b2t_, b2f_, li_0, li_1, li_10, li_11, li_12, li_13, li_14, li_m1] at j_23_
            exact wp_some_i (by subst hQ; exact rfl)
        · skip
          have j_24_ := ne_ti h_19_
          try simp (disch := omega) only [ti_add, ti_sub, b2t_, b2f_, li_0, li_1, li_10, li_11, li_12, li_13, li_14, li_m1] at j_24_
          refine wp_if_i (fun h_25_ => ?_) (fun h_25_ => ?_)
          · skip
            have j_26_ := eq_ti h_25_
            try simp (disch := omega) only [ti_add, ti_sub, b2t_, b2f_, li_0, li_1, li_10, li_11, li_12, li_13, li_14, li_m1] at j_26_
            refine wp_if_i (fun h_27_ => ?_) (fun h_27_ => ?_)
            · skip
              have j_28_ := eq_ti h_27_
              try simp (disch := omega) only [ti_add, ti_sub, b2t_, b2f_, li_0, li_1, li_10, li_11, li_12, li_13, li_14, li_m1] at j_28_
              exact wp_some_i (by subst hQ; exact rfl)
            · skip
              have j_29_ := ne_ti h_27_
              try simp (disch := omega) only [ti_add, ti_sub, b2t_, b2f_, li_0, li_1, li_10, li_11, li_12, li_13, li_14, li_m1] at j_29_
              exact wp_some_i (by subst hQ; exact rfl)
          · skip
            have j_30_ := ne_ti h_25_
            try simp (disch := omega) only [ti_add, ti_sub, b2t_, b2f_, li_0, li_1, li_10, li_11, li_12, li_13, li_14, li_m1] at j_30_
            refine wp_if_i (fun h_31_ => ?_) (fun h_31_ => ?_)
            · skip
              have j_32_ := eq_ti h_31_
              try simp (disch := omega) only [ti_add, ti_sub, b2t_, b2f_, li_0, li_1, li_10, li_11, li_12, li_13, li_14, li_m1] at j_32_
              exact wp_some_i (by subst hQ; exact rfl)
            · skip
              have j_33_ := ne_ti h_31_
              try simp (disch := omega) only [ti_add, ti_sub, b2t_, b2f_, li_0, li_1, li_10, li_11, li_12, li_13, li_14, li_m1] at j_33_
              exact wp_some_i (by subst hQ; exact rfl)
