set_option maxHeartbeats 1000000 in
set_option maxRecDepth 20000 in
theorem tX10_isRead (a1 : Int32) (a2 : Int32) (a3 : Int32) (a4 : Int32) (s0 : Sg) (h0 : I10_ s0) (ha : 0 ≤ a1.toInt ∧ a1.toInt ≤ 9) : wp_ (fX10_isRead a1 a2 a3 a4 s0) (fun q => q.2 = s0) := by
  have g_s0 : N10_ s0 s0 := N10_.rf h0
  have hFU_ : FU = 1000000000 := rfl
  generalize hQ : (fun q : (Bool × Sg) => q.2 = s0) = Q
  unfold fX10_isRead
  have L0_ := li_0
  have L1_ := li_1
  have L4_ := li_4
  have L7_ := li_7
  have L8_ := li_8
  have L9_ := li_9
  have L10_ := li_10
  have L28_ := li_28
  have L55_ := li_55
  have L720_ := li_720
  have M1_ := li_m1
  try have m_1_ := tm_10 (x := a1) (by omega) (by omega)
  apply wp_bv_i
  intro v_1 e_v_1
  have j_2_ := eq_ti e_v_1
  try simp (disch := omega) only [ti_add, ti_sub, b2t_, b2f_, li_0, li_1, li_4, li_7, li_8, li_9, li_10, li_28, li_55, li_720, li_m1] at j_2_
  try have m_3_ := ti_add (x := v_1) (y := 8) (by omega) (by omega)
  refine wp_chk_i (inb_ti (by first | omega | (simp (disch := omega) only [ti_add, ti_sub, b2t_, b2f_, li_0, li_1, li_4, li_7, li_8, li_9, li_10, li_28, li_55, li_720, li_m1]; omega)) (by first | omega | (simp (disch := omega) only [ti_add, ti_sub, b2t_, b2f_, li_0, li_1, li_4, li_7, li_8, li_9, li_10, li_28, li_55, li_720, li_m1]; omega))) ?_
  refine wp_chk_i (inb_ti (by first | omega | (simp (disch := omega) only [ti_add, ti_sub, b2t_, b2f_, li_0, li_1, li_4, li_7, li_8, li_9, li_10, li_28, li_55, li_720, li_m1]; omega)) (by first | omega | (simp (disch := omega) only [ti_add, ti_sub, b2t_, b2f_, li_0, li_1, li_4, li_7, li_8, li_9, li_10, li_28, li_55, li_720, li_m1]; omega))) ?_
  refine wp_jn (fun k_6 => ∀ (y_4 : Int32) (y_5 : Int32), wp_ (k_6 y_4 y_5) Q) ?_ (fun k_6 hk_6 => ?_)
  · intro y_4 y_5
    try dsimp only
    apply wp_bv_i
    intro v_7 e_v_7
    have j_4_ := eq_ti e_v_7
    try simp (disch := omega) only [ti_add, ti_sub, b2t_, b2f_, li_0, li_1, li_4, li_7, li_8, li_9, li_10, li_28, li_55, li_720, li_m1] at j_4_
    try have m_5_ := ti_add (x := v_1) (y := 9) (by omega) (by omega)
    refine wp_chk_i (inb_ti (by first | omega | (simp (disch := omega) only [ti_add, ti_sub, b2t_, b2f_, li_0, li_1, li_4, li_7, li_8, li_9, li_10, li_28, li_55, li_720, li_m1]; omega)) (by first | omega | (simp (disch := omega) only [ti_add, ti_sub, b2t_, b2f_, li_0, li_1, li_4, li_7, li_8, li_9, li_10, li_28, li_55, li_720, li_m1]; omega))) ?_
    refine wp_chk_i (inb_ti (by first | omega | (simp (disch := omega) only [ti_add, ti_sub, b2t_, b2f_, li_0, li_1, li_4, li_7, li_8, li_9, li_10, li_28, li_55, li_720, li_m1]; omega)) (by first | omega | (simp (disch := omega) only [ti_add, ti_sub, b2t_, b2f_, li_0, li_1, li_4, li_7, li_8, li_9, li_10, li_28, li_55, li_720, li_m1]; omega))) ?_
    refine wp_jn (fun k_12 => ∀ (y_10 : Int32) (y_11 : Int32), wp_ (k_12 y_10 y_11) Q) ?_ (fun k_12 hk_12 => ?_)
    · intro y_10 y_11
      try dsimp only
      apply wp_bv_i
      intro v_13 e_v_13
      have j_6_ := eq_ti e_v_13
      try simp (disch := omega) only [ti_add, ti_sub, b2t_, b2f_, li_0, li_1, li_4, li_7, li_8, li_9, li_10, li_28, li_55, li_720, li_m1] at j_6_
      try have m_7_ := ti_add (x := v_1) (y := 4) (by omega) (by omega)
      refine wp_chk_i (inb_ti (by first | omega | (simp (disch := omega) only [ti_add, ti_sub, b2t_, b2f_, li_0, li_1, li_4, li_7, li_8, li_9, li_10, li_28, li_55, li_720, li_m1]; omega)) (by first | omega | (simp (disch := omega) only [ti_add, ti_sub, b2t_, b2f_, li_0, li_1, li_4, li_7, li_8, li_9, li_10, li_28, li_55, li_720, li_m1]; omega))) ?_
      try have m_8_ := ti_add (x := v_1) (y := 7) (by omega) (by omega)
      refine wp_chk_i (inb_ti (by first | omega | (simp (disch := omega) only [ti_add, ti_sub, b2t_, b2f_, li_0, li_1, li_4, li_7, li_8, li_9, li_10, li_28, li_55, li_720, li_m1]; omega)) (by first | omega | (simp (disch := omega) only [ti_add, ti_sub, b2t_, b2f_, li_0, li_1, li_4, li_7, li_8, li_9, li_10, li_28, li_55, li_720, li_m1]; omega))) ?_
      try have m_9_ := ti_sub (x := (a3 * v_7)) (y := (a4 * v_13)) (by omega) (by omega)
      try have m_10_ := tm_10 (x := (gi s0 28 (ix (v_1 + 4)))) (by omega) (by omega)
      try have m_11_ := ti_add (x := ((a3 * v_7) - (a4 * v_13))) (y := (10 * (gi s0 28 (ix (v_1 + 4))))) (by omega) (by omega)
      refine wp_bnd_i (tX10_beamBy (((a3 * v_7) - (a4 * v_13)) + (10 * (gi s0 28 (ix (v_1 + 4))))) (gi s0 28 (ix (v_1 + 7))) s0 g_s0.1 ) (fun r_16 s_17 p_s_17 => ?_)
      have e_s_17 : s_17 = s0 := p_s_17
      have g_s_17 : N10_ s0 s_17 := by rw [e_s_17]; exact g_s0
      try have m_12_ := ti_add (x := v_1) (y := 1) (by omega) (by omega)
      refine wp_chk_i (inb_ti (by first | omega | (simp (disch := omega) only [ti_add, ti_sub, b2t_, b2f_, li_0, li_1, li_4, li_7, li_8, li_9, li_10, li_28, li_55, li_720, li_m1]; omega)) (by first | omega | (simp (disch := omega) only [ti_add, ti_sub, b2t_, b2f_, li_0, li_1, li_4, li_7, li_8, li_9, li_10, li_28, li_55, li_720, li_m1]; omega))) ?_
      refine wp_if_i (fun h_13_ => ?_) (fun h_13_ => ?_)
      · skip
        have j_14_ := eq_ti h_13_
        try simp (disch := omega) only [ti_add, ti_sub, b2t_, b2f_, li_0, li_1, li_4, li_7, li_8, li_9, li_10, li_28, li_55, li_720, li_m1] at j_14_
        exact wp_some_i (by subst hQ; exact (by rw [e_s_17]))
      · skip
        have j_15_ := ne_ti h_13_
        try simp (disch := omega) only [ti_add, ti_sub, b2t_, b2f_, li_0, li_1, li_4, li_7, li_8, li_9, li_10, li_28, li_55, li_720, li_m1] at j_15_
        exact wp_some_i (by subst hQ; exact (by rw [e_s_17]))
    refine wp_if_i (fun h_16_ => ?_) (fun h_16_ => ?_)
    · skip
      have j_17_ := eq_ti h_16_
      try simp (disch := omega) only [ti_add, ti_sub, b2t_, b2f_, li_0, li_1, li_4, li_7, li_8, li_9, li_10, li_28, li_55, li_720, li_m1] at j_17_
      exact hk_12 (gi s0 28 (ix (v_1 + 9))) a2  
    · skip
      have j_18_ := ne_ti h_16_
      try simp (disch := omega) only [ti_add, ti_sub, b2t_, b2f_, li_0, li_1, li_4, li_7, li_8, li_9, li_10, li_28, li_55, li_720, li_m1] at j_18_
      exact hk_12 (gi s0 28 (ix (v_1 + 9))) 0  
  refine wp_if_i (fun h_19_ => ?_) (fun h_19_ => ?_)
  · skip
    have j_20_ := eq_ti h_19_
    try simp (disch := omega) only [ti_add, ti_sub, b2t_, b2f_, li_0, li_1, li_4, li_7, li_8, li_9, li_10, li_28, li_55, li_720, li_m1] at j_20_
    exact hk_6 (gi s0 28 (ix (v_1 + 8))) a2  
  · skip
    have j_21_ := ne_ti h_19_
    try simp (disch := omega) only [ti_add, ti_sub, b2t_, b2f_, li_0, li_1, li_4, li_7, li_8, li_9, li_10, li_28, li_55, li_720, li_m1] at j_21_
    exact hk_6 (gi s0 28 (ix (v_1 + 8))) 0  
set_option maxHeartbeats 1000000 in
set_option maxRecDepth 20000 in
theorem lX10_balanced_53_b {Q : (Int32 × Sg) → Prop} (S_ : Sg) (hI_ : I10_ S_) (x4_27 : Int32) (k_32 : Sg → Option (Int32 × Sg)) (hk_32 : ∀ (z0_ : Sg), N10_ S_ z0_ → wp_ (k_32 z0_) Q) (cp0_ : 0 ≤ x4_27.toInt ∧ x4_27.toInt ≤ 4095) : ∀ (n : Nat) (x5_34 : Int32) (s_35 : Sg), N10_ S_ s_35 → 0 ≤ x5_34.toInt → (12 - x5_34.toInt).toNat < n → wp_ (lo2 (fX10_balanced_53_b x4_27 k_32) n x5_34 s_35) Q := by
  intro n
  induction n with
  | zero =>
    intro x5_34 s_35 _ _ hm_
    exact absurd hm_ (Nat.not_lt_zero _)
  | succ n ih =>
    intro x5_34 s_35 g_s_35 i0_ hm_
    show wp_ (fX10_balanced_53_b x4_27 k_32 (lo2 (fX10_balanced_53_b x4_27 k_32) n) x5_34 s_35) Q
    have hrec := ih
    generalize lo2 (fX10_balanced_53_b x4_27 k_32) n = rc at hrec ⊢
    clear ih
    have hFU_ : FU = 1000000000 := rfl
    unfold fX10_balanced_53_b
    rw [ixl_0]
    have L0_ := li_0
    have L1_ := li_1
    have L28_ := li_28
    have L44_ := li_44
    have L720_ := li_720
    have L4096_ := li_4096
    have M1_ := li_m1
    refine wp_if_i (fun h_1_ => ?_) (fun h_1_ => ?_)
    · skip
      have b_2_ : 0 ≤ (gi s_35 28 0).toInt ∧ (gi s_35 28 0).toInt ≤ 12 := (g_s_35.1 28 0).1 rfl
      have j_3_ := le_ti h_1_
      try simp (disch := omega) only [ti_add, ti_sub, b2t_, b2f_, li_0, li_1, li_28, li_44, li_720, li_4096, li_m1] at j_3_
      exact hk_32 s_35 g_s_35 
    · skip
      have b_4_ : 0 ≤ (gi s_35 28 0).toInt ∧ (gi s_35 28 0).toInt ≤ 12 := (g_s_35.1 28 0).1 rfl
      have j_5_ := nle_ti h_1_
      try simp (disch := omega) only [ti_add, ti_sub, b2t_, b2f_, li_0, li_1, li_28, li_44, li_720, li_4096, li_m1] at j_5_
      refine wp_chk_i (inb_ti (by first | omega | (simp (disch := omega) only [ti_add, ti_sub, b2t_, b2f_, li_0, li_1, li_28, li_44, li_720, li_4096, li_m1]; omega)) (by first | omega | (simp (disch := omega) only [ti_add, ti_sub, b2t_, b2f_, li_0, li_1, li_28, li_44, li_720, li_4096, li_m1]; omega))) ?_
      refine wp_bnd_i (tX10_has x4_27 x5_34 s_35 g_s_35.1 ) (fun r_37 s_38 p_s_38 => ?_)
      have e_s_38 : s_38 = s_35 := p_s_38
      have g_s_38 : N10_ S_ s_38 := by rw [e_s_38]; exact g_s_35
      refine wp_jn (fun k_43 => ∀ (y_39 : Int32) (y_40 : Int32) (y_41 : Int32) (s_42 : Sg), N10_ S_ s_42 → 0 ≤ y_39.toInt ∧ y_39.toInt ≤ 4095 → wp_ (k_43 y_39 y_40 y_41 s_42) Q) ?_ (fun k_43 hk_43 => ?_)
      · intro y_39 y_40 y_41 s_42 g_s_42 u_0_k_43
        try dsimp only
        refine wp_chk_i (inb_ti (by first | omega | (simp (disch := omega) only [ti_add, ti_sub, b2t_, b2f_, li_0, li_1, li_28, li_44, li_720, li_4096, li_m1]; omega)) (by first | omega | (simp (disch := omega) only [ti_add, ti_sub, b2t_, b2f_, li_0, li_1, li_28, li_44, li_720, li_4096, li_m1]; omega))) ?_
        try have m_6_ := ti_add (x := y_40) (y := y_41) (by omega) (by omega)
        apply wp_bv_i
        intro s_45 e_s_45
        have g_s_45 : N10_ S_ s_45 := by rw [e_s_45]; exact N10_.si g_s_42 (by decide) trivial
        apply wp_bv_i
        intro v_46 e_v_46
        have j_7_ := eq_ti e_v_46
        try simp (disch := omega) only [ti_add, ti_sub, b2t_, b2f_, li_0, li_1, li_28, li_44, li_720, li_4096, li_m1] at j_7_
        exact hrec v_46 s_45 g_s_45 (by first | omega | (simp (disch := omega) only [ti_add, ti_sub, b2t_, b2f_, li_0, li_1, li_28, li_44, li_720, li_4096, li_m1]; omega)) (by first | omega | (simp (disch := omega) only [ti_add, ti_sub, b2t_, b2f_, li_0, li_1, li_28, li_44, li_720, li_4096, li_m1]; omega))
      refine wp_if_i (fun h_8_ => ?_) (fun h_8_ => ?_)
      · skip
        have b_9_ := b2i_bd r_37
        have j_10_ := eq_ti h_8_
        try simp (disch := omega) only [ti_add, ti_sub, b2t_, b2f_, li_0, li_1, li_28, li_44, li_720, li_4096, li_m1] at j_10_
        exact hk_43 x4_27 (gi s_35 44 (ix x4_27)) 0 s_38 g_s_38 (by first | omega | (simp (disch := omega) only [ti_add, ti_sub, b2t_, b2f_, li_0, li_1, li_28, li_44, li_720, li_4096, li_m1]; omega))
      · skip
        have b_11_ := b2i_bd r_37
        have j_12_ := ne_ti h_8_
        try simp (disch := omega) only [ti_add, ti_sub, b2t_, b2f_, li_0, li_1, li_28, li_44, li_720, li_4096, li_m1] at j_12_
        refine wp_bnd_i (tX10_thingAt x5_34 s_38 g_s_38.1 (by first | omega | (simp (disch := omega) only [ti_add, ti_sub, b2t_, b2f_, li_0, li_1, li_28, li_44, li_720, li_4096, li_m1]; omega))) (fun r_47 s_48 p_s_48 => ?_)
        have e_s_48 : s_48 = s_38 := p_s_48.1
        have g_s_48 : N10_ S_ s_48 := by rw [e_s_48]; exact g_s_38
        have f_s_48 := p_s_48.2
        try dsimp only at f_s_48
        try simp (disch := omega) only [ti_add, ti_sub, b2t_, b2f_, li_0, li_1, li_28, li_44, li_720, li_4096, li_m1] at f_s_48
        refine wp_chk_i (inb_ti (by first | omega | (simp (disch := omega) only [ti_add, ti_sub, b2t_, b2f_, li_0, li_1, li_28, li_44, li_720, li_4096, li_m1]; omega)) (by first | omega | (simp (disch := omega) only [ti_add, ti_sub, b2t_, b2f_, li_0, li_1, li_28, li_44, li_720, li_4096, li_m1]; omega))) ?_
        exact hk_43 x4_27 (gi s_35 44 (ix x4_27)) (gi s_48 28 (ix r_47)) s_48 g_s_48 (by first | omega | (simp (disch := omega) only [ti_add, ti_sub, b2t_, b2f_, li_0, li_1, li_28, li_44, li_720, li_4096, li_m1]; omega))
set_option maxHeartbeats 1000000 in
set_option maxRecDepth 20000 in
theorem lX10_balanced_36_b {Q : (Int32 × Sg) → Prop} (S_ : Sg) (hI_ : I10_ S_) (v_5 : Int32) (k_7 : Sg → Option (Int32 × Sg)) (hk_7 : ∀ (z0_ : Sg), N10_ S_ z0_ → wp_ (k_7 z0_) Q) (cp0_ : v_5.toInt ≤ 4095) : ∀ (n : Nat) (x4_27 : Int32) (s_28 : Sg), N10_ S_ s_28 → 0 ≤ x4_27.toInt → (4096 - x4_27.toInt).toNat < n → wp_ (lo2 (fX10_balanced_36_b v_5 k_7) n x4_27 s_28) Q := by
  intro n
  induction n with
  | zero =>
    intro x4_27 s_28 _ _ hm_
    exact absurd hm_ (Nat.not_lt_zero _)
  | succ n ih =>
    intro x4_27 s_28 g_s_28 i0_ hm_
    show wp_ (fX10_balanced_36_b v_5 k_7 (lo2 (fX10_balanced_36_b v_5 k_7) n) x4_27 s_28) Q
    have hrec := ih
    generalize lo2 (fX10_balanced_36_b v_5 k_7) n = rc at hrec ⊢
    clear ih
    have hFU_ : FU = 1000000000 := rfl
    unfold fX10_balanced_36_b
    have L0_ := li_0
    have L1_ := li_1
    have L44_ := li_44
    have L4096_ := li_4096
    have M1_ := li_m1
    refine wp_if_i (fun h_1_ => ?_) (fun h_1_ => ?_)
    · skip
      have j_2_ := lt_ti h_1_
      try simp (disch := omega) only [ti_add, ti_sub, b2t_, b2f_, li_0, li_1, li_44, li_4096, li_m1] at j_2_
      exact hk_7 s_28 g_s_28 
    · skip
      have j_3_ := nlt_ti h_1_
      try simp (disch := omega) only [ti_add, ti_sub, b2t_, b2f_, li_0, li_1, li_44, li_4096, li_m1] at j_3_
      refine wp_chk_i (inb_ti (by first | omega | (simp (disch := omega) only [ti_add, ti_sub, b2t_, b2f_, li_0, li_1, li_44, li_4096, li_m1]; omega)) (by first | omega | (simp (disch := omega) only [ti_add, ti_sub, b2t_, b2f_, li_0, li_1, li_44, li_4096, li_m1]; omega))) ?_
      apply wp_bv_i
      intro s_30 e_s_30
      have g_s_30 : N10_ S_ s_30 := by rw [e_s_30]; exact N10_.si g_s_28 (by decide) trivial
      refine wp_jn (fun k_32 => ∀ (s_31 : Sg), N10_ S_ s_31 → wp_ (k_32 s_31) Q) ?_ (fun k_32 hk_32 => ?_)
      · intro s_31 g_s_31
        try dsimp only
        apply wp_bv_i
        intro v_33 e_v_33
        have j_4_ := eq_ti e_v_33
        try simp (disch := omega) only [ti_add, ti_sub, b2t_, b2f_, li_0, li_1, li_44, li_4096, li_m1] at j_4_
        exact hrec v_33 s_31 g_s_31 (by first | omega | (simp (disch := omega) only [ti_add, ti_sub, b2t_, b2f_, li_0, li_1, li_44, li_4096, li_m1]; omega)) (by first | omega | (simp (disch := omega) only [ti_add, ti_sub, b2t_, b2f_, li_0, li_1, li_44, li_4096, li_m1]; omega))
      exact lX10_balanced_53_b S_ hI_ x4_27 k_32 hk_32 (by first | omega | (simp (disch := omega) only [ti_add, ti_sub, b2t_, b2f_, li_0, li_1, li_44, li_4096, li_m1]; omega)) FU 0 s_30 g_s_30 (by first | omega | (simp (disch := omega) only [ti_add, ti_sub, b2t_, b2f_, li_0, li_1, li_44, li_4096, li_m1]; omega)) (by first | omega | (simp (disch := omega) only [ti_add, ti_sub, b2t_, b2f_, li_0, li_1, li_44, li_4096, li_m1]; omega))
set_option maxHeartbeats 1000000 in
set_option maxRecDepth 20000 in
theorem tX10_tryBalanced (a1 : Int32) (a2 : Int32) (s0 : Sg) (h0 : I10_ s0)  : wp_ (fX10_tryBalanced a1 a2 s0) (fun q => N10_ s0 q) := by
  have g_s0 : N10_ s0 s0 := N10_.rf h0
  have hFU_ : FU = 1000000000 := rfl
  generalize hQ : (fun q : (Sg) => N10_ s0 q) = Q
  unfold fX10_tryBalanced
  rw [ixl_0, ixl_1, ixl_2]
  have L0_ := li_0
  have L1_ := li_1
  have L2_ := li_2
  have L43_ := li_43
  have M1_ := li_m1
  refine wp_bnd_i (tX10_bits a1 s0 g_s0.1 ) (fun r_1 s_2 p_s_2 => ?_)
  have e_s_2 : s_2 = s0 := p_s_2
  have g_s_2 : N10_ s0 s_2 := by rw [e_s_2]; exact g_s0
  refine wp_jn (fun k_4 => ∀ (y_3 : Bool), wp_ (k_4 y_3) Q) ?_ (fun k_4 hk_4 => ?_)
  · intro y_3
    try dsimp only
    refine wp_if_i (fun h_1_ => ?_) (fun h_1_ => ?_)
    · skip
      have b_2_ := b2i_bd y_3
      have j_3_ := eq_ti h_1_
      try simp (disch := omega) only [ti_add, ti_sub, b2t_, b2f_, li_0, li_1, li_2, li_43, li_m1] at j_3_
      exact wp_some_i (by subst hQ; exact g_s_2)
    · skip
      have b_4_ := b2i_bd y_3
      have j_5_ := ne_ti h_1_
      try simp (disch := omega) only [ti_add, ti_sub, b2t_, b2f_, li_0, li_1, li_2, li_43, li_m1] at j_5_
      apply wp_bv_i
      intro s_5 e_s_5
      have g_s_5 : N10_ s0 s_5 := by rw [e_s_5]; exact N10_.si g_s_2 (by decide) trivial
      apply wp_bv_i
      intro s_6 e_s_6
      have g_s_6 : N10_ s0 s_6 := by rw [e_s_6]; exact N10_.si g_s_5 (by decide) trivial
      apply wp_bv_i
      intro s_7 e_s_7
      have g_s_7 : N10_ s0 s_7 := by rw [e_s_7]; exact N10_.si g_s_6 (by decide) trivial
      exact wp_some_i (by subst hQ; exact g_s_7)
  refine wp_jn (fun k_8 => wp_ k_8 Q) ?_ (fun k_8 hk_8 => ?_)
  · skip
    exact hk_4 true  
  refine wp_if_i (fun h_6_ => ?_) (fun h_6_ => ?_)
  · skip
    have j_7_ := lt_ti h_6_
    try simp (disch := omega) only [ti_add, ti_sub, b2t_, b2f_, li_0, li_1, li_2, li_43, li_m1] at j_7_
    exact hk_8   
  · skip
    have j_8_ := nlt_ti h_6_
    try simp (disch := omega) only [ti_add, ti_sub, b2t_, b2f_, li_0, li_1, li_2, li_43, li_m1] at j_8_
    refine wp_if_i (fun h_9_ => ?_) (fun h_9_ => ?_)
    · skip
      have j_10_ := lt_ti h_9_
      try simp (disch := omega) only [ti_add, ti_sub, b2t_, b2f_, li_0, li_1, li_2, li_43, li_m1] at j_10_
      exact hk_8   
    · skip
      have j_11_ := nlt_ti h_9_
      try simp (disch := omega) only [ti_add, ti_sub, b2t_, b2f_, li_0, li_1, li_2, li_43, li_m1] at j_11_
      refine wp_jn (fun k_9 => wp_ k_9 Q) ?_ (fun k_9 hk_9 => ?_)
      · skip
        exact hk_4 false  
      refine wp_if_i (fun h_12_ => ?_) (fun h_12_ => ?_)
      · skip
        have j_13_ := eq_ti h_12_
        try simp (disch := omega) only [ti_add, ti_sub, b2t_, b2f_, li_0, li_1, li_2, li_43, li_m1] at j_13_
        refine wp_if_i (fun h_14_ => ?_) (fun h_14_ => ?_)
        · skip
          have j_15_ := lt_ti h_14_
          try simp (disch := omega) only [ti_add, ti_sub, b2t_, b2f_, li_0, li_1, li_2, li_43, li_m1] at j_15_
          exact hk_8   
        · skip
          have j_16_ := nlt_ti h_14_
          try simp (disch := omega) only [ti_add, ti_sub, b2t_, b2f_, li_0, li_1, li_2, li_43, li_m1] at j_16_
          refine wp_if_i (fun h_17_ => ?_) (fun h_17_ => ?_)
          · skip
            have j_18_ := eq_ti h_17_
            try simp (disch := omega) only [ti_add, ti_sub, b2t_, b2f_, li_0, li_1, li_2, li_43, li_m1] at j_18_
            refine wp_if_i (fun h_19_ => ?_) (fun h_19_ => ?_)
            · skip
              have j_20_ := le_ti h_19_
              try simp (disch := omega) only [ti_add, ti_sub, b2t_, b2f_, li_0, li_1, li_2, li_43, li_m1] at j_20_
              exact hk_9   
            · skip
              have j_21_ := nle_ti h_19_
              try simp (disch := omega) only [ti_add, ti_sub, b2t_, b2f_, li_0, li_1, li_2, li_43, li_m1] at j_21_
              exact hk_8   
          · skip
            have j_22_ := ne_ti h_17_
            try simp (disch := omega) only [ti_add, ti_sub, b2t_, b2f_, li_0, li_1, li_2, li_43, li_m1] at j_22_
            exact hk_9   
      · skip
        have j_23_ := ne_ti h_12_
        try simp (disch := omega) only [ti_add, ti_sub, b2t_, b2f_, li_0, li_1, li_2, li_43, li_m1] at j_23_
        exact hk_9   
set_option maxHeartbeats 1000000 in
set_option maxRecDepth 20000 in
theorem lX10_balanced_156_b {Q : (Int32 × Sg) → Prop} (S_ : Sg) (hI_ : I10_ S_) (a1 : Int32) (x4_12 : Int32) (k_15 : Sg → Option (Int32 × Sg)) (hk_15 : ∀ (z0_ : Sg), N10_ S_ z0_ → wp_ (k_15 z0_) Q) (cp0_ : 0 ≤ x4_12.toInt ∧ x4_12.toInt ≤ 4095) : ∀ (n : Nat) (x5_19 : Int32) (s_20 : Sg), N10_ S_ s_20 → 0 ≤ x5_19.toInt ∧ x5_19.toInt ≤ 4095 → (x5_19.toInt).toNat < n → wp_ (lo2 (fX10_balanced_156_b a1 x4_12 k_15) n x5_19 s_20) Q := by
  intro n
  induction n with
  | zero =>
    intro x5_19 s_20 _ _ hm_
    exact absurd hm_ (Nat.not_lt_zero _)
  | succ n ih =>
    intro x5_19 s_20 g_s_20 i0_ hm_
    show wp_ (fX10_balanced_156_b a1 x4_12 k_15 (lo2 (fX10_balanced_156_b a1 x4_12 k_15) n) x5_19 s_20) Q
    have hrec := ih
    generalize lo2 (fX10_balanced_156_b a1 x4_12 k_15) n = rc at hrec ⊢
    clear ih
    have hFU_ : FU = 1000000000 := rfl
    unfold fX10_balanced_156_b
    have L0_ := li_0
    have L1_ := li_1
    have L2_ := li_2
    have L44_ := li_44
    have L4096_ := li_4096
    have M1_ := li_m1
    refine wp_if_i (fun h_1_ => ?_) (fun h_1_ => ?_)
    · skip
      have j_2_ := le_ti h_1_
      try simp (disch := omega) only [ti_add, ti_sub, b2t_, b2f_, li_0, li_1, li_2, li_44, li_4096, li_m1] at j_2_
      exact hk_15 s_20 g_s_20 
    · skip
      have j_3_ := nle_ti h_1_
      try simp (disch := omega) only [ti_add, ti_sub, b2t_, b2f_, li_0, li_1, li_2, li_44, li_4096, li_m1] at j_3_
      try have m_4_ := ti_sub (x := x5_19) (y := 1) (by omega) (by omega)
      apply wp_bv_i
      intro v_21 e_v_21
      have ab_ := and_bd (x5_19 - 1) x4_12 (by omega)
      have ac_ := and_bd x4_12 (x5_19 - 1) (by first | omega | (rw [ti_sub (by omega) (by omega)]; omega))
      rw [Int32.and_comm, ← e_v_21] at ac_
      rw [← e_v_21] at ab_
      rw [ti_sub (by omega) (by omega)] at ac_
      have j_5_ := eq_ti e_v_21
      try simp (disch := omega) only [ti_add, ti_sub, b2t_, b2f_, li_0, li_1, li_2, li_44, li_4096, li_m1] at j_5_
      refine wp_chk_i (inb_ti (by first | omega | (simp (disch := omega) only [ti_add, ti_sub, b2t_, b2f_, li_0, li_1, li_2, li_44, li_4096, li_m1]; omega)) (by first | omega | (simp (disch := omega) only [ti_add, ti_sub, b2t_, b2f_, li_0, li_1, li_2, li_44, li_4096, li_m1]; omega))) ?_
      refine wp_chk_i (inb_ti (by first | omega | (simp (disch := omega) only [ti_add, ti_sub, b2t_, b2f_, li_0, li_1, li_2, li_44, li_4096, li_m1]; omega)) (by first | omega | (simp (disch := omega) only [ti_add, ti_sub, b2t_, b2f_, li_0, li_1, li_2, li_44, li_4096, li_m1]; omega))) ?_
      refine wp_if_i (fun h_6_ => ?_) (fun h_6_ => ?_)
      · skip
        try have m_7_ := tm_2 (x := (gi s_20 44 (ix v_21))) (by omega) (by omega)
        try have m_8_ := ti_sub (x := (gi s_20 44 (ix x4_12))) (y := (2 * (gi s_20 44 (ix v_21)))) (by omega) (by omega)
        have j_9_ := eq_ti h_6_
        try simp (disch := omega) only [ti_add, ti_sub, b2t_, b2f_, li_0, li_1, li_2, li_44, li_4096, li_m1] at j_9_
        refine wp_bnv_i (tX10_tryBalanced x4_12 v_21 s_20 g_s_20.1 ) (fun s_24 p_s_24 => ?_)
        have g_s_24 := g_s_20.tr p_s_24
        exact hrec v_21 s_24 g_s_24 (by first | omega | (simp (disch := omega) only [ti_add, ti_sub, b2t_, b2f_, li_0, li_1, li_2, li_44, li_4096, li_m1]; omega)) (by first | omega | (simp (disch := omega) only [ti_add, ti_sub, b2t_, b2f_, li_0, li_1, li_2, li_44, li_4096, li_m1]; omega))
      · skip
        try have m_10_ := tm_2 (x := (gi s_20 44 (ix v_21))) (by omega) (by omega)
        try have m_11_ := ti_sub (x := (gi s_20 44 (ix x4_12))) (y := (2 * (gi s_20 44 (ix v_21)))) (by omega) (by omega)
        have j_12_ := ne_ti h_6_
        try simp (disch := omega) only [ti_add, ti_sub, b2t_, b2f_, li_0, li_1, li_2, li_44, li_4096, li_m1] at j_12_
        exact hrec v_21 s_20 g_s_20 (by first | omega | (simp (disch := omega) only [ti_add, ti_sub, b2t_, b2f_, li_0, li_1, li_2, li_44, li_4096, li_m1]; omega)) (by first | omega | (simp (disch := omega) only [ti_add, ti_sub, b2t_, b2f_, li_0, li_1, li_2, li_44, li_4096, li_m1]; omega))
set_option maxHeartbeats 1000000 in
set_option maxRecDepth 20000 in
theorem lX10_balanced_120_b {Q : (Int32 × Sg) → Prop} (S_ : Sg) (hI_ : I10_ S_) (a1 : Int32) (v_5 : Int32) (k_10 : Sg → Option (Int32 × Sg)) (hk_10 : ∀ (z0_ : Sg), N10_ S_ z0_ → wp_ (k_10 z0_) Q) (cp0_ : v_5.toInt ≤ 4095) : ∀ (n : Nat) (x4_12 : Int32) (s_13 : Sg), N10_ S_ s_13 → 1 ≤ x4_12.toInt → (4097 - x4_12.toInt).toNat < n → wp_ (lo2 (fX10_balanced_120_b a1 v_5 k_10) n x4_12 s_13) Q := by
  intro n
  induction n with
  | zero =>
    intro x4_12 s_13 _ _ hm_
    exact absurd hm_ (Nat.not_lt_zero _)
  | succ n ih =>
    intro x4_12 s_13 g_s_13 i0_ hm_
    show wp_ (fX10_balanced_120_b a1 v_5 k_10 (lo2 (fX10_balanced_120_b a1 v_5 k_10) n) x4_12 s_13) Q
    have hrec := ih
    generalize lo2 (fX10_balanced_120_b a1 v_5 k_10) n = rc at hrec ⊢
    clear ih
    have hFU_ : FU = 1000000000 := rfl
    unfold fX10_balanced_120_b
    rw [ixl_0]
    have L0_ := li_0
    have L1_ := li_1
    have L43_ := li_43
    have M1_ := li_m1
    refine wp_if_i (fun h_1_ => ?_) (fun h_1_ => ?_)
    · skip
      have j_2_ := lt_ti h_1_
      try simp (disch := omega) only [ti_add, ti_sub, b2t_, b2f_, li_0, li_1, li_43, li_m1] at j_2_
      exact hk_10 s_13 g_s_13 
    · skip
      have j_3_ := nlt_ti h_1_
      try simp (disch := omega) only [ti_add, ti_sub, b2t_, b2f_, li_0, li_1, li_43, li_m1] at j_3_
      refine wp_jn (fun k_15 => ∀ (s_14 : Sg), N10_ S_ s_14 → wp_ (k_15 s_14) Q) ?_ (fun k_15 hk_15 => ?_)
      · intro s_14 g_s_14
        try dsimp only
        apply wp_bv_i
        intro v_16 e_v_16
        have j_4_ := eq_ti e_v_16
        try simp (disch := omega) only [ti_add, ti_sub, b2t_, b2f_, li_0, li_1, li_43, li_m1] at j_4_
        exact hrec v_16 s_14 g_s_14 (by first | omega | (simp (disch := omega) only [ti_add, ti_sub, b2t_, b2f_, li_0, li_1, li_43, li_m1]; omega)) (by first | omega | (simp (disch := omega) only [ti_add, ti_sub, b2t_, b2f_, li_0, li_1, li_43, li_m1]; omega))
      refine wp_jn (fun k_18 => ∀ (s_17 : Sg), N10_ S_ s_17 → wp_ (k_18 s_17) Q) ?_ (fun k_18 hk_18 => ?_)
      · intro s_17 g_s_17
        try dsimp only
        exact lX10_balanced_156_b S_ hI_ a1 x4_12 k_15 hk_15 (by first | omega | (simp (disch := omega) only [ti_add, ti_sub, b2t_, b2f_, li_0, li_1, li_43, li_m1]; omega)) FU x4_12 s_17 g_s_17 (by first | omega | (simp (disch := omega) only [ti_add, ti_sub, b2t_, b2f_, li_0, li_1, li_43, li_m1]; omega)) (by first | omega | (simp (disch := omega) only [ti_add, ti_sub, b2t_, b2f_, li_0, li_1, li_43, li_m1]; omega))
      refine wp_if_i (fun h_5_ => ?_) (fun h_5_ => ?_)
      · skip
        have j_6_ := lt_ti h_5_
        try simp (disch := omega) only [ti_add, ti_sub, b2t_, b2f_, li_0, li_1, li_43, li_m1] at j_6_
        exact hk_18 s_13 g_s_13 
      · skip
        have j_7_ := nlt_ti h_5_
        try simp (disch := omega) only [ti_add, ti_sub, b2t_, b2f_, li_0, li_1, li_43, li_m1] at j_7_
        refine wp_bnd_i (tX10_bits x4_12 s_13 g_s_13.1 ) (fun r_25 s_26 p_s_26 => ?_)
        have e_s_26 : s_26 = s_13 := p_s_26
        have g_s_26 : N10_ S_ s_26 := by rw [e_s_26]; exact g_s_13
        refine wp_if_i (fun h_8_ => ?_) (fun h_8_ => ?_)
        · skip
          have j_9_ := le_ti h_8_
          try simp (disch := omega) only [ti_add, ti_sub, b2t_, b2f_, li_0, li_1, li_43, li_m1] at j_9_
          exact hk_18 s_26 g_s_26 
        · skip
          have j_10_ := nle_ti h_8_
          try simp (disch := omega) only [ti_add, ti_sub, b2t_, b2f_, li_0, li_1, li_43, li_m1] at j_10_
          exact hk_15 s_26 g_s_26 
set_option maxHeartbeats 1000000 in
set_option maxRecDepth 20000 in
theorem tX10_balanced (a1 : Int32) (a2 : Int32) (s0 : Sg) (h0 : I10_ s0)  : wp_ (fX10_balanced a1 a2 s0) (fun q => N10_ s0 q.2) := by
  have g_s0 : N10_ s0 s0 := N10_.rf h0
  have hFU_ : FU = 1000000000 := rfl
  generalize hQ : (fun q : (Int32 × Sg) => N10_ s0 q.2) = Q
  unfold fX10_balanced
  rw [ixl_0]
  have L0_ := li_0
  have L1_ := li_1
  have L2_ := li_2
  have L3_ := li_3
  have L28_ := li_28
  have L31_ := li_31
  have L43_ := li_43
  have L999_ := li_999
  have M1_ := li_m1
  refine wp_bnd_i (tX10_isIn a1 1 999 s0 g_s0.1 ) (fun r_1 s_2 p_s_2 => ?_)
  have e_s_2 : s_2 = s0 := p_s_2.1
  have g_s_2 : N10_ s0 s_2 := by rw [e_s_2]; exact g_s0
  have f_s_2 := p_s_2.2
  try dsimp only at f_s_2
  try simp (disch := omega) only [ti_add, ti_sub, b2t_, b2f_, li_0, li_1, li_2, li_3, li_28, li_31, li_43, li_999, li_m1] at f_s_2
  refine wp_if_i (fun h_1_ => ?_) (fun h_1_ => ?_)
  · skip
    have b_2_ := b2i_bd r_1
    have j_3_ := eq_ti h_1_
    try simp (disch := omega) only [ti_add, ti_sub, b2t_, b2f_, li_0, li_1, li_2, li_3, li_28, li_31, li_43, li_999, li_m1] at j_3_
    exact wp_some_i (by subst hQ; exact g_s_2)
  · skip
    have b_4_ := b2i_bd r_1
    have j_5_ := ne_ti h_1_
    try simp (disch := omega) only [ti_add, ti_sub, b2t_, b2f_, li_0, li_1, li_2, li_3, li_28, li_31, li_43, li_999, li_m1] at j_5_
    refine wp_bnd_i (tX10_isIn a2 0 2 s_2 g_s_2.1 ) (fun r_3 s_4 p_s_4 => ?_)
    have e_s_4 : s_4 = s_2 := p_s_4.1
    have g_s_4 : N10_ s0 s_4 := by rw [e_s_4]; exact g_s_2
    have f_s_4 := p_s_4.2
    try dsimp only at f_s_4
    try simp (disch := omega) only [ti_add, ti_sub, b2t_, b2f_, li_0, li_1, li_2, li_3, li_28, li_31, li_43, li_999, li_m1] at f_s_4
    refine wp_if_i (fun h_6_ => ?_) (fun h_6_ => ?_)
    · skip
      have b_7_ := b2i_bd r_3
      have j_8_ := eq_ti h_6_
      try simp (disch := omega) only [ti_add, ti_sub, b2t_, b2f_, li_0, li_1, li_2, li_3, li_28, li_31, li_43, li_999, li_m1] at j_8_
      exact wp_some_i (by subst hQ; exact g_s_4)
    · skip
      have b_9_ := b2i_bd r_3
      have j_10_ := ne_ti h_6_
      try simp (disch := omega) only [ti_add, ti_sub, b2t_, b2f_, li_0, li_1, li_2, li_3, li_28, li_31, li_43, li_999, li_m1] at j_10_
      have b_11_ : 0 ≤ (gi s0 28 0).toInt ∧ (gi s0 28 0).toInt ≤ 12 := (g_s0.1 28 0).1 rfl
      have r_12_ : (gi s_2 28 0).toInt = (gi s0 28 0).toInt := by rw [e_s_2]
      have b_13_ : 0 ≤ (gi s_2 28 0).toInt ∧ (gi s_2 28 0).toInt ≤ 12 := (g_s_2.1 28 0).1 rfl
      have r_14_ : (gi s_4 28 0).toInt = (gi s_2 28 0).toInt := by rw [e_s_4]
      have b_15_ : 0 ≤ (gi s_4 28 0).toInt ∧ (gi s_4 28 0).toInt ≤ 12 := (g_s_4.1 28 0).1 rfl
      have sh_16_ := shl_le (gi s_4 28 0) 12 (by first | omega | (simp (disch := omega) only [ti_add, ti_sub, b2t_, b2f_, li_0, li_1, li_2, li_3, li_28, li_31, li_43, li_999, li_m1]; omega)) (by first | omega | (simp (disch := omega) only [ti_add, ti_sub, b2t_, b2f_, li_0, li_1, li_2, li_3, li_28, li_31, li_43, li_999, li_m1]; omega)) (by decide)
      try simp only [Nat.reducePow, Nat.cast_ofNat, Int.reducePow] at sh_16_
      apply wp_bv_i
      intro v_5 e_v_5
      have j_17_ := eq_ti e_v_5
      try simp (disch := omega) only [ti_add, ti_sub, b2t_, b2f_, li_0, li_1, li_2, li_3, li_28, li_31, li_43, li_999, li_m1] at j_17_
      refine wp_jn (fun k_7 => ∀ (s_6 : Sg), N10_ s0 s_6 → wp_ (k_7 s_6) Q) ?_ (fun k_7 hk_7 => ?_)
      · intro s_6 g_s_6
        try dsimp only
        apply wp_bv_i
        intro s_8 e_s_8
        have g_s_8 : N10_ s0 s_8 := by rw [e_s_8]; exact N10_.si g_s_6 (by decide) trivial
        refine wp_jn (fun k_10 => ∀ (s_9 : Sg), N10_ s0 s_9 → wp_ (k_10 s_9) Q) ?_ (fun k_10 hk_10 => ?_)
        · intro s_9 g_s_9
          try dsimp only
          refine wp_if_i (fun h_18_ => ?_) (fun h_18_ => ?_)
          · skip
            have j_19_ := le_ti h_18_
            try simp (disch := omega) only [ti_add, ti_sub, b2t_, b2f_, li_0, li_1, li_2, li_3, li_28, li_31, li_43, li_999, li_m1] at j_19_
            refine wp_chk_i (inb_ti (by first | omega | (simp (disch := omega) only [ti_add, ti_sub, b2t_, b2f_, li_0, li_1, li_2, li_3, li_28, li_31, li_43, li_999, li_m1]; omega)) (by first | omega | (simp (disch := omega) only [ti_add, ti_sub, b2t_, b2f_, li_0, li_1, li_2, li_3, li_28, li_31, li_43, li_999, li_m1]; omega))) ?_
            exact wp_some_i (by subst hQ; exact g_s_9)
          · skip
            have j_20_ := nle_ti h_18_
            try simp (disch := omega) only [ti_add, ti_sub, b2t_, b2f_, li_0, li_1, li_2, li_3, li_28, li_31, li_43, li_999, li_m1] at j_20_
            exact wp_some_i (by subst hQ; exact g_s_9)
        exact lX10_balanced_120_b s0 h0 a1 v_5 k_10 hk_10 (by first | omega | (simp (disch := omega) only [ti_add, ti_sub, b2t_, b2f_, li_0, li_1, li_2, li_3, li_28, li_31, li_43, li_999, li_m1]; omega)) FU 1 s_8 g_s_8 (by first | omega | (simp (disch := omega) only [ti_add, ti_sub, b2t_, b2f_, li_0, li_1, li_2, li_3, li_28, li_31, li_43, li_999, li_m1]; omega)) (by first | omega | (simp (disch := omega) only [ti_add, ti_sub, b2t_, b2f_, li_0, li_1, li_2, li_3, li_28, li_31, li_43, li_999, li_m1]; omega))
      exact lX10_balanced_36_b s0 h0 v_5 k_7 hk_7 (by first | omega | (simp (disch := omega) only [ti_add, ti_sub, b2t_, b2f_, li_0, li_1, li_2, li_3, li_28, li_31, li_43, li_999, li_m1]; omega)) FU 0 s_4 g_s_4 (by first | omega | (simp (disch := omega) only [ti_add, ti_sub, b2t_, b2f_, li_0, li_1, li_2, li_3, li_28, li_31, li_43, li_999, li_m1]; omega)) (by first | omega | (simp (disch := omega) only [ti_add, ti_sub, b2t_, b2f_, li_0, li_1, li_2, li_3, li_28, li_31, li_43, li_999, li_m1]; omega))
