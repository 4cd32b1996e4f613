set_option maxHeartbeats 1000000 in
set_option maxRecDepth 20000 in
theorem tX9_rest (a1 : Int32) (a2 : Int32) (a3 : Int32) (s0 : Sg) (h0 : I9_ s0)  : wp_ (fX9_rest a1 a2 a3 s0) (fun q => G9_ s0 q.2) := by
  have g_s0 : G9_ s0 s0 := G9_.rf h0
  have hFU_ : FU = 1000000000 := rfl
  generalize hQ : (fun q : (Int32 × Sg) => G9_ s0 q.2) = Q
  unfold fX9_rest
  have L0_ := li_0
  have L1_ := li_1
  have L7_ := li_7
  have L17_ := li_17
  have L99_ := li_99
  have L9999_ := li_9999
  have M1_ := li_m1
  refine wp_bnd_i (tX9_within a1 0 9999 s0 g_s0.1 ) (fun r_1 s_2 p_s_2 => ?_)
  have e_s_2 : s_2 = s0 := p_s_2.1
  have g_s_2 : G9_ s0 s_2 := by rw [e_s_2]; exact g_s0
  have f_s_2 := p_s_2.2
  try dsimp only at f_s_2
  try simp (disch := omega) only [ti_add, ti_sub, b2t_, b2f_, li_0, li_1, li_7, li_17, li_99, li_9999, li_m1] at f_s_2
  refine wp_if_i (fun h_1_ => ?_) (fun h_1_ => ?_)
  · skip
    have b_2_ := b2i_bd r_1
    have j_3_ := eq_ti h_1_
    try simp (disch := omega) only [ti_add, ti_sub, b2t_, b2f_, li_0, li_1, li_7, li_17, li_99, li_9999, li_m1] at j_3_
    exact wp_some_i (by subst hQ; exact g_s_2)
  · skip
    have b_4_ := b2i_bd r_1
    have j_5_ := ne_ti h_1_
    try simp (disch := omega) only [ti_add, ti_sub, b2t_, b2f_, li_0, li_1, li_7, li_17, li_99, li_9999, li_m1] at j_5_
    refine wp_bnd_i (tX9_within a2 1 99 s_2 g_s_2.1 ) (fun r_3 s_4 p_s_4 => ?_)
    have e_s_4 : s_4 = s_2 := p_s_4.1
    have g_s_4 : G9_ s0 s_4 := by rw [e_s_4]; exact g_s_2
    have f_s_4 := p_s_4.2
    try dsimp only at f_s_4
    try simp (disch := omega) only [ti_add, ti_sub, b2t_, b2f_, li_0, li_1, li_7, li_17, li_99, li_9999, li_m1] at f_s_4
    refine wp_if_i (fun h_6_ => ?_) (fun h_6_ => ?_)
    · skip
      have b_7_ := b2i_bd r_3
      have j_8_ := eq_ti h_6_
      try simp (disch := omega) only [ti_add, ti_sub, b2t_, b2f_, li_0, li_1, li_7, li_17, li_99, li_9999, li_m1] at j_8_
      exact wp_some_i (by subst hQ; exact g_s_4)
    · skip
      have b_9_ := b2i_bd r_3
      have j_10_ := ne_ti h_6_
      try simp (disch := omega) only [ti_add, ti_sub, b2t_, b2f_, li_0, li_1, li_7, li_17, li_99, li_9999, li_m1] at j_10_
      refine wp_bnd_i (tX9_within a3 0 1 s_4 g_s_4.1 ) (fun r_5 s_6 p_s_6 => ?_)
      have e_s_6 : s_6 = s_4 := p_s_6.1
      have g_s_6 : G9_ s0 s_6 := by rw [e_s_6]; exact g_s_4
      have f_s_6 := p_s_6.2
      try dsimp only at f_s_6
      try simp (disch := omega) only [ti_add, ti_sub, b2t_, b2f_, li_0, li_1, li_7, li_17, li_99, li_9999, li_m1] at f_s_6
      refine wp_if_i (fun h_11_ => ?_) (fun h_11_ => ?_)
      · skip
        have b_12_ := b2i_bd r_5
        have j_13_ := eq_ti h_11_
        try simp (disch := omega) only [ti_add, ti_sub, b2t_, b2f_, li_0, li_1, li_7, li_17, li_99, li_9999, li_m1] at j_13_
        exact wp_some_i (by subst hQ; exact g_s_6)
      · skip
        have b_14_ := b2i_bd r_5
        have j_15_ := ne_ti h_11_
        try simp (disch := omega) only [ti_add, ti_sub, b2t_, b2f_, li_0, li_1, li_7, li_17, li_99, li_9999, li_m1] at j_15_
        apply wp_bv_i
        intro v_7 e_v_7
        have j_16_ := eq_ti e_v_7
        try simp (disch := omega) only [ti_add, ti_sub, b2t_, b2f_, li_0, li_1, li_7, li_17, li_99, li_9999, li_m1] at j_16_
        refine wp_jn (fun k_11 => ∀ (x5_8 : Int32) (x7_9 : Int32) (s_10 : Sg), G9_ s0 s_10 → wp_ (k_11 x5_8 x7_9 s_10) Q) ?_ (fun k_11 hk_11 => ?_)
        · intro x5_8 x7_9 s_10 g_s_10
          try dsimp only
          refine wp_if_i (fun h_17_ => ?_) (fun h_17_ => ?_)
          · skip
            have j_18_ := eq_ti h_17_
            try simp (disch := omega) only [ti_add, ti_sub, b2t_, b2f_, li_0, li_1, li_7, li_17, li_99, li_9999, li_m1] at j_18_
            exact wp_some_i (by subst hQ; exact g_s_10)
          · skip
            have j_19_ := ne_ti h_17_
            try simp (disch := omega) only [ti_add, ti_sub, b2t_, b2f_, li_0, li_1, li_7, li_17, li_99, li_9999, li_m1] at j_19_
            exact wp_some_i (by subst hQ; exact g_s_10)
        exact lX9_rest_53_b s0 h0 a2 k_11 hk_11 (by first | omega | (simp (disch := omega) only [ti_add, ti_sub, b2t_, b2f_, li_0, li_1, li_7, li_17, li_99, li_9999, li_m1]; omega)) FU v_7 0 0 0 0 s_6 g_s_6 (by first | omega | (simp (disch := omega) only [ti_add, ti_sub, b2t_, b2f_, li_0, li_1, li_7, li_17, li_99, li_9999, li_m1]; omega)) (by first | omega | (simp (disch := omega) only [ti_add, ti_sub, b2t_, b2f_, li_0, li_1, li_7, li_17, li_99, li_9999, li_m1]; omega))
set_option maxHeartbeats 1000000 in
set_option maxRecDepth 20000 in
theorem lX7_reads_20_b {Q : (Bool × Sg) → Prop} (S_ : Sg) (hI_ : I9_ S_) (a1 : Nat) (hsome : ∀ q : (Bool × Sg), q.2 = S_ → Q q) (cp0_ : 100 ≤ a1 ∧ a1 < 120) : ∀ (n : Nat) (x2_3 : Int32) (s_4 : Sg), s_4 = S_ → 0 ≤ x2_3.toInt → (gi s_4 3 3).toInt + (sLv (a1 + 50) : Int) ≤ 300 → (6 - x2_3.toInt).toNat < n → wp_ (lo2 (fX7_reads_20_b a1) n x2_3 s_4) Q := by
  intro n
  induction n with
  | zero =>
    intro x2_3 s_4 _ _ _ hm_
    exact absurd hm_ (Nat.not_lt_zero _)
  | succ n ih =>
    intro x2_3 s_4 e_s_4 i0_ i1_ hm_
    show wp_ (fX7_reads_20_b a1 (lo2 (fX7_reads_20_b a1) n) x2_3 s_4) Q
    have hrec := ih
    generalize lo2 (fX7_reads_20_b a1) n = rc at hrec ⊢
    clear ih
    have hFU_ : FU = 1000000000 := rfl
    unfold fX7_reads_20_b
    have L0_ := li_0
    have L1_ := li_1
    have L3_ := li_3
    have L17_ := li_17
    have L300_ := li_300
    have M1_ := li_m1
    have g_s_4 : R9_ S_ s_4 := by rw [e_s_4]; exact R9_.rf hI_
    refine wp_bnd_i (tJ0_length_8abf5 a1 s_4 g_s_4.1 (by first | omega | (simp (disch := omega) only [ti_add, ti_sub, b2t_, b2f_, li_0, li_1, li_3, li_17, li_300, li_m1]; omega))) (fun r_5 s_6 p_s_6 => ?_)
    have e_s_6 : s_6 = s_4 := p_s_6.1
    have g_s_6 : R9_ S_ s_6 := by rw [e_s_6]; exact g_s_4
    have f_s_6 := p_s_6.2
    try dsimp only at f_s_6
    try simp (disch := omega) only [ti_add, ti_sub, b2t_, b2f_, li_0, li_1, li_3, li_17, li_300, li_m1] at f_s_6
    refine wp_if_i (fun h_1_ => ?_) (fun h_1_ => ?_)
    · skip
      have j_2_ := le_ti h_1_
      try simp (disch := omega) only [ti_add, ti_sub, b2t_, b2f_, li_0, li_1, li_3, li_17, li_300, li_m1] at j_2_
      exact wp_some_i (hsome (true, s_6) (by rw [e_s_6, e_s_4]))
    · skip
      have j_3_ := nle_ti h_1_
      try simp (disch := omega) only [ti_add, ti_sub, b2t_, b2f_, li_0, li_1, li_3, li_17, li_300, li_m1] at j_3_
      have b_4_ : 0 ≤ (gi S_ 3 3).toInt ∧ (gi S_ 3 3).toInt ≤ 301 := (R9_.rf hI_).1.1 3 3
      have r_5_ : (gi s_4 3 3).toInt = (gi S_ 3 3).toInt := by rw [e_s_4]
      have b_6_ : 0 ≤ (gi s_4 3 3).toInt ∧ (gi s_4 3 3).toInt ≤ 301 := g_s_4.1.1 3 3
      have r_7_ : (gi s_6 3 3).toInt = (gi s_4 3 3).toInt := by rw [e_s_6]
      have b_8_ : 0 ≤ (gi s_6 3 3).toInt ∧ (gi s_6 3 3).toInt ≤ 301 := g_s_6.1.1 3 3
      refine wp_chk_i (inb_ti (by first | omega | (simp (disch := omega) only [ti_add, ti_sub, b2t_, b2f_, li_0, li_1, li_3, li_17, li_300, li_m1]; omega)) (by first | omega | (simp (disch := omega) only [ti_add, ti_sub, b2t_, b2f_, li_0, li_1, li_3, li_17, li_300, li_m1]; omega))) ?_
      refine wp_bnd_i (tJ0_charAt_5068e a1 x2_3 s_6 g_s_6.1 (by first | omega | (simp (disch := omega) only [ti_add, ti_sub, b2t_, b2f_, li_0, li_1, li_3, li_17, li_300, li_m1]; omega)) ⟨by omega, by omega⟩) (fun r_8 s_9 p_s_9 => ?_)
      have e_s_9 : s_9 = s_6 := p_s_9
      have g_s_9 : R9_ S_ s_9 := by rw [e_s_9]; exact g_s_6
      refine wp_if_i (fun h_9_ => ?_) (fun h_9_ => ?_)
      · skip
        have j_10_ := eq_ti h_9_
        try simp (disch := omega) only [ti_add, ti_sub, b2t_, b2f_, li_0, li_1, li_3, li_17, li_300, li_m1] at j_10_
        apply wp_bv_i
        intro v_10 e_v_10
        have j_11_ := eq_ti e_v_10
        try simp (disch := omega) only [ti_add, ti_sub, b2t_, b2f_, li_0, li_1, li_3, li_17, li_300, li_m1] at j_11_
        have r_12_ : (gi s_9 3 3).toInt = (gi s_6 3 3).toInt := by rw [e_s_9]
        have b_13_ : 0 ≤ (gi s_9 3 3).toInt ∧ (gi s_9 3 3).toInt ≤ 301 := g_s_9.1.1 3 3
        exact hrec v_10 s_9 (by rw [e_s_9, e_s_6, e_s_4]) (by first | omega | (simp (disch := omega) only [ti_add, ti_sub, b2t_, b2f_, li_0, li_1, li_3, li_17, li_300, li_m1]; omega)) (by first | omega | (simp (disch := omega) only [ti_add, ti_sub, b2t_, b2f_, li_0, li_1, li_3, li_17, li_300, li_m1]; omega)) (by first | omega | (simp (disch := omega) only [ti_add, ti_sub, b2t_, b2f_, li_0, li_1, li_3, li_17, li_300, li_m1]; omega))
      · skip
        have j_14_ := ne_ti h_9_
        try simp (disch := omega) only [ti_add, ti_sub, b2t_, b2f_, li_0, li_1, li_3, li_17, li_300, li_m1] at j_14_
        exact wp_some_i (hsome (false, s_9) (by rw [e_s_9, e_s_6, e_s_4]))
set_option maxHeartbeats 1000000 in
set_option maxRecDepth 20000 in
theorem tX7_reads (a1 : Nat) (s0 : Sg) (h0 : I9_ s0) (hq : 100 ≤ a1 ∧ a1 < 120) (hn : (gi s0 3 4).toInt ≤ 300) : wp_ (fX7_reads a1 s0) (fun q => q.2 = s0) := by
  have g_s0 : R9_ s0 s0 := R9_.rf h0
  have hFU_ : FU = 1000000000 := rfl
  generalize hQ : (fun q : (Bool × Sg) => q.2 = s0) = Q
  unfold fX7_reads
  have L0_ := li_0
  have L1_ := li_1
  have L3_ := li_3
  have L4_ := li_4
  have M1_ := li_m1
  refine wp_bnd_i (tJ0_length_8abf5 a1 s0 g_s0.1 (by first | omega | (simp (disch := omega) only [ti_add, ti_sub, b2t_, b2f_, li_0, li_1, li_3, li_4, li_m1]; omega))) (fun r_1 s_2 p_s_2 => ?_)
  have e_s_2 : s_2 = s0 := p_s_2.1
  have g_s_2 : R9_ s0 s_2 := by rw [e_s_2]; exact g_s0
  have f_s_2 := p_s_2.2
  try dsimp only at f_s_2
  try simp (disch := omega) only [ti_add, ti_sub, b2t_, b2f_, li_0, li_1, li_3, li_4, li_m1] at f_s_2
  refine wp_if_i (fun h_1_ => ?_) (fun h_1_ => ?_)
  · skip
    have b_2_ : 0 ≤ (gi s0 3 4).toInt ∧ (gi s0 3 4).toInt ≤ 301 := g_s0.1.1 3 4
    have b_3_ : 0 ≤ (gi s0 3 3).toInt ∧ (gi s0 3 3).toInt ≤ 301 := g_s0.1.1 3 3
    have j_4_ := eq_ti h_1_
    try simp (disch := omega) only [ti_add, ti_sub, b2t_, b2f_, li_0, li_1, li_3, li_4, li_m1] at j_4_
    have r_5_ : (gi s_2 3 3).toInt = (gi s0 3 3).toInt := by rw [e_s_2]
    have b_6_ : 0 ≤ (gi s_2 3 3).toInt ∧ (gi s_2 3 3).toInt ≤ 301 := g_s_2.1.1 3 3
    exact lX7_reads_20_b s0 h0 a1  (fun q hq => by subst hQ; exact hq) (by first | omega | (simp (disch := omega) only [ti_add, ti_sub, b2t_, b2f_, li_0, li_1, li_3, li_4, li_m1]; omega)) FU 0 s_2 (by rw [e_s_2]) (by first | omega | (simp (disch := omega) only [ti_add, ti_sub, b2t_, b2f_, li_0, li_1, li_3, li_4, li_m1]; omega)) (by first | omega | (simp (disch := omega) only [ti_add, ti_sub, b2t_, b2f_, li_0, li_1, li_3, li_4, li_m1]; omega)) (by first | omega | (simp (disch := omega) only [ti_add, ti_sub, b2t_, b2f_, li_0, li_1, li_3, li_4, li_m1]; omega))
  · skip
    have b_7_ : 0 ≤ (gi s0 3 4).toInt ∧ (gi s0 3 4).toInt ≤ 301 := g_s0.1.1 3 4
    have b_8_ : 0 ≤ (gi s0 3 3).toInt ∧ (gi s0 3 3).toInt ≤ 301 := g_s0.1.1 3 3
    have j_9_ := ne_ti h_1_
    try simp (disch := omega) only [ti_add, ti_sub, b2t_, b2f_, li_0, li_1, li_3, li_4, li_m1] at j_9_
    exact wp_some_i (by subst hQ; exact (by rw [e_s_2]))
set_option maxHeartbeats 1000000 in
set_option maxRecDepth 20000 in
theorem tX7_wordToken (s0 : Sg) (h0 : I9_ s0) (hn : (gi s0 3 4).toInt ≤ 300) : wp_ (fX7_wordToken s0) (fun q => q.2 = s0 ∧ (0 ≤ q.1.toInt ∧ q.1.toInt ≤ 36)) := by
  have g_s0 : R9_ s0 s0 := R9_.rf h0
  have hFU_ : FU = 1000000000 := rfl
  generalize hQ : (fun q : (Int32 × Sg) => q.2 = s0 ∧ (0 ≤ q.1.toInt ∧ q.1.toInt ≤ 36)) = Q
  unfold fX7_wordToken
  have L0_ := li_0
  have L1_ := li_1
  have L2_ := li_2
  have L3_ := li_3
  have L18_ := li_18
  have L19_ := li_19
  have L20_ := li_20
  have L21_ := li_21
  have L22_ := li_22
  have L23_ := li_23
  have L25_ := li_25
  have L26_ := li_26
  have L27_ := li_27
  have L28_ := li_28
  have L29_ := li_29
  have L30_ := li_30
  have L31_ := li_31
  have L32_ := li_32
  have L33_ := li_33
  have L34_ := li_34
  have L35_ := li_35
  have L36_ := li_36
  have L100_ := li_100
  have L101_ := li_101
  have L102_ := li_102
  have L103_ := li_103
  have L104_ := li_104
  have L105_ := li_105
  have L106_ := li_106
  have L107_ := li_107
  have L108_ := li_108
  have L109_ := li_109
  have L110_ := li_110
  have L111_ := li_111
  have L112_ := li_112
  have L113_ := li_113
  have L114_ := li_114
  have L115_ := li_115
  have L116_ := li_116
  have L117_ := li_117
  have L118_ := li_118
  have L119_ := li_119
  have M1_ := li_m1
  have b_1_ : 0 ≤ (gi s0 3 4).toInt ∧ (gi s0 3 4).toInt ≤ 301 := g_s0.1.1 3 4
  refine wp_bnd_i (tX7_reads 100 s0 g_s0.1 (by first | omega | (simp (disch := omega) only [ti_add, ti_sub, b2t_, b2f_, li_0, li_1, li_2, li_3, li_18, li_19, li_20, li_21, li_22, li_23, li_25, li_26, li_27, li_28, li_29, li_30, li_31, li_32, li_33, li_34, li_35, li_36, li_100, li_101, li_102, li_103, li_104, li_105, li_106, li_107, li_108, li_109, li_110, li_111, li_112, li_113, li_114, li_115, li_116, li_117, li_118, li_119, li_m1]; omega)) (by first | omega | (simp (disch := omega) only [ti_add, ti_sub, b2t_, b2f_, li_0, li_1, li_2, li_3, li_18, li_19, li_20, li_21, li_22, li_23, li_25, li_26, li_27, li_28, li_29, li_30, li_31, li_32, li_33, li_34, li_35, li_36, li_100, li_101, li_102, li_103, li_104, li_105, li_106, li_107, li_108, li_109, li_110, li_111, li_112, li_113, li_114, li_115, li_116, li_117, li_118, li_119, li_m1]; omega))) (fun r_1 s_2 p_s_2 => ?_)
  have e_s_2 : s_2 = s0 := p_s_2
  have g_s_2 : R9_ s0 s_2 := by rw [e_s_2]; exact g_s0
  refine wp_if_i (fun h_2_ => ?_) (fun h_2_ => ?_)
  · skip
    have b_3_ := b2i_bd r_1
    have j_4_ := eq_ti h_2_
    try simp (disch := omega) only [ti_add, ti_sub, b2t_, b2f_, li_0, li_1, li_2, li_3, li_18, li_19, li_20, li_21, li_22, li_23, li_25, li_26, li_27, li_28, li_29, li_30, li_31, li_32, li_33, li_34, li_35, li_36, li_100, li_101, li_102, li_103, li_104, li_105, li_106, li_107, li_108, li_109, li_110, li_111, li_112, li_113, li_114, li_115, li_116, li_117, li_118, li_119, li_m1] at j_4_
    have r_5_ : (gi s_2 3 4).toInt = (gi s0 3 4).toInt := by rw [e_s_2]
    have b_6_ : 0 ≤ (gi s_2 3 4).toInt ∧ (gi s_2 3 4).toInt ≤ 301 := g_s_2.1.1 3 4
    refine wp_bnd_i (tX7_reads 101 s_2 g_s_2.1 (by first | omega | (simp (disch := omega) only [ti_add, ti_sub, b2t_, b2f_, li_0, li_1, li_2, li_3, li_18, li_19, li_20, li_21, li_22, li_23, li_25, li_26, li_27, li_28, li_29, li_30, li_31, li_32, li_33, li_34, li_35, li_36, li_100, li_101, li_102, li_103, li_104, li_105, li_106, li_107, li_108, li_109, li_110, li_111, li_112, li_113, li_114, li_115, li_116, li_117, li_118, li_119, li_m1]; omega)) (by first | omega | (simp (disch := omega) only [ti_add, ti_sub, b2t_, b2f_, li_0, li_1, li_2, li_3, li_18, li_19, li_20, li_21, li_22, li_23, li_25, li_26, li_27, li_28, li_29, li_30, li_31, li_32, li_33, li_34, li_35, li_36, li_100, li_101, li_102, li_103, li_104, li_105, li_106, li_107, li_108, li_109, li_110, li_111, li_112, li_113, li_114, li_115, li_116, li_117, li_118, li_119, li_m1]; omega))) (fun r_3 s_4 p_s_4 => ?_)
    have e_s_4 : s_4 = s_2 := p_s_4
    have g_s_4 : R9_ s0 s_4 := by rw [e_s_4]; exact g_s_2
    refine wp_if_i (fun h_7_ => ?_) (fun h_7_ => ?_)
    · skip
      have b_8_ := b2i_bd r_3
      have j_9_ := eq_ti h_7_
      try simp (disch := omega) only [ti_add, ti_sub, b2t_, b2f_, li_0, li_1, li_2, li_3, li_18, li_19, li_20, li_21, li_22, li_23, li_25, li_26, li_27, li_28, li_29, li_30, li_31, li_32, li_33, li_34, li_35, li_36, li_100, li_101, li_102, li_103, li_104, li_105, li_106, li_107, li_108, li_109, li_110, li_111, li_112, li_113, li_114, li_115, li_116, li_117, li_118, li_119, li_m1] at j_9_
      have r_10_ : (gi s_4 3 4).toInt = (gi s_2 3 4).toInt := by rw [e_s_4]
      have b_11_ : 0 ≤ (gi s_4 3 4).toInt ∧ (gi s_4 3 4).toInt ≤ 301 := g_s_4.1.1 3 4
      refine wp_bnd_i (tX7_reads 102 s_4 g_s_4.1 (by first | omega | (simp (disch := omega) only [ti_add, ti_sub, b2t_, b2f_, li_0, li_1, li_2, li_3, li_18, li_19, li_20, li_21, li_22, li_23, li_25, li_26, li_27, li_28, li_29, li_30, li_31, li_32, li_33, li_34, li_35, li_36, li_100, li_101, li_102, li_103, li_104, li_105, li_106, li_107, li_108, li_109, li_110, li_111, li_112, li_113, li_114, li_115, li_116, li_117, li_118, li_119, li_m1]; omega)) (by first | omega | (simp (disch := omega) only [ti_add, ti_sub, b2t_, b2f_, li_0, li_1, li_2, li_3, li_18, li_19, li_20, li_21, li_22, li_23, li_25, li_26, li_27, li_28, li_29, li_30, li_31, li_32, li_33, li_34, li_35, li_36, li_100, li_101, li_102, li_103, li_104, li_105, li_106, li_107, li_108, li_109, li_110, li_111, li_112, li_113, li_114, li_115, li_116, li_117, li_118, li_119, li_m1]; omega))) (fun r_5 s_6 p_s_6 => ?_)
      have e_s_6 : s_6 = s_4 := p_s_6
      have g_s_6 : R9_ s0 s_6 := by rw [e_s_6]; exact g_s_4
      refine wp_if_i (fun h_12_ => ?_) (fun h_12_ => ?_)
      · skip
        have b_13_ := b2i_bd r_5
        have j_14_ := eq_ti h_12_
        try simp (disch := omega) only [ti_add, ti_sub, b2t_, b2f_, li_0, li_1, li_2, li_3, li_18, li_19, li_20, li_21, li_22, li_23, li_25, li_26, li_27, li_28, li_29, li_30, li_31, li_32, li_33, li_34, li_35, li_36, li_100, li_101, li_102, li_103, li_104, li_105, li_106, li_107, li_108, li_109, li_110, li_111, li_112, li_113, li_114, li_115, li_116, li_117, li_118, li_119, li_m1] at j_14_
        have r_15_ : (gi s_6 3 4).toInt = (gi s_4 3 4).toInt := by rw [e_s_6]
        have b_16_ : 0 ≤ (gi s_6 3 4).toInt ∧ (gi s_6 3 4).toInt ≤ 301 := g_s_6.1.1 3 4
        refine wp_bnd_i (tX7_reads 103 s_6 g_s_6.1 (by first | omega | (simp (disch := omega) only [ti_add, ti_sub, b2t_, b2f_, li_0, li_1, li_2, li_3, li_18, li_19, li_20, li_21, li_22, li_23, li_25, li_26, li_27, li_28, li_29, li_30, li_31, li_32, li_33, li_34, li_35, li_36, li_100, li_101, li_102, li_103, li_104, li_105, li_106, li_107, li_108, li_109, li_110, li_111, li_112, li_113, li_114, li_115, li_116, li_117, li_118, li_119, li_m1]; omega)) (by first | omega | (simp (disch := omega) only [ti_add, ti_sub, b2t_, b2f_, li_0, li_1, li_2, li_3, li_18, li_19, li_20, li_21, li_22, li_23, li_25, li_26, li_27, li_28, li_29, li_30, li_31, li_32, li_33, li_34, li_35, li_36, li_100, li_101, li_102, li_103, li_104, li_105, li_106, li_107, li_108, li_109, li_110, li_111, li_112, li_113, li_114, li_115, li_116, li_117, li_118, li_119, li_m1]; omega))) (fun r_7 s_8 p_s_8 => ?_)
        have e_s_8 : s_8 = s_6 := p_s_8
        have g_s_8 : R9_ s0 s_8 := by rw [e_s_8]; exact g_s_6
        refine wp_if_i (fun h_17_ => ?_) (fun h_17_ => ?_)
        · skip
          have b_18_ := b2i_bd r_7
          have j_19_ := eq_ti h_17_
          try simp (disch := omega) only [ti_add, ti_sub, b2t_, b2f_, li_0, li_1, li_2, li_3, li_18, li_19, li_20, li_21, li_22, li_23, li_25, li_26, li_27, li_28, li_29, li_30, li_31, li_32, li_33, li_34, li_35, li_36, li_100, li_101, li_102, li_103, li_104, li_105, li_106, li_107, li_108, li_109, li_110, li_111, li_112, li_113, li_114, li_115, li_116, li_117, li_118, li_119, li_m1] at j_19_
          have r_20_ : (gi s_8 3 4).toInt = (gi s_6 3 4).toInt := by rw [e_s_8]
          have b_21_ : 0 ≤ (gi s_8 3 4).toInt ∧ (gi s_8 3 4).toInt ≤ 301 := g_s_8.1.1 3 4
          refine wp_bnd_i (tX7_reads 104 s_8 g_s_8.1 (by first | omega | (simp (disch := omega) only [ti_add, ti_sub, b2t_, b2f_, li_0, li_1, li_2, li_3, li_18, li_19, li_20, li_21, li_22, li_23, li_25, li_26, li_27, li_28, li_29, li_30, li_31, li_32, li_33, li_34, li_35, li_36, li_100, li_101, li_102, li_103, li_104, li_105, li_106, li_107, li_108, li_109, li_110, li_111, li_112, li_113, li_114, li_115, li_116, li_117, li_118, li_119, li_m1]; omega)) (by first | omega | (simp (disch := omega) only [ti_add, ti_sub, b2t_, b2f_, li_0, li_1, li_2, li_3, li_18, li_19, li_20, li_21, li_22, li_23, li_25, li_26, li_27, li_28, li_29, li_30, li_31, li_32, li_33, li_34, li_35, li_36, li_100, li_101, li_102, li_103, li_104, li_105, li_106, li_107, li_108, li_109, li_110, li_111, li_112, li_113, li_114, li_115, li_116, li_117, li_118, li_119, li_m1]; omega))) (fun r_9 s_10 p_s_10 => ?_)
          have e_s_10 : s_10 = s_8 := p_s_10
          have g_s_10 : R9_ s0 s_10 := by rw [e_s_10]; exact g_s_8
          refine wp_if_i (fun h_22_ => ?_) (fun h_22_ => ?_)
          · skip
            have b_23_ := b2i_bd r_9
            have j_24_ := eq_ti h_22_
            try simp (disch := omega) only [ti_add, ti_sub, b2t_, b2f_, li_0, li_1, li_2, li_3, li_18, li_19, li_20, li_21, li_22, li_23, li_25, li_26, li_27, li_28, li_29, li_30, li_31, li_32, li_33, li_34, li_35, li_36, li_100, li_101, li_102, li_103, li_104, li_105, li_106, li_107, li_108, li_109, li_110, li_111, li_112, li_113, li_114, li_115, li_116, li_117, li_118, li_119, li_m1] at j_24_
            have r_25_ : (gi s_10 3 4).toInt = (gi s_8 3 4).toInt := by rw [e_s_10]
            have b_26_ : 0 ≤ (gi s_10 3 4).toInt ∧ (gi s_10 3 4).toInt ≤ 301 := g_s_10.1.1 3 4
            refine wp_bnd_i (tX7_reads 105 s_10 g_s_10.1 (by first | omega | (simp (disch := omega) only [ti_add, ti_sub, b2t_, b2f_, li_0, li_1, li_2, li_3, li_18, li_19, li_20, li_21, li_22, li_23, li_25, li_26, li_27, li_28, li_29, li_30, li_31, li_32, li_33, li_34, li_35, li_36, li_100, li_101, li_102, li_103, li_104, li_105, li_106, li_107, li_108, li_109, li_110, li_111, li_112, li_113, li_114, li_115, li_116, li_117, li_118, li_119, li_m1]; omega)) (by first | omega | (simp (disch := omega) only [ti_add, ti_sub, b2t_, b2f_, li_0, li_1, li_2, li_3, li_18, li_19, li_20, li_21, li_22, li_23, li_25, li_26, li_27, li_28, li_29, li_30, li_31, li_32, li_33, li_34, li_35, li_36, li_100, li_101, li_102, li_103, li_104, li_105, li_106, li_107, li_108, li_109, li_110, li_111, li_112, li_113, li_114, li_115, li_116, li_117, li_118, li_119, li_m1]; omega))) (fun r_11 s_12 p_s_12 => ?_)
            have e_s_12 : s_12 = s_10 := p_s_12
            have g_s_12 : R9_ s0 s_12 := by rw [e_s_12]; exact g_s_10
            refine wp_if_i (fun h_27_ => ?_) (fun h_27_ => ?_)
            · skip
              have b_28_ := b2i_bd r_11
              have j_29_ := eq_ti h_27_
              try simp (disch := omega) only [ti_add, ti_sub, b2t_, b2f_, li_0, li_1, li_2, li_3, li_18, li_19, li_20, li_21, li_22, li_23, li_25, li_26, li_27, li_28, li_29, li_30, li_31, li_32, li_33, li_34, li_35, li_36, li_100, li_101, li_102, li_103, li_104, li_105, li_106, li_107, li_108, li_109, li_110, li_111, li_112, li_113, li_114, li_115, li_116, li_117, li_118, li_119, li_m1] at j_29_
              have r_30_ : (gi s_12 3 4).toInt = (gi s_10 3 4).toInt := by rw [e_s_12]
              have b_31_ : 0 ≤ (gi s_12 3 4).toInt ∧ (gi s_12 3 4).toInt ≤ 301 := g_s_12.1.1 3 4
              refine wp_bnd_i (tX7_reads 106 s_12 g_s_12.1 (by first | omega | (simp (disch := omega) only [ti_add, ti_sub, b2t_, b2f_, li_0, li_1, li_2, li_3, li_18, li_19, li_20, li_21, li_22, li_23, li_25, li_26, li_27, li_28, li_29, li_30, li_31, li_32, li_33, li_34, li_35, li_36, li_100, li_101, li_102, li_103, li_104, li_105, li_106, li_107, li_108, li_109, li_110, li_111, li_112, li_113, li_114, li_115, li_116, li_117, li_118, li_119, li_m1]; omega)) (by first | omega | (simp (disch := omega) only [ti_add, ti_sub, b2t_, b2f_, li_0, li_1, li_2, li_3, li_18, li_19, li_20, li_21, li_22, li_23, li_25, li_26, li_27, li_28, li_29, li_30, li_31, li_32, li_33, li_34, li_35, li_36, li_100, li_101, li_102, li_103, li_104, li_105, li_106, li_107, li_108, li_109, li_110, li_111, li_112, li_113, li_114, li_115, li_116, li_117, li_118, li_119, li_m1]; omega))) (fun r_13 s_14 p_s_14 => ?_)
              have e_s_14 : s_14 = s_12 := p_s_14
              have g_s_14 : R9_ s0 s_14 := by rw [e_s_14]; exact g_s_12
              refine wp_if_i (fun h_32_ => ?_) (fun h_32_ => ?_)
              · skip
                have b_33_ := b2i_bd r_13
                have j_34_ := eq_ti h_32_
                try simp (disch := omega) only [ti_add, ti_sub, b2t_, b2f_, li_0, li_1, li_2, li_3, li_18, li_19, li_20, li_21, li_22, li_23, li_25, li_26, li_27, li_28, li_29, li_30, li_31, li_32, li_33, li_34, li_35, li_36, li_100, li_101, li_102, li_103, li_104, li_105, li_106, li_107, li_108, li_109, li_110, li_111, li_112, li_113, li_114, li_115, li_116, li_117, li_118, li_119, li_m1] at j_34_
                have r_35_ : (gi s_14 3 4).toInt = (gi s_12 3 4).toInt := by rw [e_s_14]
                have b_36_ : 0 ≤ (gi s_14 3 4).toInt ∧ (gi s_14 3 4).toInt ≤ 301 := g_s_14.1.1 3 4
                refine wp_bnd_i (tX7_reads 107 s_14 g_s_14.1 (by first | omega | (simp (disch := omega) only [ti_add, ti_sub, b2t_, b2f_, li_0, li_1, li_2, li_3, li_18, li_19, li_20, li_21, li_22, li_23, li_25, li_26, li_27, li_28, li_29, li_30, li_31, li_32, li_33, li_34, li_35, li_36, li_100, li_101, li_102, li_103, li_104, li_105, li_106, li_107, li_108, li_109, li_110, li_111, li_112, li_113, li_114, li_115, li_116, li_117, li_118, li_119, li_m1]; omega)) (by first | omega | (simp (disch := omega) only [ti_add, ti_sub, b2t_, b2f_, li_0, li_1, li_2, li_3, li_18, li_19, li_20, li_21, li_22, li_23, li_25, li_26, li_27, li_28, li_29, li_30, li_31, li_32, li_33, li_34, li_35, li_36, li_100, li_101, li_102, li_103, li_104, li_105, li_106, li_107, li_108, li_109, li_110, li_111, li_112, li_113, li_114, li_115, li_116, li_117, li_118, li_119, li_m1]; omega))) (fun r_15 s_16 p_s_16 => ?_)
                have e_s_16 : s_16 = s_14 := p_s_16
                have g_s_16 : R9_ s0 s_16 := by rw [e_s_16]; exact g_s_14
                refine wp_if_i (fun h_37_ => ?_) (fun h_37_ => ?_)
                · skip
                  have b_38_ := b2i_bd r_15
                  have j_39_ := eq_ti h_37_
                  try simp (disch := omega) only [ti_add, ti_sub, b2t_, b2f_, li_0, li_1, li_2, li_3, li_18, li_19, li_20, li_21, li_22, li_23, li_25, li_26, li_27, li_28, li_29, li_30, li_31, li_32, li_33, li_34, li_35, li_36, li_100, li_101, li_102, li_103, li_104, li_105, li_106, li_107, li_108, li_109, li_110, li_111, li_112, li_113, li_114, li_115, li_116, li_117, li_118, li_119, li_m1] at j_39_
                  have r_40_ : (gi s_16 3 4).toInt = (gi s_14 3 4).toInt := by rw [e_s_16]
                  have b_41_ : 0 ≤ (gi s_16 3 4).toInt ∧ (gi s_16 3 4).toInt ≤ 301 := g_s_16.1.1 3 4
                  refine wp_bnd_i (tX7_reads 108 s_16 g_s_16.1 (by first | omega | (simp (disch := omega) only [ti_add, ti_sub, b2t_, b2f_, li_0, li_1, li_2, li_3, li_18, li_19, li_20, li_21, li_22, li_23, li_25, li_26, li_27, li_28, li_29, li_30, li_31, li_32, li_33, li_34, li_35, li_36, li_100, li_101, li_102, li_103, li_104, li_105, li_106, li_107, li_108, li_109, li_110, li_111, li_112, li_113, li_114, li_115, li_116, li_117, li_118, li_119, li_m1]; omega)) (by first | omega | (simp (disch := omega) only [ti_add, ti_sub, b2t_, b2f_, li_0, li_1, li_2, li_3, li_18, li_19, li_20, li_21, li_22, li_23, li_25, li_26, li_27, li_28, li_29, li_30, li_31, li_32, li_33, li_34, li_35, li_36, li_100, li_101, li_102, li_103, li_104, li_105, li_106, li_107, li_108, li_109, li_110, li_111, li_112, li_113, li_114, li_115, li_116, li_117, li_118, li_119, li_m1]; omega))) (fun r_17 s_18 p_s_18 => ?_)
                  have e_s_18 : s_18 = s_16 := p_s_18
                  have g_s_18 : R9_ s0 s_18 := by rw [e_s_18]; exact g_s_16
                  refine wp_if_i (fun h_42_ => ?_) (fun h_42_ => ?_)
                  · skip
                    have b_43_ := b2i_bd r_17
                    have j_44_ := eq_ti h_42_
                    try simp (disch := omega) only [ti_add, ti_sub, b2t_, b2f_, li_0, li_1, li_2, li_3, li_18, li_19, li_20, li_21, li_22, li_23, li_25, li_26, li_27, li_28, li_29, li_30, li_31, li_32, li_33, li_34, li_35, li_36, li_100, li_101, li_102, li_103, li_104, li_105, li_106, li_107, li_108, li_109, li_110, li_111, li_112, li_113, li_114, li_115, li_116, li_117, li_118, li_119, li_m1] at j_44_
                    have r_45_ : (gi s_18 3 4).toInt = (gi s_16 3 4).toInt := by rw [e_s_18]
                    have b_46_ : 0 ≤ (gi s_18 3 4).toInt ∧ (gi s_18 3 4).toInt ≤ 301 := g_s_18.1.1 3 4
                    refine wp_bnd_i (tX7_reads 109 s_18 g_s_18.1 (by first | omega | (simp (disch := omega) only [ti_add, ti_sub, b2t_, b2f_, li_0, li_1, li_2, li_3, li_18, li_19, li_20, li_21, li_22, li_23, li_25, li_26, li_27, li_28, li_29, li_30, li_31, li_32, li_33, li_34, li_35, li_36, li_100, li_101, li_102, li_103, li_104, li_105, li_106, li_107, li_108, li_109, li_110, li_111, li_112, li_113, li_114, li_115, li_116, li_117, li_118, li_119, li_m1]; omega)) (by first | omega | (simp (disch := omega) only [ti_add, ti_sub, b2t_, b2f_, li_0, li_1, li_2, li_3, li_18, li_19, li_20, li_21, li_22, li_23, li_25, li_26, li_27, li_28, li_29, li_30, li_31, li_32, li_33, li_34, li_35, li_36, li_100, li_101, li_102, li_103, li_104, li_105, li_106, li_107, li_108, li_109, li_110, li_111, li_112, li_113, li_114, li_115, li_116, li_117, li_118, li_119, li_m1]; omega))) (fun r_19 s_20 p_s_20 => ?_)
                    have e_s_20 : s_20 = s_18 := p_s_20
                    have g_s_20 : R9_ s0 s_20 := by rw [e_s_20]; exact g_s_18
                    refine wp_if_i (fun h_47_ => ?_) (fun h_47_ => ?_)
                    · skip
                      have b_48_ := b2i_bd r_19
                      have j_49_ := eq_ti h_47_
                      try simp (disch := omega) only [ti_add, ti_sub, b2t_, b2f_, li_0, li_1, li_2, li_3, li_18, li_19, li_20, li_21, li_22, li_23, li_25, li_26, li_27, li_28, li_29, li_30, li_31, li_32, li_33, li_34, li_35, li_36, li_100, li_101, li_102, li_103, li_104, li_105, li_106, li_107, li_108, li_109, li_110, li_111, li_112, li_113, li_114, li_115, li_116, li_117, li_118, li_119, li_m1] at j_49_
                      have r_50_ : (gi s_20 3 4).toInt = (gi s_18 3 4).toInt := by rw [e_s_20]
                      have b_51_ : 0 ≤ (gi s_20 3 4).toInt ∧ (gi s_20 3 4).toInt ≤ 301 := g_s_20.1.1 3 4
                      refine wp_bnd_i (tX7_reads 110 s_20 g_s_20.1 (by first | omega | (simp (disch := omega) only [ti_add, ti_sub, b2t_, b2f_, li_0, li_1, li_2, li_3, li_18, li_19, li_20, li_21, li_22, li_23, li_25, li_26, li_27, li_28, li_29, li_30, li_31, li_32, li_33, li_34, li_35, li_36, li_100, li_101, li_102, li_103, li_104, li_105, li_106, li_107, li_108, li_109, li_110, li_111, li_112, li_113, li_114, li_115, li_116, li_117, li_118, li_119, li_m1]; omega)) (by first | omega | (simp (disch := omega) only [ti_add, ti_sub, b2t_, b2f_, li_0, li_1, li_2, li_3, li_18, li_19, li_20, li_21, li_22, li_23, li_25, li_26, li_27, li_28, li_29, li_30, li_31, li_32, li_33, li_34, li_35, li_36, li_100, li_101, li_102, li_103, li_104, li_105, li_106, li_107, li_108, li_109, li_110, li_111, li_112, li_113, li_114, li_115, li_116, li_117, li_118, li_119, li_m1]; omega))) (fun r_21 s_22 p_s_22 => ?_)
                      have e_s_22 : s_22 = s_20 := p_s_22
                      have g_s_22 : R9_ s0 s_22 := by rw [e_s_22]; exact g_s_20
                      refine wp_if_i (fun h_52_ => ?_) (fun h_52_ => ?_)
                      · skip
                        have b_53_ := b2i_bd r_21
                        have j_54_ := eq_ti h_52_
                        try simp (disch := omega) only [ti_add, ti_sub, b2t_, b2f_, li_0, li_1, li_2, li_3, li_18, li_19, li_20, li_21, li_22, li_23, li_25, li_26, li_27, li_28, li_29, li_30, li_31, li_32, li_33, li_34, li_35, li_36, li_100, li_101, li_102, li_103, li_104, li_105, li_106, li_107, li_108, li_109, li_110, li_111, li_112, li_113, li_114, li_115, li_116, li_117, li_118, li_119, li_m1] at j_54_
                        have r_55_ : (gi s_22 3 4).toInt = (gi s_20 3 4).toInt := by rw [e_s_22]
                        have b_56_ : 0 ≤ (gi s_22 3 4).toInt ∧ (gi s_22 3 4).toInt ≤ 301 := g_s_22.1.1 3 4
                        refine wp_bnd_i (tX7_reads 111 s_22 g_s_22.1 (by first | omega | (simp (disch := omega) only [ti_add, ti_sub, b2t_, b2f_, li_0, li_1, li_2, li_3, li_18, li_19, li_20, li_21, li_22, li_23, li_25, li_26, li_27, li_28, li_29, li_30, li_31, li_32, li_33, li_34, li_35, li_36, li_100, li_101, li_102, li_103, li_104, li_105, li_106, li_107, li_108, li_109, li_110, li_111, li_112, li_113, li_114, li_115, li_116, li_117, li_118, li_119, li_m1]; omega)) (by first | omega | (simp (disch := omega) only [ti_add, ti_sub, b2t_, b2f_, li_0, li_1, li_2, li_3, li_18, li_19, li_20, li_21, li_22, li_23, li_25, li_26, li_27, li_28, li_29, li_30, li_31, li_32, li_33, li_34, li_35, li_36, li_100, li_101, li_102, li_103, li_104, li_105, li_106, li_107, li_108, li_109, li_110, li_111, li_112, li_113, li_114, li_115, li_116, li_117, li_118, li_119, li_m1]; omega))) (fun r_23 s_24 p_s_24 => ?_)
                        have e_s_24 : s_24 = s_22 := p_s_24
                        have g_s_24 : R9_ s0 s_24 := by rw [e_s_24]; exact g_s_22
                        refine wp_if_i (fun h_57_ => ?_) (fun h_57_ => ?_)
                        · skip
                          have b_58_ := b2i_bd r_23
                          have j_59_ := eq_ti h_57_
                          try simp (disch := omega) only [ti_add, ti_sub, b2t_, b2f_, li_0, li_1, li_2, li_3, li_18, li_19, li_20, li_21, li_22, li_23, li_25, li_26, li_27, li_28, li_29, li_30, li_31, li_32, li_33, li_34, li_35, li_36, li_100, li_101, li_102, li_103, li_104, li_105, li_106, li_107, li_108, li_109, li_110, li_111, li_112, li_113, li_114, li_115, li_116, li_117, li_118, li_119, li_m1] at j_59_
                          have r_60_ : (gi s_24 3 4).toInt = (gi s_22 3 4).toInt := by rw [e_s_24]
                          have b_61_ : 0 ≤ (gi s_24 3 4).toInt ∧ (gi s_24 3 4).toInt ≤ 301 := g_s_24.1.1 3 4
                          refine wp_bnd_i (tX7_reads 112 s_24 g_s_24.1 (by first | omega | (simp (disch := omega) only [ti_add, ti_sub, b2t_, b2f_, li_0, li_1, li_2, li_3, li_18, li_19, li_20, li_21, li_22, li_23, li_25, li_26, li_27, li_28, li_29, li_30, li_31, li_32, li_33, li_34, li_35, li_36, li_100, li_101, li_102, li_103, li_104, li_105, li_106, li_107, li_108, li_109, li_110, li_111, li_112, li_113, li_114, li_115, li_116, li_117, li_118, li_119, li_m1]; omega)) (by first | omega | (simp (disch := omega) only [ti_add, ti_sub, b2t_, b2f_, li_0, li_1, li_2, li_3, li_18, li_19, li_20, li_21, li_22, li_23, li_25, li_26, li_27, li_28, li_29, li_30, li_31, li_32, li_33, li_34, li_35, li_36, li_100, li_101, li_102, li_103, li_104, li_105, li_106, li_107, li_108, li_109, li_110, li_111, li_112, li_113, li_114, li_115, li_116, li_117, li_118, li_119, li_m1]; omega))) (fun r_25 s_26 p_s_26 => ?_)
                          have e_s_26 : s_26 = s_24 := p_s_26
                          have g_s_26 : R9_ s0 s_26 := by rw [e_s_26]; exact g_s_24
                          refine wp_if_i (fun h_62_ => ?_) (fun h_62_ => ?_)
                          · skip
                            have b_63_ := b2i_bd r_25
                            have j_64_ := eq_ti h_62_
                            try simp (disch := omega) only [ti_add, ti_sub, b2t_, b2f_, li_0, li_1, li_2, li_3, li_18, li_19, li_20, li_21, li_22, li_23, li_25, li_26, li_27, li_28, li_29, li_30, li_31, li_32, li_33, li_34, li_35, li_36, li_100, li_101, li_102, li_103, li_104, li_105, li_106, li_107, li_108, li_109, li_110, li_111, li_112, li_113, li_114, li_115, li_116, li_117, li_118, li_119, li_m1] at j_64_
                            have r_65_ : (gi s_26 3 4).toInt = (gi s_24 3 4).toInt := by rw [e_s_26]
                            have b_66_ : 0 ≤ (gi s_26 3 4).toInt ∧ (gi s_26 3 4).toInt ≤ 301 := g_s_26.1.1 3 4
                            refine wp_bnd_i (tX7_reads 113 s_26 g_s_26.1 (by first | omega | (simp (disch := omega) only [ti_add, ti_sub, b2t_, b2f_, li_0, li_1, li_2, li_3, li_18, li_19, li_20, li_21, li_22, li_23, li_25, li_26, li_27, li_28, li_29, li_30, li_31, li_32, li_33, li_34, li_35, li_36, li_100, li_101, li_102, li_103, li_104, li_105, li_106, li_107, li_108, li_109, li_110, li_111, li_112, li_113, li_114, li_115, li_116, li_117, li_118, li_119, li_m1]; omega)) (by first | omega | (simp (disch := omega) only [ti_add, ti_sub, b2t_, b2f_, li_0, li_1, li_2, li_3, li_18, li_19, li_20, li_21, li_22, li_23, li_25, li_26, li_27, li_28, li_29, li_30, li_31, li_32, li_33, li_34, li_35, li_36, li_100, li_101, li_102, li_103, li_104, li_105, li_106, li_107, li_108, li_109, li_110, li_111, li_112, li_113, li_114, li_115, li_116, li_117, li_118, li_119, li_m1]; omega))) (fun r_27 s_28 p_s_28 => ?_)
                            have e_s_28 : s_28 = s_26 := p_s_28
                            have g_s_28 : R9_ s0 s_28 := by rw [e_s_28]; exact g_s_26
                            refine wp_if_i (fun h_67_ => ?_) (fun h_67_ => ?_)
                            · skip
                              have b_68_ := b2i_bd r_27
                              have j_69_ := eq_ti h_67_
                              try simp (disch := omega) only [ti_add, ti_sub, b2t_, b2f_, li_0, li_1, li_2, li_3, li_18, li_19, li_20, li_21, li_22, li_23, li_25, li_26, li_27, li_28, li_29, li_30, li_31, li_32, li_33, li_34, li_35, li_36, li_100, li_101, li_102, li_103, li_104, li_105, li_106, li_107, li_108, li_109, li_110, li_111, li_112, li_113, li_114, li_115, li_116, li_117, li_118, li_119, li_m1] at j_69_
                              have r_70_ : (gi s_28 3 4).toInt = (gi s_26 3 4).toInt := by rw [e_s_28]
                              have b_71_ : 0 ≤ (gi s_28 3 4).toInt ∧ (gi s_28 3 4).toInt ≤ 301 := g_s_28.1.1 3 4
                              refine wp_bnd_i (tX7_reads 114 s_28 g_s_28.1 (by first | omega | (simp (disch := omega) only [ti_add, ti_sub, b2t_, b2f_, li_0, li_1, li_2, li_3, li_18, li_19, li_20, li_21, li_22, li_23, li_25, li_26, li_27, li_28, li_29, li_30, li_31, li_32, li_33, li_34, li_35, li_36, li_100, li_101, li_102, li_103, li_104, li_105, li_106, li_107, li_108, li_109, li_110, li_111, li_112, li_113, li_114, li_115, li_116, li_117, li_118, li_119, li_m1]; omega)) (by first | omega | (simp (disch := omega) only [ti_add, ti_sub, b2t_, b2f_, li_0, li_1, li_2, li_3, li_18, li_19, li_20, li_21, li_22, li_23, li_25, li_26, li_27, li_28, li_29, li_30, li_31, li_32, li_33, li_34, li_35, li_36, li_100, li_101, li_102, li_103, li_104, li_105, li_106, li_107, li_108, li_109, li_110, li_111, li_112, li_113, li_114, li_115, li_116, li_117, li_118, li_119, li_m1]; omega))) (fun r_29 s_30 p_s_30 => ?_)
                              have e_s_30 : s_30 = s_28 := p_s_30
                              have g_s_30 : R9_ s0 s_30 := by rw [e_s_30]; exact g_s_28
                              refine wp_if_i (fun h_72_ => ?_) (fun h_72_ => ?_)
                              · skip
                                have b_73_ := b2i_bd r_29
                                have j_74_ := eq_ti h_72_
                                try simp (disch := omega) only [ti_add, ti_sub, b2t_, b2f_, li_0, li_1, li_2, li_3, li_18, li_19, li_20, li_21, li_22, li_23, li_25, li_26, li_27, li_28, li_29, li_30, li_31, li_32, li_33, li_34, li_35, li_36, li_100, li_101, li_102, li_103, li_104, li_105, li_106, li_107, li_108, li_109, li_110, li_111, li_112, li_113, li_114, li_115, li_116, li_117, li_118, li_119, li_m1] at j_74_
                                have r_75_ : (gi s_30 3 4).toInt = (gi s_28 3 4).toInt := by rw [e_s_30]
                                have b_76_ : 0 ≤ (gi s_30 3 4).toInt ∧ (gi s_30 3 4).toInt ≤ 301 := g_s_30.1.1 3 4
                                refine wp_bnd_i (tX7_reads 115 s_30 g_s_30.1 (by first | omega | (simp (disch := omega) only [ti_add, ti_sub, b2t_, b2f_, li_0, li_1, li_2, li_3, li_18, li_19, li_20, li_21, li_22, li_23, li_25, li_26, li_27, li_28, li_29, li_30, li_31, li_32, li_33, li_34, li_35, li_36, li_100, li_101, li_102, li_103, li_104, li_105, li_106, li_107, li_108, li_109, li_110, li_111, li_112, li_113, li_114, li_115, li_116, li_117, li_118, li_119, li_m1]; omega)) (by first | omega | (simp (disch := omega) only [ti_add, ti_sub, b2t_, b2f_, li_0, li_1, li_2, li_3, li_18, li_19, li_20, li_21, li_22, li_23, li_25, li_26, li_27, li_28, li_29, li_30, li_31, li_32, li_33, li_34, li_35, li_36, li_100, li_101, li_102, li_103, li_104, li_105, li_106, li_107, li_108, li_109, li_110, li_111, li_112, li_113, li_114, li_115, li_116, li_117, li_118, li_119, li_m1]; omega))) (fun r_31 s_32 p_s_32 => ?_)
                                have e_s_32 : s_32 = s_30 := p_s_32
                                have g_s_32 : R9_ s0 s_32 := by rw [e_s_32]; exact g_s_30
                                refine wp_if_i (fun h_77_ => ?_) (fun h_77_ => ?_)
                                · skip
                                  have b_78_ := b2i_bd r_31
                                  have j_79_ := eq_ti h_77_
                                  try simp (disch := omega) only [ti_add, ti_sub, b2t_, b2f_, li_0, li_1, li_2, li_3, li_18, li_19, li_20, li_21, li_22, li_23, li_25, li_26, li_27, li_28, li_29, li_30, li_31, li_32, li_33, li_34, li_35, li_36, li_100, li_101, li_102, li_103, li_104, li_105, li_106, li_107, li_108, li_109, li_110, li_111, li_112, li_113, li_114, li_115, li_116, li_117, li_118, li_119, li_m1] at j_79_
                                  have r_80_ : (gi s_32 3 4).toInt = (gi s_30 3 4).toInt := by rw [e_s_32]
                                  have b_81_ : 0 ≤ (gi s_32 3 4).toInt ∧ (gi s_32 3 4).toInt ≤ 301 := g_s_32.1.1 3 4
                                  refine wp_bnd_i (tX7_reads 116 s_32 g_s_32.1 (by first | omega | (simp (disch := omega) only [ti_add, ti_sub, b2t_, b2f_, li_0, li_1, li_2, li_3, li_18, li_19, li_20, li_21, li_22, li_23, li_25, li_26, li_27, li_28, li_29, li_30, li_31, li_32, li_33, li_34, li_35, li_36, li_100, li_101, li_102, li_103, li_104, li_105, li_106, li_107, li_108, li_109, li_110, li_111, li_112, li_113, li_114, li_115, li_116, li_117, li_118, li_119, li_m1]; omega)) (by first | omega | (simp (disch := omega) only [ti_add, ti_sub, b2t_, b2f_, li_0, li_1, li_2, li_3, li_18, li_19, li_20, li_21, li_22, li_23, li_25, li_26, li_27, li_28, li_29, li_30, li_31, li_32, li_33, li_34, li_35, li_36, li_100, li_101, li_102, li_103, li_104, li_105, li_106, li_107, li_108, li_109, li_110, li_111, li_112, li_113, li_114, li_115, li_116, li_117, li_118, li_119, li_m1]; omega))) (fun r_33 s_34 p_s_34 => ?_)
                                  have e_s_34 : s_34 = s_32 := p_s_34
                                  have g_s_34 : R9_ s0 s_34 := by rw [e_s_34]; exact g_s_32
                                  refine wp_if_i (fun h_82_ => ?_) (fun h_82_ => ?_)
                                  · skip
                                    have b_83_ := b2i_bd r_33
                                    have j_84_ := eq_ti h_82_
                                    try simp (disch := omega) only [ti_add, ti_sub, b2t_, b2f_, li_0, li_1, li_2, li_3, li_18, li_19, li_20, li_21, li_22, li_23, li_25, li_26, li_27, li_28, li_29, li_30, li_31, li_32, li_33, li_34, li_35, li_36, li_100, li_101, li_102, li_103, li_104, li_105, li_106, li_107, li_108, li_109, li_110, li_111, li_112, li_113, li_114, li_115, li_116, li_117, li_118, li_119, li_m1] at j_84_
                                    have r_85_ : (gi s_34 3 4).toInt = (gi s_32 3 4).toInt := by rw [e_s_34]
                                    have b_86_ : 0 ≤ (gi s_34 3 4).toInt ∧ (gi s_34 3 4).toInt ≤ 301 := g_s_34.1.1 3 4
                                    refine wp_bnd_i (tX7_reads 117 s_34 g_s_34.1 (by first | omega | (simp (disch := omega) only [ti_add, ti_sub, b2t_, b2f_, li_0, li_1, li_2, li_3, li_18, li_19, li_20, li_21, li_22, li_23, li_25, li_26, li_27, li_28, li_29, li_30, li_31, li_32, li_33, li_34, li_35, li_36, li_100, li_101, li_102, li_103, li_104, li_105, li_106, li_107, li_108, li_109, li_110, li_111, li_112, li_113, li_114, li_115, li_116, li_117, li_118, li_119, li_m1]; omega)) (by first | omega | (simp (disch := omega) only [ti_add, ti_sub, b2t_, b2f_, li_0, li_1, li_2, li_3, li_18, li_19, li_20, li_21, li_22, li_23, li_25, li_26, li_27, li_28, li_29, li_30, li_31, li_32, li_33, li_34, li_35, li_36, li_100, li_101, li_102, li_103, li_104, li_105, li_106, li_107, li_108, li_109, li_110, li_111, li_112, li_113, li_114, li_115, li_116, li_117, li_118, li_119, li_m1]; omega))) (fun r_35 s_36 p_s_36 => ?_)
                                    have e_s_36 : s_36 = s_34 := p_s_36
                                    have g_s_36 : R9_ s0 s_36 := by rw [e_s_36]; exact g_s_34
                                    refine wp_if_i (fun h_87_ => ?_) (fun h_87_ => ?_)
                                    · skip
                                      have b_88_ := b2i_bd r_35
                                      have j_89_ := eq_ti h_87_
                                      try simp (disch := omega) only [ti_add, ti_sub, b2t_, b2f_, li_0, li_1, li_2, li_3, li_18, li_19, li_20, li_21, li_22, li_23, li_25, li_26, li_27, li_28, li_29, li_30, li_31, li_32, li_33, li_34, li_35, li_36, li_100, li_101, li_102, li_103, li_104, li_105, li_106, li_107, li_108, li_109, li_110, li_111, li_112, li_113, li_114, li_115, li_116, li_117, li_118, li_119, li_m1] at j_89_
                                      have r_90_ : (gi s_36 3 4).toInt = (gi s_34 3 4).toInt := by rw [e_s_36]
                                      have b_91_ : 0 ≤ (gi s_36 3 4).toInt ∧ (gi s_36 3 4).toInt ≤ 301 := g_s_36.1.1 3 4
                                      refine wp_bnd_i (tX7_reads 118 s_36 g_s_36.1 (by first | omega | (simp (disch := omega) only [ti_add, ti_sub, b2t_, b2f_, li_0, li_1, li_2, li_3, li_18, li_19, li_20, li_21, li_22, li_23, li_25, li_26, li_27, li_28, li_29, li_30, li_31, li_32, li_33, li_34, li_35, li_36, li_100, li_101, li_102, li_103, li_104, li_105, li_106, li_107, li_108, li_109, li_110, li_111, li_112, li_113, li_114, li_115, li_116, li_117, li_118, li_119, li_m1]; omega)) (by first | omega | (simp (disch := omega) only [ti_add, ti_sub, b2t_, b2f_, li_0, li_1, li_2, li_3, li_18, li_19, li_20, li_21, li_22, li_23, li_25, li_26, li_27, li_28, li_29, li_30, li_31, li_32, li_33, li_34, li_35, li_36, li_100, li_101, li_102, li_103, li_104, li_105, li_106, li_107, li_108, li_109, li_110, li_111, li_112, li_113, li_114, li_115, li_116, li_117, li_118, li_119, li_m1]; omega))) (fun r_37 s_38 p_s_38 => ?_)
                                      have e_s_38 : s_38 = s_36 := p_s_38
                                      have g_s_38 : R9_ s0 s_38 := by rw [e_s_38]; exact g_s_36
                                      refine wp_if_i (fun h_92_ => ?_) (fun h_92_ => ?_)
                                      · skip
                                        have b_93_ := b2i_bd r_37
                                        have j_94_ := eq_ti h_92_
                                        try simp (disch := omega) only [ti_add, ti_sub, b2t_, b2f_, li_0, li_1, li_2, li_3, li_18, li_19, li_20, li_21, li_22, li_23, li_25, li_26, li_27, li_28, li_29, li_30, li_31, li_32, li_33, li_34, li_35, li_36, li_100, li_101, li_102, li_103, li_104, li_105, li_106, li_107, li_108, li_109, li_110, li_111, li_112, li_113, li_114, li_115, li_116, li_117, li_118, li_119, li_m1] at j_94_
                                        have r_95_ : (gi s_38 3 4).toInt = (gi s_36 3 4).toInt := by rw [e_s_38]
                                        have b_96_ : 0 ≤ (gi s_38 3 4).toInt ∧ (gi s_38 3 4).toInt ≤ 301 := g_s_38.1.1 3 4
                                        refine wp_bnd_i (tX7_reads 119 s_38 g_s_38.1 (by first | omega | (simp (disch := omega) only [ti_add, ti_sub, b2t_, b2f_, li_0, li_1, li_2, li_3, li_18, li_19, li_20, li_21, li_22, li_23, li_25, li_26, li_27, li_28, li_29, li_30, li_31, li_32, li_33, li_34, li_35, li_36, li_100, li_101, li_102, li_103, li_104, li_105, li_106, li_107, li_108, li_109, li_110, li_111, li_112, li_113, li_114, li_115, li_116, li_117, li_118, li_119, li_m1]; omega)) (by first | omega | (simp (disch := omega) only [ti_add, ti_sub, b2t_, b2f_, li_0, li_1, li_2, li_3, li_18, li_19, li_20, li_21, li_22, li_23, li_25, li_26, li_27, li_28, li_29, li_30, li_31, li_32, li_33, li_34, li_35, li_36, li_100, li_101, li_102, li_103, li_104, li_105, li_106, li_107, li_108, li_109, li_110, li_111, li_112, li_113, li_114, li_115, li_116, li_117, li_118, li_119, li_m1]; omega))) (fun r_39 s_40 p_s_40 => ?_)
                                        have e_s_40 : s_40 = s_38 := p_s_40
                                        have g_s_40 : R9_ s0 s_40 := by rw [e_s_40]; exact g_s_38
                                        refine wp_if_i (fun h_97_ => ?_) (fun h_97_ => ?_)
                                        · skip
                                          have b_98_ := b2i_bd r_39
                                          have j_99_ := eq_ti h_97_
                                          try simp (disch := omega) only [ti_add, ti_sub, b2t_, b2f_, li_0, li_1, li_2, li_3, li_18, li_19, li_20, li_21, li_22, li_23, li_25, li_26, li_27, li_28, li_29, li_30, li_31, li_32, li_33, li_34, li_35, li_36, li_100, li_101, li_102, li_103, li_104, li_105, li_106, li_107, li_108, li_109, li_110, li_111, li_112, li_113, li_114, li_115, li_116, li_117, li_118, li_119, li_m1] at j_99_
                                          exact wp_some_i (by subst hQ; exact ⟨(by rw [e_s_40, e_s_38, e_s_36, e_s_34, e_s_32, e_s_30, e_s_28, e_s_26, e_s_24, e_s_22, e_s_20, e_s_18, e_s_16, e_s_14, e_s_12, e_s_10, e_s_8, e_s_6, e_s_4, e_s_2]), ⟨by first | omega | (simp (disch := omega) only [ti_add, ti_sub, b2t_, b2f_, li_0, li_1, li_2, li_3, li_18, li_19, li_20, li_21, li_22, li_23, li_25, li_26, li_27, li_28, li_29, li_30, li_31, li_32, li_33, li_34, li_35, li_36, li_100, li_101, li_102, li_103, li_104, li_105, li_106, li_107, li_108, li_109, li_110, li_111, li_112, li_113, li_114, li_115, li_116, li_117, li_118, li_119, li_m1]; omega), by first | omega | (simp (disch := omega) only [ti_add, ti_sub, b2t_, b2f_, li_0, li_1, li_2, li_3, li_18, li_19, li_20, li_21, li_22, li_23, li_25, li_26, li_27, li_28, li_29, li_30, li_31, li_32, li_33, li_34, li_35, li_36, li_100, li_101, li_102, li_103, li_104, li_105, li_106, li_107, li_108, li_109, li_110, li_111, li_112, li_113, li_114, li_115, li_116, li_117, li_118, li_119, li_m1]; omega)⟩⟩)
                                        · skip
                                          have b_100_ := b2i_bd r_39
                                          have j_101_ := ne_ti h_97_
                                          try simp (disch := omega) only [ti_add, ti_sub, b2t_, b2f_, li_0, li_1, li_2, li_3, li_18, li_19, li_20, li_21, li_22, li_23, li_25, li_26, li_27, li_28, li_29, li_30, li_31, li_32, li_33, li_34, li_35, li_36, li_100, li_101, li_102, li_103, li_104, li_105, li_106, li_107, li_108, li_109, li_110, li_111, li_112, li_113, li_114, li_115, li_116, li_117, li_118, li_119, li_m1] at j_101_
                                          exact wp_some_i (by subst hQ; exact ⟨(by rw [e_s_40, e_s_38, e_s_36, e_s_34, e_s_32, e_s_30, e_s_28, e_s_26, e_s_24, e_s_22, e_s_20, e_s_18, e_s_16, e_s_14, e_s_12, e_s_10, e_s_8, e_s_6, e_s_4, e_s_2]), ⟨by first | omega | (simp (disch := omega) only [ti_add, ti_sub, b2t_, b2f_, li_0, li_1, li_2, li_3, li_18, li_19, li_20, li_21, li_22, li_23, li_25, li_26, li_27, li_28, li_29, li_30, li_31, li_32, li_33, li_34, li_35, li_36, li_100, li_101, li_102, li_103, li_104, li_105, li_106, li_107, li_108, li_109, li_110, li_111, li_112, li_113, li_114, li_115, li_116, li_117, li_118, li_119, li_m1]; omega), by first | omega | (simp (disch := omega) only [ti_add, ti_sub, b2t_, b2f_, li_0, li_1, li_2, li_3, li_18, li_19, li_20, li_21, li_22, li_23, li_25, li_26, li_27, li_28, li_29, li_30, li_31, li_32, li_33, li_34, li_35, li_36, li_100, li_101, li_102, li_103, li_104, li_105, li_106, li_107, li_108, li_109, li_110, li_111, li_112, li_113, li_114, li_115, li_116, li_117, li_118, li_119, li_m1]; omega)⟩⟩)
                                      · skip
                                        have b_102_ := b2i_bd r_37
                                        have j_103_ := ne_ti h_92_
                                        try simp (disch := omega) only [ti_add, ti_sub, b2t_, b2f_, li_0, li_1, li_2, li_3, li_18, li_19, li_20, li_21, li_22, li_23, li_25, li_26, li_27, li_28, li_29, li_30, li_31, li_32, li_33, li_34, li_35, li_36, li_100, li_101, li_102, li_103, li_104, li_105, li_106, li_107, li_108, li_109, li_110, li_111, li_112, li_113, li_114, li_115, li_116, li_117, li_118, li_119, li_m1] at j_103_
                                        exact wp_some_i (by subst hQ; exact ⟨(by rw [e_s_38, e_s_36, e_s_34, e_s_32, e_s_30, e_s_28, e_s_26, e_s_24, e_s_22, e_s_20, e_s_18, e_s_16, e_s_14, e_s_12, e_s_10, e_s_8, e_s_6, e_s_4, e_s_2]), ⟨by first | omega | (simp (disch := omega) only [ti_add, ti_sub, b2t_, b2f_, li_0, li_1, li_2, li_3, li_18, li_19, li_20, li_21, li_22, li_23, li_25, li_26, li_27, li_28, li_29, li_30, li_31, li_32, li_33, li_34, li_35, li_36, li_100, li_101, li_102, li_103, li_104, li_105, li_106, li_107, li_108, li_109, li_110, li_111, li_112, li_113, li_114, li_115, li_116, li_117, li_118, li_119, li_m1]; omega), by first | omega | (simp (disch := omega) only [ti_add, ti_sub, b2t_, b2f_, li_0, li_1, li_2, li_3, li_18, li_19, li_20, li_21, li_22, li_23, li_25, li_26, li_27, li_28, li_29, li_30, li_31, li_32, li_33, li_34, li_35, li_36, li_100, li_101, li_102, li_103, li_104, li_105, li_106, li_107, li_108, li_109, li_110, li_111, li_112, li_113, li_114, li_115, li_116, li_117, li_118, li_119, li_m1]; omega)⟩⟩)
                                    · skip
                                      have b_104_ := b2i_bd r_35
                                      have j_105_ := ne_ti h_87_
                                      try simp (disch := omega) only [ti_add, ti_sub, b2t_, b2f_, li_0, li_1, li_2, li_3, li_18, li_19, li_20, li_21, li_22, li_23, li_25, li_26, li_27, li_28, li_29, li_30, li_31, li_32, li_33, li_34, li_35, li_36, li_100, li_101, li_102, li_103, li_104, li_105, li_106, li_107, li_108, li_109, li_110, li_111, li_112, li_113, li_114, li_115, li_116, li_117, li_118, li_119, li_m1] at j_105_
                                      exact wp_some_i (by subst hQ; exact ⟨(by rw [e_s_36, e_s_34, e_s_32, e_s_30, e_s_28, e_s_26, e_s_24, e_s_22, e_s_20, e_s_18, e_s_16, e_s_14, e_s_12, e_s_10, e_s_8, e_s_6, e_s_4, e_s_2]), ⟨by first | omega | (simp (disch := omega) only [ti_add, ti_sub, b2t_, b2f_, li_0, li_1, li_2, li_3, li_18, li_19, li_20, li_21, li_22, li_23, li_25, li_26, li_27, li_28, li_29, li_30, li_31, li_32, li_33, li_34, li_35, li_36, li_100, li_101, li_102, li_103, li_104, li_105, li_106, li_107, li_108, li_109, li_110, li_111, li_112, li_113, li_114, li_115, li_116, li_117, li_118, li_119, li_m1]; omega), by first | omega | (simp (disch := omega) only [ti_add, ti_sub, b2t_, b2f_, li_0, li_1, li_2, li_3, li_18, li_19, li_20, li_21, li_22, li_23, li_25, li_26, li_27, li_28, li_29, li_30, li_31, li_32, li_33, li_34, li_35, li_36, li_100, li_101, li_102, li_103, li_104, li_105, li_106, li_107, li_108, li_109, li_110, li_111, li_112, li_113, li_114, li_115, li_116, li_117, li_118, li_119, li_m1]; omega)⟩⟩)
                                  · skip
                                    have b_106_ := b2i_bd r_33
                                    have j_107_ := ne_ti h_82_
                                    try simp (disch := omega) only [ti_add, ti_sub, b2t_, b2f_, li_0, li_1, li_2, li_3, li_18, li_19, li_20, li_21, li_22, li_23, li_25, li_26, li_27, li_28, li_29, li_30, li_31, li_32, li_33, li_34, li_35, li_36, li_100, li_101, li_102, li_103, li_104, li_105, li_106, li_107, li_108, li_109, li_110, li_111, li_112, li_113, li_114, li_115, li_116, li_117, li_118, li_119, li_m1] at j_107_
                                    exact wp_some_i (by subst hQ; exact ⟨(by rw [e_s_34, e_s_32, e_s_30, e_s_28, e_s_26, e_s_24, e_s_22, e_s_20, e_s_18, e_s_16, e_s_14, e_s_12, e_s_10, e_s_8, e_s_6, e_s_4, e_s_2]), ⟨by first | omega | (simp (disch := omega) only [ti_add, ti_sub, b2t_, b2f_, li_0, li_1, li_2, li_3, li_18, li_19, li_20, li_21, li_22, li_23, li_25, li_26, li_27, li_28, li_29, li_30, li_31, li_32, li_33, li_34, li_35, li_36, li_100, li_101, li_102, li_103, li_104, li_105, li_106, li_107, li_108, li_109, li_110, li_111, li_112, li_113, li_114, li_115, li_116, li_117, li_118, li_119, li_m1]; omega), by first | omega | (simp (disch := omega) only [ti_add, ti_sub, b2t_, b2f_, li_0, li_1, li_2, li_3, li_18, li_19, li_20, li_21, li_22, li_23, li_25, li_26, li_27, li_28, li_29, li_30, li_31, li_32, li_33, li_34, li_35, li_36, li_100, li_101, li_102, li_103, li_104, li_105, li_106, li_107, li_108, li_109, li_110, li_111, li_112, li_113, li_114, li_115, li_116, li_117, li_118, li_119, li_m1]; omega)⟩⟩)
                                · skip
                                  have b_108_ := b2i_bd r_31
                                  have j_109_ := ne_ti h_77_
                                  try simp (disch := omega) only [ti_add, ti_sub, b2t_, b2f_, li_0, li_1, li_2, li_3, li_18, li_19, li_20, li_21, li_22, li_23, li_25, li_26, li_27, li_28, li_29, li_30, li_31, li_32, li_33, li_34, li_35, li_36, li_100, li_101, li_102, li_103, li_104, li_105, li_106, li_107, li_108, li_109, li_110, li_111, li_112, li_113, li_114, li_115, li_116, li_117, li_118, li_119, li_m1] at j_109_
                                  exact wp_some_i (by subst hQ; exact ⟨(by rw [e_s_32, e_s_30, e_s_28, e_s_26, e_s_24, e_s_22, e_s_20, e_s_18, e_s_16, e_s_14, e_s_12, e_s_10, e_s_8, e_s_6, e_s_4, e_s_2]), ⟨by first | omega | (simp (disch := omega) only [ti_add, ti_sub, b2t_, b2f_, li_0, li_1, li_2, li_3, li_18, li_19, li_20, li_21, li_22, li_23, li_25, li_26, li_27, li_28, li_29, li_30, li_31, li_32, li_33, li_34, li_35, li_36, li_100, li_101, li_102, li_103, li_104, li_105, li_106, li_107, li_108, li_109, li_110, li_111, li_112, li_113, li_114, li_115, li_116, li_117, li_118, li_119, li_m1]; omega), by first | omega | (simp (disch := omega) only [ti_add, ti_sub, b2t_, b2f_, li_0, li_1, li_2, li_3, li_18, li_19, li_20, li_21, li_22, li_23, li_25, li_26, li_27, li_28, li_29, li_30, li_31, li_32, li_33, li_34, li_35, li_36, li_100, li_101, li_102, li_103, li_104, li_105, li_106, li_107, li_108, li_109, li_110, li_111, li_112, li_113, li_114, li_115, li_116, li_117, li_118, li_119, li_m1]; omega)⟩⟩)
                              · skip
                                have b_110_ := b2i_bd r_29
                                have j_111_ := ne_ti h_72_
                                try simp (disch := omega) only [ti_add, ti_sub, b2t_, b2f_, li_0, li_1, li_2, li_3, li_18, li_19, li_20, li_21, li_22, li_23, li_25, li_26, li_27, li_28, li_29, li_30, li_31, li_32, li_33, li_34, li_35, li_36, li_100, li_101, li_102, li_103, li_104, li_105, li_106, li_107, li_108, li_109, li_110, li_111, li_112, li_113, li_114, li_115, li_116, li_117, li_118, li_119, li_m1] at j_111_
                                exact wp_some_i (by subst hQ; exact ⟨(by rw [e_s_30, e_s_28, e_s_26, e_s_24, e_s_22, e_s_20, e_s_18, e_s_16, e_s_14, e_s_12, e_s_10, e_s_8, e_s_6, e_s_4, e_s_2]), ⟨by first | omega | (simp (disch := omega) only [ti_add, ti_sub, b2t_, b2f_, li_0, li_1, li_2, li_3, li_18, li_19, li_20, li_21, li_22, li_23, li_25, li_26, li_27, li_28, li_29, li_30, li_31, li_32, li_33, li_34, li_35, li_36, li_100, li_101, li_102, li_103, li_104, li_105, li_106, li_107, li_108, li_109, li_110, li_111, li_112, li_113, li_114, li_115, li_116, li_117, li_118, li_119, li_m1]; omega), by first | omega | (simp (disch := omega) only [ti_add, ti_sub, b2t_, b2f_, li_0, li_1, li_2, li_3, li_18, li_19, li_20, li_21, li_22, li_23, li_25, li_26, li_27, li_28, li_29, li_30, li_31, li_32, li_33, li_34, li_35, li_36, li_100, li_101, li_102, li_103, li_104, li_105, li_106, li_107, li_108, li_109, li_110, li_111, li_112, li_113, li_114, li_115, li_116, li_117, li_118, li_119, li_m1]; omega)⟩⟩)
                            · skip
                              have b_112_ := b2i_bd r_27
                              have j_113_ := ne_ti h_67_
                              try simp (disch := omega) only [ti_add, ti_sub, b2t_, b2f_, li_0, li_1, li_2, li_3, li_18, li_19, li_20, li_21, li_22, li_23, li_25, li_26, li_27, li_28, li_29, li_30, li_31, li_32, li_33, li_34, li_35, li_36, li_100, li_101, li_102, li_103, li_104, li_105, li_106, li_107, li_108, li_109, li_110, li_111, li_112, li_113, li_114, li_115, li_116, li_117, li_118, li_119, li_m1] at j_113_
                              exact wp_some_i (by subst hQ; exact ⟨(by rw [e_s_28, e_s_26, e_s_24, e_s_22, e_s_20, e_s_18, e_s_16, e_s_14, e_s_12, e_s_10, e_s_8, e_s_6, e_s_4, e_s_2]), ⟨by first | omega | (simp (disch := omega) only [ti_add, ti_sub, b2t_, b2f_, li_0, li_1, li_2, li_3, li_18, li_19, li_20, li_21, li_22, li_23, li_25, li_26, li_27, li_28, li_29, li_30, li_31, li_32, li_33, li_34, li_35, li_36, li_100, li_101, li_102, li_103, li_104, li_105, li_106, li_107, li_108, li_109, li_110, li_111, li_112, li_113, li_114, li_115, li_116, li_117, li_118, li_119, li_m1]; omega), by first | omega | (simp (disch := omega) only [ti_add, ti_sub, b2t_, b2f_, li_0, li_1, li_2, li_3, li_18, li_19, li_20, li_21, li_22, li_23, li_25, li_26, li_27, li_28, li_29, li_30, li_31, li_32, li_33, li_34, li_35, li_36, li_100, li_101, li_102, li_103, li_104, li_105, li_106, li_107, li_108, li_109, li_110, li_111, li_112, li_113, li_114, li_115, li_116, li_117, li_118, li_119, li_m1]; omega)⟩⟩)
                          · skip
                            have b_114_ := b2i_bd r_25
                            have j_115_ := ne_ti h_62_
                            try simp (disch := omega) only [ti_add, ti_sub, b2t_, b2f_, li_0, li_1, li_2, li_3, li_18, li_19, li_20, li_21, li_22, li_23, li_25, li_26, li_27, li_28, li_29, li_30, li_31, li_32, li_33, li_34, li_35, li_36, li_100, li_101, li_102, li_103, li_104, li_105, li_106, li_107, li_108, li_109, li_110, li_111, li_112, li_113, li_114, li_115, li_116, li_117, li_118, li_119, li_m1] at j_115_
                            exact wp_some_i (by subst hQ; exact ⟨(by rw [e_s_26, e_s_24, e_s_22, e_s_20, e_s_18, e_s_16, e_s_14, e_s_12, e_s_10, e_s_8, e_s_6, e_s_4, e_s_2]), ⟨by first | omega | (simp (disch := omega) only [ti_add, ti_sub, b2t_, b2f_, li_0, li_1, li_2, li_3, li_18, li_19, li_20, li_21, li_22, li_23, li_25, li_26, li_27, li_28, li_29, li_30, li_31, li_32, li_33, li_34, li_35, li_36, li_100, li_101, li_102, li_103, li_104, li_105, li_106, li_107, li_108, li_109, li_110, li_111, li_112, li_113, li_114, li_115, li_116, li_117, li_118, li_119, li_m1]; omega), by first | omega | (simp (disch := omega) only [ti_add, ti_sub, b2t_, b2f_, li_0, li_1, li_2, li_3, li_18, li_19, li_20, li_21, li_22, li_23, li_25, li_26, li_27, li_28, li_29, li_30, li_31, li_32, li_33, li_34, li_35, li_36, li_100, li_101, li_102, li_103, li_104, li_105, li_106, li_107, li_108, li_109, li_110, li_111, li_112, li_113, li_114, li_115, li_116, li_117, li_118, li_119, li_m1]; omega)⟩⟩)
                        · skip
                          have b_116_ := b2i_bd r_23
                          have j_117_ := ne_ti h_57_
                          try simp (disch := omega) only [ti_add, ti_sub, b2t_, b2f_, li_0, li_1, li_2, li_3, li_18, li_19, li_20, li_21, li_22, li_23, li_25, li_26, li_27, li_28, li_29, li_30, li_31, li_32, li_33, li_34, li_35, li_36, li_100, li_101, li_102, li_103, li_104, li_105, li_106, li_107, li_108, li_109, li_110, li_111, li_112, li_113, li_114, li_115, li_116, li_117, li_118, li_119, li_m1] at j_117_
                          exact wp_some_i (by subst hQ; exact ⟨(by rw [e_s_24, e_s_22, e_s_20, e_s_18, e_s_16, e_s_14, e_s_12, e_s_10, e_s_8, e_s_6, e_s_4, e_s_2]), ⟨by first | omega | (simp (disch := omega) only [ti_add, ti_sub, b2t_, b2f_, li_0, li_1, li_2, li_3, li_18, li_19, li_20, li_21, li_22, li_23, li_25, li_26, li_27, li_28, li_29, li_30, li_31, li_32, li_33, li_34, li_35, li_36, li_100, li_101, li_102, li_103, li_104, li_105, li_106, li_107, li_108, li_109, li_110, li_111, li_112, li_113, li_114, li_115, li_116, li_117, li_118, li_119, li_m1]; omega), by first | omega | (simp (disch := omega) only [ti_add, ti_sub, b2t_, b2f_, li_0, li_1, li_2, li_3, li_18, li_19, li_20, li_21, li_22, li_23, li_25, li_26, li_27, li_28, li_29, li_30, li_31, li_32, li_33, li_34, li_35, li_36, li_100, li_101, li_102, li_103, li_104, li_105, li_106, li_107, li_108, li_109, li_110, li_111, li_112, li_113, li_114, li_115, li_116, li_117, li_118, li_119, li_m1]; omega)⟩⟩)
                      · skip
                        have b_118_ := b2i_bd r_21
                        have j_119_ := ne_ti h_52_
                        try simp (disch := omega) only [ti_add, ti_sub, b2t_, b2f_, li_0, li_1, li_2, li_3, li_18, li_19, li_20, li_21, li_22, li_23, li_25, li_26, li_27, li_28, li_29, li_30, li_31, li_32, li_33, li_34, li_35, li_36, li_100, li_101, li_102, li_103, li_104, li_105, li_106, li_107, li_108, li_109, li_110, li_111, li_112, li_113, li_114, li_115, li_116, li_117, li_118, li_119, li_m1] at j_119_
                        exact wp_some_i (by subst hQ; exact ⟨(by rw [e_s_22, e_s_20, e_s_18, e_s_16, e_s_14, e_s_12, e_s_10, e_s_8, e_s_6, e_s_4, e_s_2]), ⟨by first | omega | (simp (disch := omega) only [ti_add, ti_sub, b2t_, b2f_, li_0, li_1, li_2, li_3, li_18, li_19, li_20, li_21, li_22, li_23, li_25, li_26, li_27, li_28, li_29, li_30, li_31, li_32, li_33, li_34, li_35, li_36, li_100, li_101, li_102, li_103, li_104, li_105, li_106, li_107, li_108, li_109, li_110, li_111, li_112, li_113, li_114, li_115, li_116, li_117, li_118, li_119, li_m1]; omega), by first | omega | (simp (disch := omega) only [ti_add, ti_sub, b2t_, b2f_, li_0, li_1, li_2, li_3, li_18, li_19, li_20, li_21, li_22, li_23, li_25, li_26, li_27, li_28, li_29, li_30, li_31, li_32, li_33, li_34, li_35, li_36, li_100, li_101, li_102, li_103, li_104, li_105, li_106, li_107, li_108, li_109, li_110, li_111, li_112, li_113, li_114, li_115, li_116, li_117, li_118, li_119, li_m1]; omega)⟩⟩)
                    · skip
                      have b_120_ := b2i_bd r_19
                      have j_121_ := ne_ti h_47_
                      try simp (disch := omega) only [ti_add, ti_sub, b2t_, b2f_, li_0, li_1, li_2, li_3, li_18, li_19, li_20, li_21, li_22, li_23, li_25, li_26, li_27, li_28, li_29, li_30, li_31, li_32, li_33, li_34, li_35, li_36, li_100, li_101, li_102, li_103, li_104, li_105, li_106, li_107, li_108, li_109, li_110, li_111, li_112, li_113, li_114, li_115, li_116, li_117, li_118, li_119, li_m1] at j_121_
                      exact wp_some_i (by subst hQ; exact ⟨(by rw [e_s_20, e_s_18, e_s_16, e_s_14, e_s_12, e_s_10, e_s_8, e_s_6, e_s_4, e_s_2]), ⟨by first | omega | (simp (disch := omega) only [ti_add, ti_sub, b2t_, b2f_, li_0, li_1, li_2, li_3, li_18, li_19, li_20, li_21, li_22, li_23, li_25, li_26, li_27, li_28, li_29, li_30, li_31, li_32, li_33, li_34, li_35, li_36, li_100, li_101, li_102, li_103, li_104, li_105, li_106, li_107, li_108, li_109, li_110, li_111, li_112, li_113, li_114, li_115, li_116, li_117, li_118, li_119, li_m1]; omega), by first | omega | (simp (disch := omega) only [ti_add, ti_sub, b2t_, b2f_, li_0, li_1, li_2, li_3, li_18, li_19, li_20, li_21, li_22, li_23, li_25, li_26, li_27, li_28, li_29, li_30, li_31, li_32, li_33, li_34, li_35, li_36, li_100, li_101, li_102, li_103, li_104, li_105, li_106, li_107, li_108, li_109, li_110, li_111, li_112, li_113, li_114, li_115, li_116, li_117, li_118, li_119, li_m1]; omega)⟩⟩)
                  · skip
                    have b_122_ := b2i_bd r_17
                    have j_123_ := ne_ti h_42_
                    try simp (disch := omega) only [ti_add, ti_sub, b2t_, b2f_, li_0, li_1, li_2, li_3, li_18, li_19, li_20, li_21, li_22, li_23, li_25, li_26, li_27, li_28, li_29, li_30, li_31, li_32, li_33, li_34, li_35, li_36, li_100, li_101, li_102, li_103, li_104, li_105, li_106, li_107, li_108, li_109, li_110, li_111, li_112, li_113, li_114, li_115, li_116, li_117, li_118, li_119, li_m1] at j_123_
                    exact wp_some_i (by subst hQ; exact ⟨(by rw [e_s_18, e_s_16, e_s_14, e_s_12, e_s_10, e_s_8, e_s_6, e_s_4, e_s_2]), ⟨by first | omega | (simp (disch := omega) only [ti_add, ti_sub, b2t_, b2f_, li_0, li_1, li_2, li_3, li_18, li_19, li_20, li_21, li_22, li_23, li_25, li_26, li_27, li_28, li_29, li_30, li_31, li_32, li_33, li_34, li_35, li_36, li_100, li_101, li_102, li_103, li_104, li_105, li_106, li_107, li_108, li_109, li_110, li_111, li_112, li_113, li_114, li_115, li_116, li_117, li_118, li_119, li_m1]; omega), by first | omega | (simp (disch := omega) only [ti_add, ti_sub, b2t_, b2f_, li_0, li_1, li_2, li_3, li_18, li_19, li_20, li_21, li_22, li_23, li_25, li_26, li_27, li_28, li_29, li_30, li_31, li_32, li_33, li_34, li_35, li_36, li_100, li_101, li_102, li_103, li_104, li_105, li_106, li_107, li_108, li_109, li_110, li_111, li_112, li_113, li_114, li_115, li_116, li_117, li_118, li_119, li_m1]; omega)⟩⟩)
                · skip
                  have b_124_ := b2i_bd r_15
                  have j_125_ := ne_ti h_37_
                  try simp (disch := omega) only [ti_add, ti_sub, b2t_, b2f_, li_0, li_1, li_2, li_3, li_18, li_19, li_20, li_21, li_22, li_23, li_25, li_26, li_27, li_28, li_29, li_30, li_31, li_32, li_33, li_34, li_35, li_36, li_100, li_101, li_102, li_103, li_104, li_105, li_106, li_107, li_108, li_109, li_110, li_111, li_112, li_113, li_114, li_115, li_116, li_117, li_118, li_119, li_m1] at j_125_
                  exact wp_some_i (by subst hQ; exact ⟨(by rw [e_s_16, e_s_14, e_s_12, e_s_10, e_s_8, e_s_6, e_s_4, e_s_2]), ⟨by first | omega | (simp (disch := omega) only [ti_add, ti_sub, b2t_, b2f_, li_0, li_1, li_2, li_3, li_18, li_19, li_20, li_21, li_22, li_23, li_25, li_26, li_27, li_28, li_29, li_30, li_31, li_32, li_33, li_34, li_35, li_36, li_100, li_101, li_102, li_103, li_104, li_105, li_106, li_107, li_108, li_109, li_110, li_111, li_112, li_113, li_114, li_115, li_116, li_117, li_118, li_119, li_m1]; omega), by first | omega | (simp (disch := omega) only [ti_add, ti_sub, b2t_, b2f_, li_0, li_1, li_2, li_3, li_18, li_19, li_20, li_21, li_22, li_23, li_25, li_26, li_27, li_28, li_29, li_30, li_31, li_32, li_33, li_34, li_35, li_36, li_100, li_101, li_102, li_103, li_104, li_105, li_106, li_107, li_108, li_109, li_110, li_111, li_112, li_113, li_114, li_115, li_116, li_117, li_118, li_119, li_m1]; omega)⟩⟩)
              · skip
                have b_126_ := b2i_bd r_13
                have j_127_ := ne_ti h_32_
                try simp (disch := omega) only [ti_add, ti_sub, b2t_, b2f_, li_0, li_1, li_2, li_3, li_18, li_19, li_20, li_21, li_22, li_23, li_25, li_26, li_27, li_28, li_29, li_30, li_31, li_32, li_33, li_34, li_35, li_36, li_100, li_101, li_102, li_103, li_104, li_105, li_106, li_107, li_108, li_109, li_110, li_111, li_112, li_113, li_114, li_115, li_116, li_117, li_118, li_119, li_m1] at j_127_
                exact wp_some_i (by subst hQ; exact ⟨(by rw [e_s_14, e_s_12, e_s_10, e_s_8, e_s_6, e_s_4, e_s_2]), ⟨by first | omega | (simp (disch := omega) only [ti_add, ti_sub, b2t_, b2f_, li_0, li_1, li_2, li_3, li_18, li_19, li_20, li_21, li_22, li_23, li_25, li_26, li_27, li_28, li_29, li_30, li_31, li_32, li_33, li_34, li_35, li_36, li_100, li_101, li_102, li_103, li_104, li_105, li_106, li_107, li_108, li_109, li_110, li_111, li_112, li_113, li_114, li_115, li_116, li_117, li_118, li_119, li_m1]; omega), by first | omega | (simp (disch := omega) only [ti_add, ti_sub, b2t_, b2f_, li_0, li_1, li_2, li_3, li_18, li_19, li_20, li_21, li_22, li_23, li_25, li_26, li_27, li_28, li_29, li_30, li_31, li_32, li_33, li_34, li_35, li_36, li_100, li_101, li_102, li_103, li_104, li_105, li_106, li_107, li_108, li_109, li_110, li_111, li_112, li_113, li_114, li_115, li_116, li_117, li_118, li_119, li_m1]; omega)⟩⟩)
            · skip
              have b_128_ := b2i_bd r_11
              have j_129_ := ne_ti h_27_
              try simp (disch := omega) only [ti_add, ti_sub, b2t_, b2f_, li_0, li_1, li_2, li_3, li_18, li_19, li_20, li_21, li_22, li_23, li_25, li_26, li_27, li_28, li_29, li_30, li_31, li_32, li_33, li_34, li_35, li_36, li_100, li_101, li_102, li_103, li_104, li_105, li_106, li_107, li_108, li_109, li_110, li_111, li_112, li_113, li_114, li_115, li_116, li_117, li_118, li_119, li_m1] at j_129_
              exact wp_some_i (by subst hQ; exact ⟨(by rw [e_s_12, e_s_10, e_s_8, e_s_6, e_s_4, e_s_2]), ⟨by first | omega | (simp (disch := omega) only [ti_add, ti_sub, b2t_, b2f_, li_0, li_1, li_2, li_3, li_18, li_19, li_20, li_21, li_22, li_23, li_25, li_26, li_27, li_28, li_29, li_30, li_31, li_32, li_33, li_34, li_35, li_36, li_100, li_101, li_102, li_103, li_104, li_105, li_106, li_107, li_108, li_109, li_110, li_111, li_112, li_113, li_114, li_115, li_116, li_117, li_118, li_119, li_m1]; omega), by first | omega | (simp (disch := omega) only [ti_add, ti_sub, b2t_, b2f_, li_0, li_1, li_2, li_3, li_18, li_19, li_20, li_21, li_22, li_23, li_25, li_26, li_27, li_28, li_29, li_30, li_31, li_32, li_33, li_34, li_35, li_36, li_100, li_101, li_102, li_103, li_104, li_105, li_106, li_107, li_108, li_109, li_110, li_111, li_112, li_113, li_114, li_115, li_116, li_117, li_118, li_119, li_m1]; omega)⟩⟩)
          · skip
            have b_130_ := b2i_bd r_9
            have j_131_ := ne_ti h_22_
            try simp (disch := omega) only [ti_add, ti_sub, b2t_, b2f_, li_0, li_1, li_2, li_3, li_18, li_19, li_20, li_21, li_22, li_23, li_25, li_26, li_27, li_28, li_29, li_30, li_31, li_32, li_33, li_34, li_35, li_36, li_100, li_101, li_102, li_103, li_104, li_105, li_106, li_107, li_108, li_109, li_110, li_111, li_112, li_113, li_114, li_115, li_116, li_117, li_118, li_119, li_m1] at j_131_
            exact wp_some_i (by subst hQ; exact ⟨(by rw [e_s_10, e_s_8, e_s_6, e_s_4, e_s_2]), ⟨by first | omega | (simp (disch := omega) only [ti_add, ti_sub, b2t_, b2f_, li_0, li_1, li_2, li_3, li_18, li_19, li_20, li_21, li_22, li_23, li_25, li_26, li_27, li_28, li_29, li_30, li_31, li_32, li_33, li_34, li_35, li_36, li_100, li_101, li_102, li_103, li_104, li_105, li_106, li_107, li_108, li_109, li_110, li_111, li_112, li_113, li_114, li_115, li_116, li_117, li_118, li_119, li_m1]; omega), by first | omega | (simp (disch := omega) only [ti_add, ti_sub, b2t_, b2f_, li_0, li_1, li_2, li_3, li_18, li_19, li_20, li_21, li_22, li_23, li_25, li_26, li_27, li_28, li_29, li_30, li_31, li_32, li_33, li_34, li_35, li_36, li_100, li_101, li_102, li_103, li_104, li_105, li_106, li_107, li_108, li_109, li_110, li_111, li_112, li_113, li_114, li_115, li_116, li_117, li_118, li_119, li_m1]; omega)⟩⟩)
        · skip
          have b_132_ := b2i_bd r_7
          have j_133_ := ne_ti h_17_
          try simp (disch := omega) only [ti_add, ti_sub, b2t_, b2f_, li_0, li_1, li_2, li_3, li_18, li_19, li_20, li_21, li_22, li_23, li_25, li_26, li_27, li_28, li_29, li_30, li_31, li_32, li_33, li_34, li_35, li_36, li_100, li_101, li_102, li_103, li_104, li_105, li_106, li_107, li_108, li_109, li_110, li_111, li_112, li_113, li_114, li_115, li_116, li_117, li_118, li_119, li_m1] at j_133_
          exact wp_some_i (by subst hQ; exact ⟨(by rw [e_s_8, e_s_6, e_s_4, e_s_2]), ⟨by first | omega | (simp (disch := omega) only [ti_add, ti_sub, b2t_, b2f_, li_0, li_1, li_2, li_3, li_18, li_19, li_20, li_21, li_22, li_23, li_25, li_26, li_27, li_28, li_29, li_30, li_31, li_32, li_33, li_34, li_35, li_36, li_100, li_101, li_102, li_103, li_104, li_105, li_106, li_107, li_108, li_109, li_110, li_111, li_112, li_113, li_114, li_115, li_116, li_117, li_118, li_119, li_m1]; omega), by first | omega | (simp (disch := omega) only [ti_add, ti_sub, b2t_, b2f_, li_0, li_1, li_2, li_3, li_18, li_19, li_20, li_21, li_22, li_23, li_25, li_26, li_27, li_28, li_29, li_30, li_31, li_32, li_33, li_34, li_35, li_36, li_100, li_101, li_102, li_103, li_104, li_105, li_106, li_107, li_108, li_109, li_110, li_111, li_112, li_113, li_114, li_115, li_116, li_117, li_118, li_119, li_m1]; omega)⟩⟩)
      · skip
        have b_134_ := b2i_bd r_5
        have j_135_ := ne_ti h_12_
        try simp (disch := omega) only [ti_add, ti_sub, b2t_, b2f_, li_0, li_1, li_2, li_3, li_18, li_19, li_20, li_21, li_22, li_23, li_25, li_26, li_27, li_28, li_29, li_30, li_31, li_32, li_33, li_34, li_35, li_36, li_100, li_101, li_102, li_103, li_104, li_105, li_106, li_107, li_108, li_109, li_110, li_111, li_112, li_113, li_114, li_115, li_116, li_117, li_118, li_119, li_m1] at j_135_
        exact wp_some_i (by subst hQ; exact ⟨(by rw [e_s_6, e_s_4, e_s_2]), ⟨by first | omega | (simp (disch := omega) only [ti_add, ti_sub, b2t_, b2f_, li_0, li_1, li_2, li_3, li_18, li_19, li_20, li_21, li_22, li_23, li_25, li_26, li_27, li_28, li_29, li_30, li_31, li_32, li_33, li_34, li_35, li_36, li_100, li_101, li_102, li_103, li_104, li_105, li_106, li_107, li_108, li_109, li_110, li_111, li_112, li_113, li_114, li_115, li_116, li_117, li_118, li_119, li_m1]; omega), by first | omega | (simp (disch := omega) only [ti_add, ti_sub, b2t_, b2f_, li_0, li_1, li_2, li_3, li_18, li_19, li_20, li_21, li_22, li_23, li_25, li_26, li_27, li_28, li_29, li_30, li_31, li_32, li_33, li_34, li_35, li_36, li_100, li_101, li_102, li_103, li_104, li_105, li_106, li_107, li_108, li_109, li_110, li_111, li_112, li_113, li_114, li_115, li_116, li_117, li_118, li_119, li_m1]; omega)⟩⟩)
    · skip
      have b_136_ := b2i_bd r_3
      have j_137_ := ne_ti h_7_
      try simp (disch := omega) only [ti_add, ti_sub, b2t_, b2f_, li_0, li_1, li_2, li_3, li_18, li_19, li_20, li_21, li_22, li_23, li_25, li_26, li_27, li_28, li_29, li_30, li_31, li_32, li_33, li_34, li_35, li_36, li_100, li_101, li_102, li_103, li_104, li_105, li_106, li_107, li_108, li_109, li_110, li_111, li_112, li_113, li_114, li_115, li_116, li_117, li_118, li_119, li_m1] at j_137_
      exact wp_some_i (by subst hQ; exact ⟨(by rw [e_s_4, e_s_2]), ⟨by first | omega | (simp (disch := omega) only [ti_add, ti_sub, b2t_, b2f_, li_0, li_1, li_2, li_3, li_18, li_19, li_20, li_21, li_22, li_23, li_25, li_26, li_27, li_28, li_29, li_30, li_31, li_32, li_33, li_34, li_35, li_36, li_100, li_101, li_102, li_103, li_104, li_105, li_106, li_107, li_108, li_109, li_110, li_111, li_112, li_113, li_114, li_115, li_116, li_117, li_118, li_119, li_m1]; omega), by first | omega | (simp (disch := omega) only [ti_add, ti_sub, b2t_, b2f_, li_0, li_1, li_2, li_3, li_18, li_19, li_20, li_21, li_22, li_23, li_25, li_26, li_27, li_28, li_29, li_30, li_31, li_32, li_33, li_34, li_35, li_36, li_100, li_101, li_102, li_103, li_104, li_105, li_106, li_107, li_108, li_109, li_110, li_111, li_112, li_113, li_114, li_115, li_116, li_117, li_118, li_119, li_m1]; omega)⟩⟩)
  · skip
    have b_138_ := b2i_bd r_1
    have j_139_ := ne_ti h_2_
    try simp (disch := omega) only [ti_add, ti_sub, b2t_, b2f_, li_0, li_1, li_2, li_3, li_18, li_19, li_20, li_21, li_22, li_23, li_25, li_26, li_27, li_28, li_29, li_30, li_31, li_32, li_33, li_34, li_35, li_36, li_100, li_101, li_102, li_103, li_104, li_105, li_106, li_107, li_108, li_109, li_110, li_111, li_112, li_113, li_114, li_115, li_116, li_117, li_118, li_119, li_m1] at j_139_
    exact wp_some_i (by subst hQ; exact ⟨(by rw [e_s_2]), ⟨by first | omega | (simp (disch := omega) only [ti_add, ti_sub, b2t_, b2f_, li_0, li_1, li_2, li_3, li_18, li_19, li_20, li_21, li_22, li_23, li_25, li_26, li_27, li_28, li_29, li_30, li_31, li_32, li_33, li_34, li_35, li_36, li_100, li_101, li_102, li_103, li_104, li_105, li_106, li_107, li_108, li_109, li_110, li_111, li_112, li_113, li_114, li_115, li_116, li_117, li_118, li_119, li_m1]; omega), by first | omega | (simp (disch := omega) only [ti_add, ti_sub, b2t_, b2f_, li_0, li_1, li_2, li_3, li_18, li_19, li_20, li_21, li_22, li_23, li_25, li_26, li_27, li_28, li_29, li_30, li_31, li_32, li_33, li_34, li_35, li_36, li_100, li_101, li_102, li_103, li_104, li_105, li_106, li_107, li_108, li_109, li_110, li_111, li_112, li_113, li_114, li_115, li_116, li_117, li_118, li_119, li_m1]; omega)⟩⟩)
set_option maxHeartbeats 1000000 in
set_option maxRecDepth 20000 in
theorem lX7_advance_95_b {Q : (Sg) → Prop} (S_ : Sg) (hI_ : I9_ S_) (k_8 : Sg → Option (Sg)) (hk_8 : ∀ (z0_ : Sg), R9_ S_ z0_ → (gi z0_ 3 4).toInt ≤ (gi z0_ 3 1).toInt → wp_ (k_8 z0_) Q)  : ∀ (n : Nat) (s_12 : Sg), R9_ S_ s_12 → (gi s_12 3 4).toInt ≤ (gi s_12 3 1).toInt → (301 - (gi s_12 3 4).toInt).toNat < n → wp_ (lo1 (fX7_advance_95_b k_8) n s_12) Q := by
  intro n
  induction n with
  | zero =>
    intro s_12 _ _ hm_
    exact absurd hm_ (Nat.not_lt_zero _)
  | succ n ih =>
    intro s_12 g_s_12 i0_ hm_
    show wp_ (fX7_advance_95_b k_8 (lo1 (fX7_advance_95_b k_8) n) s_12) Q
    have hrec := ih
    generalize lo1 (fX7_advance_95_b k_8) n = rc at hrec ⊢
    clear ih
    have hFU_ : FU = 1000000000 := rfl
    unfold fX7_advance_95_b
    have L0_ := li_0
    have L1_ := li_1
    have L3_ := li_3
    have L4_ := li_4
    have L17_ := li_17
    have L300_ := li_300
    have M1_ := li_m1
    refine wp_if_i (fun h_1_ => ?_) (fun h_1_ => ?_)
    · skip
      have b_2_ : 0 ≤ (gi s_12 3 1).toInt ∧ (gi s_12 3 1).toInt ≤ 300 := g_s_12.1.1 3 1
      have b_3_ : 0 ≤ (gi s_12 3 4).toInt ∧ (gi s_12 3 4).toInt ≤ 301 := g_s_12.1.1 3 4
      have j_4_ := le_ti h_1_
      try simp (disch := omega) only [ti_add, ti_sub, b2t_, b2f_, li_0, li_1, li_3, li_4, li_17, li_300, li_m1] at j_4_
      exact hk_8 s_12 g_s_12 (by first | omega | (simp (disch := omega) only [ti_add, ti_sub, b2t_, b2f_, li_0, li_1, li_3, li_4, li_17, li_300, li_m1]; omega))
    · skip
      have b_5_ : 0 ≤ (gi s_12 3 1).toInt ∧ (gi s_12 3 1).toInt ≤ 300 := g_s_12.1.1 3 1
      have b_6_ : 0 ≤ (gi s_12 3 4).toInt ∧ (gi s_12 3 4).toInt ≤ 301 := g_s_12.1.1 3 4
      have j_7_ := nle_ti h_1_
      try simp (disch := omega) only [ti_add, ti_sub, b2t_, b2f_, li_0, li_1, li_3, li_4, li_17, li_300, li_m1] at j_7_
      refine wp_chk_i (inb_ti (by first | omega | (simp (disch := omega) only [ti_add, ti_sub, b2t_, b2f_, li_0, li_1, li_3, li_4, li_17, li_300, li_m1]; omega)) (by first | omega | (simp (disch := omega) only [ti_add, ti_sub, b2t_, b2f_, li_0, li_1, li_3, li_4, li_17, li_300, li_m1]; omega))) ?_
      refine wp_bnd_i (tX7_isLetter (gi s_12 17 (ix (gi s_12 3 4))) s_12 g_s_12.1 ) (fun r_14 s_15 p_s_15 => ?_)
      have e_s_15 : s_15 = s_12 := p_s_15
      have g_s_15 : R9_ S_ s_15 := by rw [e_s_15]; exact g_s_12
      refine wp_if_i (fun h_8_ => ?_) (fun h_8_ => ?_)
      · skip
        have b_9_ := b2i_bd r_14
        have j_10_ := eq_ti h_8_
        try simp (disch := omega) only [ti_add, ti_sub, b2t_, b2f_, li_0, li_1, li_3, li_4, li_17, li_300, li_m1] at j_10_
        have r_11_ : (gi s_15 3 4).toInt = (gi s_12 3 4).toInt := by rw [e_s_15]
        have b_12_ : 0 ≤ (gi s_15 3 4).toInt ∧ (gi s_15 3 4).toInt ≤ 301 := g_s_15.1.1 3 4
        have r_13_ : (gi s_15 3 1).toInt = (gi s_12 3 1).toInt := by rw [e_s_15]
        have b_14_ : 0 ≤ (gi s_15 3 1).toInt ∧ (gi s_15 3 1).toInt ≤ 300 := g_s_15.1.1 3 1
        exact hk_8 s_15 g_s_15 (by first | omega | (simp (disch := omega) only [ti_add, ti_sub, b2t_, b2f_, li_0, li_1, li_3, li_4, li_17, li_300, li_m1]; omega))
      · skip
        have b_15_ := b2i_bd r_14
        have j_16_ := ne_ti h_8_
        try simp (disch := omega) only [ti_add, ti_sub, b2t_, b2f_, li_0, li_1, li_3, li_4, li_17, li_300, li_m1] at j_16_
        have r_17_ : (gi s_15 3 4).toInt = (gi s_12 3 4).toInt := by rw [e_s_15]
        have b_18_ : 0 ≤ (gi s_15 3 4).toInt ∧ (gi s_15 3 4).toInt ≤ 301 := g_s_15.1.1 3 4
        apply wp_bv_i
        intro s_16 e_s_16
        have g_s_16 : R9_ S_ s_16 := by rw [e_s_16]; exact R9_.si g_s_15 (by first | decide | omega) (show 0 ≤ ((((gi s_15 3 4) + 1) : Int32)).toInt ∧ ((((gi s_15 3 4) + 1) : Int32)).toInt ≤ 301 from ⟨by first | omega | (simp (disch := omega) only [ti_add, ti_sub, b2t_, b2f_, li_0, li_1, li_3, li_4, li_17, li_300, li_m1]; omega), by first | omega | (simp (disch := omega) only [ti_add, ti_sub, b2t_, b2f_, li_0, li_1, li_3, li_4, li_17, li_300, li_m1]; omega)⟩)
        have r_19_ : (gi s_16 3 4).toInt = ((((gi s_15 3 4) + 1) : Int32)).toInt := by rw [e_s_16]; rw [gsi_eq]
        try simp (disch := omega) only [ti_add, ti_sub, b2t_, b2f_, li_0, li_1, li_3, li_4, li_17, li_300, li_m1] at r_19_
        have b_20_ : 0 ≤ (gi s_16 3 4).toInt ∧ (gi s_16 3 4).toInt ≤ 301 := g_s_16.1.1 3 4
        have r_21_ : (gi s_15 3 1).toInt = (gi s_12 3 1).toInt := by rw [e_s_15]
        have b_22_ : 0 ≤ (gi s_15 3 1).toInt ∧ (gi s_15 3 1).toInt ≤ 300 := g_s_15.1.1 3 1
        have r_23_ : (gi s_16 3 1).toInt = (gi s_15 3 1).toInt := by rw [e_s_16]; rw [gsi_ne (by decide)]
        have b_24_ : 0 ≤ (gi s_16 3 1).toInt ∧ (gi s_16 3 1).toInt ≤ 300 := g_s_16.1.1 3 1
        exact hrec s_16 g_s_16 (by first | omega | (simp (disch := omega) only [ti_add, ti_sub, b2t_, b2f_, li_0, li_1, li_3, li_4, li_17, li_300, li_m1]; omega)) (by first | omega | (simp (disch := omega) only [ti_add, ti_sub, b2t_, b2f_, li_0, li_1, li_3, li_4, li_17, li_300, li_m1]; omega))
set_option maxHeartbeats 1000000 in
set_option maxRecDepth 20000 in
theorem lX7_advance_0_b {Q : (Sg) → Prop} (S_ : Sg) (hI_ : I9_ S_) (k_2 : Sg → Option (Sg)) (hk_2 : ∀ (z0_ : Sg), R9_ S_ z0_ → wp_ (k_2 z0_) Q)  : ∀ (n : Nat) (s_38 : Sg), R9_ S_ s_38 → (301 - (gi s_38 3 4).toInt).toNat < n → wp_ (lo1 (fX7_advance_0_b k_2) n s_38) Q := by
  intro n
  induction n with
  | zero =>
    intro s_38 _ hm_
    exact absurd hm_ (Nat.not_lt_zero _)
  | succ n ih =>
    intro s_38 g_s_38 hm_
    show wp_ (fX7_advance_0_b k_2 (lo1 (fX7_advance_0_b k_2) n) s_38) Q
    have hrec := ih
    generalize lo1 (fX7_advance_0_b k_2) n = rc at hrec ⊢
    clear ih
    have hFU_ : FU = 1000000000 := rfl
    unfold fX7_advance_0_b
    have L0_ := li_0
    have L1_ := li_1
    have L3_ := li_3
    have L4_ := li_4
    have L10_ := li_10
    have L17_ := li_17
    have L32_ := li_32
    have L300_ := li_300
    have M1_ := li_m1
    refine wp_if_i (fun h_1_ => ?_) (fun h_1_ => ?_)
    · skip
      have b_2_ : 0 ≤ (gi s_38 3 1).toInt ∧ (gi s_38 3 1).toInt ≤ 300 := g_s_38.1.1 3 1
      have b_3_ : 0 ≤ (gi s_38 3 4).toInt ∧ (gi s_38 3 4).toInt ≤ 301 := g_s_38.1.1 3 4
      have j_4_ := le_ti h_1_
      try simp (disch := omega) only [ti_add, ti_sub, b2t_, b2f_, li_0, li_1, li_3, li_4, li_10, li_17, li_32, li_300, li_m1] at j_4_
      exact hk_2 s_38 g_s_38 
    · skip
      have b_5_ : 0 ≤ (gi s_38 3 1).toInt ∧ (gi s_38 3 1).toInt ≤ 300 := g_s_38.1.1 3 1
      have b_6_ : 0 ≤ (gi s_38 3 4).toInt ∧ (gi s_38 3 4).toInt ≤ 301 := g_s_38.1.1 3 4
      have j_7_ := nle_ti h_1_
      try simp (disch := omega) only [ti_add, ti_sub, b2t_, b2f_, li_0, li_1, li_3, li_4, li_10, li_17, li_32, li_300, li_m1] at j_7_
      refine wp_chk_i (inb_ti (by first | omega | (simp (disch := omega) only [ti_add, ti_sub, b2t_, b2f_, li_0, li_1, li_3, li_4, li_10, li_17, li_32, li_300, li_m1]; omega)) (by first | omega | (simp (disch := omega) only [ti_add, ti_sub, b2t_, b2f_, li_0, li_1, li_3, li_4, li_10, li_17, li_32, li_300, li_m1]; omega))) ?_
      refine wp_jn (fun k_40 => wp_ k_40 Q) ?_ (fun k_40 hk_40 => ?_)
      · skip
        apply wp_bv_i
        intro s_41 e_s_41
        have g_s_41 : R9_ S_ s_41 := by rw [e_s_41]; exact R9_.si g_s_38 (by first | decide | omega) (show 0 ≤ ((((gi s_38 3 4) + 1) : Int32)).toInt ∧ ((((gi s_38 3 4) + 1) : Int32)).toInt ≤ 301 from ⟨by first | omega | (simp (disch := omega) only [ti_add, ti_sub, b2t_, b2f_, li_0, li_1, li_3, li_4, li_10, li_17, li_32, li_300, li_m1]; omega), by first | omega | (simp (disch := omega) only [ti_add, ti_sub, b2t_, b2f_, li_0, li_1, li_3, li_4, li_10, li_17, li_32, li_300, li_m1]; omega)⟩)
        have r_8_ : (gi s_41 3 4).toInt = ((((gi s_38 3 4) + 1) : Int32)).toInt := by rw [e_s_41]; rw [gsi_eq]
        try simp (disch := omega) only [ti_add, ti_sub, b2t_, b2f_, li_0, li_1, li_3, li_4, li_10, li_17, li_32, li_300, li_m1] at r_8_
        have b_9_ : 0 ≤ (gi s_41 3 4).toInt ∧ (gi s_41 3 4).toInt ≤ 301 := g_s_41.1.1 3 4
        exact hrec s_41 g_s_41  (by first | omega | (simp (disch := omega) only [ti_add, ti_sub, b2t_, b2f_, li_0, li_1, li_3, li_4, li_10, li_17, li_32, li_300, li_m1]; omega))
      refine wp_if_i (fun h_10_ => ?_) (fun h_10_ => ?_)
      · skip
        have j_11_ := eq_ti h_10_
        try simp (disch := omega) only [ti_add, ti_sub, b2t_, b2f_, li_0, li_1, li_3, li_4, li_10, li_17, li_32, li_300, li_m1] at j_11_
        exact hk_40   
      · skip
        have j_12_ := ne_ti h_10_
        try simp (disch := omega) only [ti_add, ti_sub, b2t_, b2f_, li_0, li_1, li_3, li_4, li_10, li_17, li_32, li_300, li_m1] at j_12_
        refine wp_if_i (fun h_13_ => ?_) (fun h_13_ => ?_)
        · skip
          have j_14_ := eq_ti h_13_
          try simp (disch := omega) only [ti_add, ti_sub, b2t_, b2f_, li_0, li_1, li_3, li_4, li_10, li_17, li_32, li_300, li_m1] at j_14_
          exact hk_40   
        · skip
          have j_15_ := ne_ti h_13_
          try simp (disch := omega) only [ti_add, ti_sub, b2t_, b2f_, li_0, li_1, li_3, li_4, li_10, li_17, li_32, li_300, li_m1] at j_15_
          exact hk_2 s_38 g_s_38 
set_option maxHeartbeats 1000000 in
set_option maxRecDepth 20000 in
theorem tX7_advance (s0 : Sg) (h0 : I9_ s0)  : wp_ (fX7_advance s0) (fun q => R9_ s0 q) := by
  have g_s0 : R9_ s0 s0 := R9_.rf h0
  have hFU_ : FU = 1000000000 := rfl
  generalize hQ : (fun q : (Sg) => R9_ s0 q) = Q
  unfold fX7_advance
  have L0_ := li_0
  have L1_ := li_1
  have L2_ := li_2
  have L3_ := li_3
  have L4_ := li_4
  have L5_ := li_5
  have L7_ := li_7
  have L17_ := li_17
  have L24_ := li_24
  have L61_ := li_61
  have L300_ := li_300
  have M1_ := li_m1
  refine wp_jn (fun k_2 => ∀ (s_1 : Sg), R9_ s0 s_1 → wp_ (k_2 s_1) Q) ?_ (fun k_2 hk_2 => ?_)
  · intro s_1 g_s_1
    try dsimp only
    have b_1_ : 0 ≤ (gi s_1 3 4).toInt ∧ (gi s_1 3 4).toInt ≤ 301 := g_s_1.1.1 3 4
    apply wp_bv_i
    intro s_3 e_s_3
    have g_s_3 : R9_ s0 s_3 := by rw [e_s_3]; exact R9_.si g_s_1 (by first | decide | omega) (show 0 ≤ (((gi s_1 3 4) : Int32)).toInt ∧ (((gi s_1 3 4) : Int32)).toInt ≤ 301 from ⟨by first | omega | (simp (disch := omega) only [ti_add, ti_sub, b2t_, b2f_, li_0, li_1, li_2, li_3, li_4, li_5, li_7, li_17, li_24, li_61, li_300, li_m1]; omega), by first | omega | (simp (disch := omega) only [ti_add, ti_sub, b2t_, b2f_, li_0, li_1, li_2, li_3, li_4, li_5, li_7, li_17, li_24, li_61, li_300, li_m1]; omega)⟩)
    refine wp_if_i (fun h_2_ => ?_) (fun h_2_ => ?_)
    · skip
      have r_3_ : (gi s_3 3 4).toInt = (gi s_1 3 4).toInt := by rw [e_s_3]; rw [gsi_ne (by decide)]
      have b_4_ : 0 ≤ (gi s_3 3 4).toInt ∧ (gi s_3 3 4).toInt ≤ 301 := g_s_3.1.1 3 4
      have b_5_ : 0 ≤ (gi s_1 3 1).toInt ∧ (gi s_1 3 1).toInt ≤ 300 := g_s_1.1.1 3 1
      have r_6_ : (gi s_3 3 1).toInt = (gi s_1 3 1).toInt := by rw [e_s_3]; rw [gsi_ne (by decide)]
      have b_7_ : 0 ≤ (gi s_3 3 1).toInt ∧ (gi s_3 3 1).toInt ≤ 300 := g_s_3.1.1 3 1
      have j_8_ := lt_ti h_2_
      try simp (disch := omega) only [ti_add, ti_sub, b2t_, b2f_, li_0, li_1, li_2, li_3, li_4, li_5, li_7, li_17, li_24, li_61, li_300, li_m1] at j_8_
      refine wp_chk_i (inb_ti (by first | omega | (simp (disch := omega) only [ti_add, ti_sub, b2t_, b2f_, li_0, li_1, li_2, li_3, li_4, li_5, li_7, li_17, li_24, li_61, li_300, li_m1]; omega)) (by first | omega | (simp (disch := omega) only [ti_add, ti_sub, b2t_, b2f_, li_0, li_1, li_2, li_3, li_4, li_5, li_7, li_17, li_24, li_61, li_300, li_m1]; omega))) ?_
      refine wp_bnd_i (tX7_isLetter (gi s_3 17 (ix (gi s_3 3 4))) s_3 g_s_3.1 ) (fun r_5 s_6 p_s_6 => ?_)
      have e_s_6 : s_6 = s_3 := p_s_6
      have g_s_6 : R9_ s0 s_6 := by rw [e_s_6]; exact g_s_3
      refine wp_jn (fun k_8 => ∀ (s_7 : Sg), R9_ s0 s_7 → (gi s_7 3 4).toInt ≤ (gi s_7 3 1).toInt → wp_ (k_8 s_7) Q) ?_ (fun k_8 hk_8 => ?_)
      · intro s_7 g_s_7 u_0_k_8
        try dsimp only
        have b_9_ : 0 ≤ (gi s_7 3 4).toInt ∧ (gi s_7 3 4).toInt ≤ 301 := g_s_7.1.1 3 4
        have b_10_ : 0 ≤ (gi s_7 3 1).toInt ∧ (gi s_7 3 1).toInt ≤ 300 := g_s_7.1.1 3 1
        refine wp_bnd_i (tX7_wordToken s_7 g_s_7.1 (by first | omega | (simp (disch := omega) only [ti_add, ti_sub, b2t_, b2f_, li_0, li_1, li_2, li_3, li_4, li_5, li_7, li_17, li_24, li_61, li_300, li_m1]; omega))) (fun r_9 s_10 p_s_10 => ?_)
        have e_s_10 : s_10 = s_7 := p_s_10.1
        have g_s_10 : R9_ s0 s_10 := by rw [e_s_10]; exact g_s_7
        have f_s_10 := p_s_10.2
        try dsimp only at f_s_10
        try simp (disch := omega) only [ti_add, ti_sub, b2t_, b2f_, li_0, li_1, li_2, li_3, li_4, li_5, li_7, li_17, li_24, li_61, li_300, li_m1] at f_s_10
        apply wp_bv_i
        intro s_11 e_s_11
        have g_s_11 : R9_ s0 s_11 := by rw [e_s_11]; exact R9_.si g_s_10 (by first | decide | omega) (show 0 ≤ ((r_9 : Int32)).toInt ∧ ((r_9 : Int32)).toInt ≤ 36 from ⟨by first | omega | (simp (disch := omega) only [ti_add, ti_sub, b2t_, b2f_, li_0, li_1, li_2, li_3, li_4, li_5, li_7, li_17, li_24, li_61, li_300, li_m1]; omega), by first | omega | (simp (disch := omega) only [ti_add, ti_sub, b2t_, b2f_, li_0, li_1, li_2, li_3, li_4, li_5, li_7, li_17, li_24, li_61, li_300, li_m1]; omega)⟩)
        exact wp_some_i (by subst hQ; exact g_s_11)
      refine wp_if_i (fun h_11_ => ?_) (fun h_11_ => ?_)
      · skip
        have b_12_ := b2i_bd r_5
        have j_13_ := eq_ti h_11_
        try simp (disch := omega) only [ti_add, ti_sub, b2t_, b2f_, li_0, li_1, li_2, li_3, li_4, li_5, li_7, li_17, li_24, li_61, li_300, li_m1] at j_13_
        have r_14_ : (gi s_6 3 4).toInt = (gi s_3 3 4).toInt := by rw [e_s_6]
        have b_15_ : 0 ≤ (gi s_6 3 4).toInt ∧ (gi s_6 3 4).toInt ≤ 301 := g_s_6.1.1 3 4
        refine wp_chk_i (inb_ti (by first | omega | (simp (disch := omega) only [ti_add, ti_sub, b2t_, b2f_, li_0, li_1, li_2, li_3, li_4, li_5, li_7, li_17, li_24, li_61, li_300, li_m1]; omega)) (by first | omega | (simp (disch := omega) only [ti_add, ti_sub, b2t_, b2f_, li_0, li_1, li_2, li_3, li_4, li_5, li_7, li_17, li_24, li_61, li_300, li_m1]; omega))) ?_
        refine wp_bnd_i (tX7_isDigit (gi s_6 17 (ix (gi s_6 3 4))) s_6 g_s_6.1 ) (fun r_18 s_19 p_s_19 => ?_)
        have e_s_19 : s_19 = s_6 := p_s_19
        have g_s_19 : R9_ s0 s_19 := by rw [e_s_19]; exact g_s_6
        refine wp_if_i (fun h_16_ => ?_) (fun h_16_ => ?_)
        · skip
          have b_17_ := b2i_bd r_18
          have j_18_ := eq_ti h_16_
          try simp (disch := omega) only [ti_add, ti_sub, b2t_, b2f_, li_0, li_1, li_2, li_3, li_4, li_5, li_7, li_17, li_24, li_61, li_300, li_m1] at j_18_
          have r_19_ : (gi s_19 3 4).toInt = (gi s_6 3 4).toInt := by rw [e_s_19]
          have b_20_ : 0 ≤ (gi s_19 3 4).toInt ∧ (gi s_19 3 4).toInt ≤ 301 := g_s_19.1.1 3 4
          refine wp_chk_i (inb_ti (by first | omega | (simp (disch := omega) only [ti_add, ti_sub, b2t_, b2f_, li_0, li_1, li_2, li_3, li_4, li_5, li_7, li_17, li_24, li_61, li_300, li_m1]; omega)) (by first | omega | (simp (disch := omega) only [ti_add, ti_sub, b2t_, b2f_, li_0, li_1, li_2, li_3, li_4, li_5, li_7, li_17, li_24, li_61, li_300, li_m1]; omega))) ?_
          refine wp_jn (fun k_23 => ∀ (y_21 : Int32) (y_22 : Bool), wp_ (k_23 y_21 y_22) Q) ?_ (fun k_23 hk_23 => ?_)
          · intro y_21 y_22
            try dsimp only
            have b_21_ := b2i_bd y_22
            refine wp_bnd_i (tX7_signToken y_21 (b2i y_22) s_19 g_s_19.1 ) (fun r_24 s_25 p_s_25 => ?_)
            have e_s_25 : s_25 = s_19 := p_s_25.1
            have g_s_25 : R9_ s0 s_25 := by rw [e_s_25]; exact g_s_19
            have f_s_25 := p_s_25.2
            try dsimp only at f_s_25
            try simp (disch := omega) only [ti_add, ti_sub, b2t_, b2f_, li_0, li_1, li_2, li_3, li_4, li_5, li_7, li_17, li_24, li_61, li_300, li_m1] at f_s_25
            apply wp_bv_i
            intro s_26 e_s_26
            have g_s_26 : R9_ s0 s_26 := by rw [e_s_26]; exact R9_.si g_s_25 (by first | decide | omega) (show 0 ≤ ((r_24 : Int32)).toInt ∧ ((r_24 : Int32)).toInt ≤ 36 from ⟨by first | omega | (simp (disch := omega) only [ti_add, ti_sub, b2t_, b2f_, li_0, li_1, li_2, li_3, li_4, li_5, li_7, li_17, li_24, li_61, li_300, li_m1]; omega), by first | omega | (simp (disch := omega) only [ti_add, ti_sub, b2t_, b2f_, li_0, li_1, li_2, li_3, li_4, li_5, li_7, li_17, li_24, li_61, li_300, li_m1]; omega)⟩)
            refine wp_jn (fun k_29 => ∀ (y_27 : Int32) (y_28 : Int32), 0 ≤ y_27.toInt ∧ y_27.toInt ≤ 299 → 1 ≤ y_28.toInt ∧ y_28.toInt ≤ 2 → wp_ (k_29 y_27 y_28) Q) ?_ (fun k_29 hk_29 => ?_)
            · intro y_27 y_28 u_0_k_29 u_1_k_29
              try dsimp only
              apply wp_bv_i
              intro s_30 e_s_30
              have g_s_30 : R9_ s0 s_30 := by rw [e_s_30]; exact R9_.si g_s_26 (by first | decide | omega) (show 0 ≤ (((y_27 + y_28) : Int32)).toInt ∧ (((y_27 + y_28) : Int32)).toInt ≤ 301 from ⟨by first | omega | (simp (disch := omega) only [ti_add, ti_sub, b2t_, b2f_, li_0, li_1, li_2, li_3, li_4, li_5, li_7, li_17, li_24, li_61, li_300, li_m1]; omega), by first | omega | (simp (disch := omega) only [ti_add, ti_sub, b2t_, b2f_, li_0, li_1, li_2, li_3, li_4, li_5, li_7, li_17, li_24, li_61, li_300, li_m1]; omega)⟩)
              exact wp_some_i (by subst hQ; exact g_s_30)
            refine wp_jn (fun k_32 => ∀ (y_31 : Int32), 0 ≤ y_31.toInt ∧ y_31.toInt ≤ 299 → wp_ (k_32 y_31) Q) ?_ (fun k_32 hk_32 => ?_)
            · intro y_31 u_0_k_32
              try dsimp only
              exact hk_29 y_31 2  (by first | omega | (simp (disch := omega) only [ti_add, ti_sub, b2t_, b2f_, li_0, li_1, li_2, li_3, li_4, li_5, li_7, li_17, li_24, li_61, li_300, li_m1]; omega)) (by first | omega | (simp (disch := omega) only [ti_add, ti_sub, b2t_, b2f_, li_0, li_1, li_2, li_3, li_4, li_5, li_7, li_17, li_24, li_61, li_300, li_m1]; omega))
            refine wp_if_i (fun h_22_ => ?_) (fun h_22_ => ?_)
            · skip
              have r_23_ : (gi s_26 3 2).toInt = ((r_24 : Int32)).toInt := by rw [e_s_26]; rw [gsi_eq]
              try simp (disch := omega) only [ti_add, ti_sub, b2t_, b2f_, li_0, li_1, li_2, li_3, li_4, li_5, li_7, li_17, li_24, li_61, li_300, li_m1] at r_23_
              have b_24_ : 0 ≤ (gi s_26 3 2).toInt ∧ (gi s_26 3 2).toInt ≤ 36 := g_s_26.1.1 3 2
              have j_25_ := eq_ti h_22_
              try simp (disch := omega) only [ti_add, ti_sub, b2t_, b2f_, li_0, li_1, li_2, li_3, li_4, li_5, li_7, li_17, li_24, li_61, li_300, li_m1] at j_25_
              have r_26_ : (gi s_25 3 4).toInt = (gi s_19 3 4).toInt := by rw [e_s_25]
              have b_27_ : 0 ≤ (gi s_25 3 4).toInt ∧ (gi s_25 3 4).toInt ≤ 301 := g_s_25.1.1 3 4
              have r_28_ : (gi s_26 3 4).toInt = (gi s_25 3 4).toInt := by rw [e_s_26]; rw [gsi_ne (by decide)]
              have b_29_ : 0 ≤ (gi s_26 3 4).toInt ∧ (gi s_26 3 4).toInt ≤ 301 := g_s_26.1.1 3 4
              exact hk_32 (gi s_26 3 4)  (by first | omega | (simp (disch := omega) only [ti_add, ti_sub, b2t_, b2f_, li_0, li_1, li_2, li_3, li_4, li_5, li_7, li_17, li_24, li_61, li_300, li_m1]; omega))
            · skip
              have r_30_ : (gi s_26 3 2).toInt = ((r_24 : Int32)).toInt := by rw [e_s_26]; rw [gsi_eq]
              try simp (disch := omega) only [ti_add, ti_sub, b2t_, b2f_, li_0, li_1, li_2, li_3, li_4, li_5, li_7, li_17, li_24, li_61, li_300, li_m1] at r_30_
              have b_31_ : 0 ≤ (gi s_26 3 2).toInt ∧ (gi s_26 3 2).toInt ≤ 36 := g_s_26.1.1 3 2
              have j_32_ := ne_ti h_22_
              try simp (disch := omega) only [ti_add, ti_sub, b2t_, b2f_, li_0, li_1, li_2, li_3, li_4, li_5, li_7, li_17, li_24, li_61, li_300, li_m1] at j_32_
              refine wp_if_i (fun h_33_ => ?_) (fun h_33_ => ?_)
              · skip
                have j_34_ := eq_ti h_33_
                try simp (disch := omega) only [ti_add, ti_sub, b2t_, b2f_, li_0, li_1, li_2, li_3, li_4, li_5, li_7, li_17, li_24, li_61, li_300, li_m1] at j_34_
                have r_35_ : (gi s_25 3 4).toInt = (gi s_19 3 4).toInt := by rw [e_s_25]
                have b_36_ : 0 ≤ (gi s_25 3 4).toInt ∧ (gi s_25 3 4).toInt ≤ 301 := g_s_25.1.1 3 4
                have r_37_ : (gi s_26 3 4).toInt = (gi s_25 3 4).toInt := by rw [e_s_26]; rw [gsi_ne (by decide)]
                have b_38_ : 0 ≤ (gi s_26 3 4).toInt ∧ (gi s_26 3 4).toInt ≤ 301 := g_s_26.1.1 3 4
                exact hk_32 (gi s_26 3 4)  (by first | omega | (simp (disch := omega) only [ti_add, ti_sub, b2t_, b2f_, li_0, li_1, li_2, li_3, li_4, li_5, li_7, li_17, li_24, li_61, li_300, li_m1]; omega))
              · skip
                have j_39_ := ne_ti h_33_
                try simp (disch := omega) only [ti_add, ti_sub, b2t_, b2f_, li_0, li_1, li_2, li_3, li_4, li_5, li_7, li_17, li_24, li_61, li_300, li_m1] at j_39_
                have r_40_ : (gi s_25 3 4).toInt = (gi s_19 3 4).toInt := by rw [e_s_25]
                have b_41_ : 0 ≤ (gi s_25 3 4).toInt ∧ (gi s_25 3 4).toInt ≤ 301 := g_s_25.1.1 3 4
                have r_42_ : (gi s_26 3 4).toInt = (gi s_25 3 4).toInt := by rw [e_s_26]; rw [gsi_ne (by decide)]
                have b_43_ : 0 ≤ (gi s_26 3 4).toInt ∧ (gi s_26 3 4).toInt ≤ 301 := g_s_26.1.1 3 4
                exact hk_29 (gi s_26 3 4) 1  (by first | omega | (simp (disch := omega) only [ti_add, ti_sub, b2t_, b2f_, li_0, li_1, li_2, li_3, li_4, li_5, li_7, li_17, li_24, li_61, li_300, li_m1]; omega)) (by first | omega | (simp (disch := omega) only [ti_add, ti_sub, b2t_, b2f_, li_0, li_1, li_2, li_3, li_4, li_5, li_7, li_17, li_24, li_61, li_300, li_m1]; omega))
          refine wp_jn (fun k_34 => ∀ (y_33 : Int32), wp_ (k_34 y_33) Q) ?_ (fun k_34 hk_34 => ?_)
          · intro y_33
            try dsimp only
            exact hk_23 y_33 false  
          refine wp_if_i (fun h_44_ => ?_) (fun h_44_ => ?_)
          · skip
            have r_45_ : (gi s_6 3 1).toInt = (gi s_3 3 1).toInt := by rw [e_s_6]
            have b_46_ : 0 ≤ (gi s_6 3 1).toInt ∧ (gi s_6 3 1).toInt ≤ 300 := g_s_6.1.1 3 1
            have r_47_ : (gi s_19 3 1).toInt = (gi s_6 3 1).toInt := by rw [e_s_19]
            have b_48_ : 0 ≤ (gi s_19 3 1).toInt ∧ (gi s_19 3 1).toInt ≤ 300 := g_s_19.1.1 3 1
            have j_49_ := le_ti h_44_
            try simp (disch := omega) only [ti_add, ti_sub, b2t_, b2f_, li_0, li_1, li_2, li_3, li_4, li_5, li_7, li_17, li_24, li_61, li_300, li_m1] at j_49_
            exact hk_34 (gi s_19 17 (ix (gi s_19 3 4)))  
          · skip
            have r_50_ : (gi s_6 3 1).toInt = (gi s_3 3 1).toInt := by rw [e_s_6]
            have b_51_ : 0 ≤ (gi s_6 3 1).toInt ∧ (gi s_6 3 1).toInt ≤ 300 := g_s_6.1.1 3 1
            have r_52_ : (gi s_19 3 1).toInt = (gi s_6 3 1).toInt := by rw [e_s_19]
            have b_53_ : 0 ≤ (gi s_19 3 1).toInt ∧ (gi s_19 3 1).toInt ≤ 300 := g_s_19.1.1 3 1
            have j_54_ := nle_ti h_44_
            try simp (disch := omega) only [ti_add, ti_sub, b2t_, b2f_, li_0, li_1, li_2, li_3, li_4, li_5, li_7, li_17, li_24, li_61, li_300, li_m1] at j_54_
            refine wp_chk_i (inb_ti (by first | omega | (simp (disch := omega) only [ti_add, ti_sub, b2t_, b2f_, li_0, li_1, li_2, li_3, li_4, li_5, li_7, li_17, li_24, li_61, li_300, li_m1]; omega)) (by first | omega | (simp (disch := omega) only [ti_add, ti_sub, b2t_, b2f_, li_0, li_1, li_2, li_3, li_4, li_5, li_7, li_17, li_24, li_61, li_300, li_m1]; omega))) ?_
            refine wp_if_i (fun h_55_ => ?_) (fun h_55_ => ?_)
            · skip
              have j_56_ := eq_ti h_55_
              try simp (disch := omega) only [ti_add, ti_sub, b2t_, b2f_, li_0, li_1, li_2, li_3, li_4, li_5, li_7, li_17, li_24, li_61, li_300, li_m1] at j_56_
              exact hk_23 (gi s_19 17 (ix (gi s_19 3 4))) true  
            · skip
              have j_57_ := ne_ti h_55_
              try simp (disch := omega) only [ti_add, ti_sub, b2t_, b2f_, li_0, li_1, li_2, li_3, li_4, li_5, li_7, li_17, li_24, li_61, li_300, li_m1] at j_57_
              exact hk_34 (gi s_19 17 (ix (gi s_19 3 4)))  
        · skip
          have b_58_ := b2i_bd r_18
          have j_59_ := ne_ti h_16_
          try simp (disch := omega) only [ti_add, ti_sub, b2t_, b2f_, li_0, li_1, li_2, li_3, li_4, li_5, li_7, li_17, li_24, li_61, li_300, li_m1] at j_59_
          refine wp_bnv_i (tX7_readNumber s_19 g_s_19.1 ) (fun s_36 p_s_36 => ?_)
          have g_s_36 := g_s_19.tr p_s_36
          exact wp_some_i (by subst hQ; exact g_s_36)
      · skip
        have b_60_ := b2i_bd r_5
        have j_61_ := ne_ti h_11_
        try simp (disch := omega) only [ti_add, ti_sub, b2t_, b2f_, li_0, li_1, li_2, li_3, li_4, li_5, li_7, li_17, li_24, li_61, li_300, li_m1] at j_61_
        have r_62_ : (gi s_6 3 4).toInt = (gi s_3 3 4).toInt := by rw [e_s_6]
        have b_63_ : 0 ≤ (gi s_6 3 4).toInt ∧ (gi s_6 3 4).toInt ≤ 301 := g_s_6.1.1 3 4
        have r_64_ : (gi s_6 3 1).toInt = (gi s_3 3 1).toInt := by rw [e_s_6]
        have b_65_ : 0 ≤ (gi s_6 3 1).toInt ∧ (gi s_6 3 1).toInt ≤ 300 := g_s_6.1.1 3 1
        exact lX7_advance_95_b s0 h0 k_8 hk_8  FU s_6 g_s_6 (by first | omega | (simp (disch := omega) only [ti_add, ti_sub, b2t_, b2f_, li_0, li_1, li_2, li_3, li_4, li_5, li_7, li_17, li_24, li_61, li_300, li_m1]; omega)) (by first | omega | (simp (disch := omega) only [ti_add, ti_sub, b2t_, b2f_, li_0, li_1, li_2, li_3, li_4, li_5, li_7, li_17, li_24, li_61, li_300, li_m1]; omega))
    · skip
      have r_66_ : (gi s_3 3 4).toInt = (gi s_1 3 4).toInt := by rw [e_s_3]; rw [gsi_ne (by decide)]
      have b_67_ : 0 ≤ (gi s_3 3 4).toInt ∧ (gi s_3 3 4).toInt ≤ 301 := g_s_3.1.1 3 4
      have b_68_ : 0 ≤ (gi s_1 3 1).toInt ∧ (gi s_1 3 1).toInt ≤ 300 := g_s_1.1.1 3 1
      have r_69_ : (gi s_3 3 1).toInt = (gi s_1 3 1).toInt := by rw [e_s_3]; rw [gsi_ne (by decide)]
      have b_70_ : 0 ≤ (gi s_3 3 1).toInt ∧ (gi s_3 3 1).toInt ≤ 300 := g_s_3.1.1 3 1
      have j_71_ := nlt_ti h_2_
      try simp (disch := omega) only [ti_add, ti_sub, b2t_, b2f_, li_0, li_1, li_2, li_3, li_4, li_5, li_7, li_17, li_24, li_61, li_300, li_m1] at j_71_
      apply wp_bv_i
      intro s_37 e_s_37
      have g_s_37 : R9_ s0 s_37 := by rw [e_s_37]; exact R9_.si g_s_3 (by first | decide | omega) (show 0 ≤ ((24 : Int32)).toInt ∧ ((24 : Int32)).toInt ≤ 36 from ⟨by first | omega | (simp (disch := omega) only [ti_add, ti_sub, b2t_, b2f_, li_0, li_1, li_2, li_3, li_4, li_5, li_7, li_17, li_24, li_61, li_300, li_m1]; omega), by first | omega | (simp (disch := omega) only [ti_add, ti_sub, b2t_, b2f_, li_0, li_1, li_2, li_3, li_4, li_5, li_7, li_17, li_24, li_61, li_300, li_m1]; omega)⟩)
      exact wp_some_i (by subst hQ; exact g_s_37)
  have b_72_ : 0 ≤ (gi s0 3 4).toInt ∧ (gi s0 3 4).toInt ≤ 301 := g_s0.1.1 3 4
  exact lX7_advance_0_b s0 h0 k_2 hk_2  FU s0 g_s0  (by first | omega | (simp (disch := omega) only [ti_add, ti_sub, b2t_, b2f_, li_0, li_1, li_2, li_3, li_4, li_5, li_7, li_17, li_24, li_61, li_300, li_m1]; omega))
set_option maxHeartbeats 1000000 in
set_option maxRecDepth 20000 in
theorem tX7_begin (s0 : Sg) (h0 : I9_ s0)  : wp_ (fX7_begin s0) (fun q => R9_ s0 q) := by
  have g_s0 : R9_ s0 s0 := R9_.rf h0
  have hFU_ : FU = 1000000000 := rfl
  generalize hQ : (fun q : (Sg) => R9_ s0 q) = Q
  unfold fX7_begin
  have L0_ := li_0
  have L1_ := li_1
  have L3_ := li_3
  have L4_ := li_4
  have M1_ := li_m1
  apply wp_bv_i
  intro s_1 e_s_1
  have g_s_1 : R9_ s0 s_1 := by rw [e_s_1]; exact R9_.si g_s0 (by first | decide | omega) (show 0 ≤ ((0 : Int32)).toInt ∧ ((0 : Int32)).toInt ≤ 301 from ⟨by first | omega | (simp (disch := omega) only [ti_add, ti_sub, b2t_, b2f_, li_0, li_1, li_3, li_4, li_m1]; omega), by first | omega | (simp (disch := omega) only [ti_add, ti_sub, b2t_, b2f_, li_0, li_1, li_3, li_4, li_m1]; omega)⟩)
  refine wp_bnv_i (tX7_advance s_1 g_s_1.1 ) (fun s_2 p_s_2 => ?_)
  have g_s_2 := g_s_1.tr p_s_2
  exact wp_some_i (by subst hQ; exact g_s_2)
set_option maxHeartbeats 1000000 in
set_option maxRecDepth 20000 in
theorem tX2_takeNumber (a1 : Int32) (s0 : Sg) (h0 : I9_ s0)  : wp_ (fX2_takeNumber a1 s0) (fun q => R9_ s0 q.2) := by
  have g_s0 : R9_ s0 s0 := R9_.rf h0
  have hFU_ : FU = 1000000000 := rfl
  generalize hQ : (fun q : (Int32 × Sg) => R9_ s0 q.2) = Q
  unfold fX2_takeNumber
  have L0_ := li_0
  have L1_ := li_1
  have L2_ := li_2
  have L3_ := li_3
  have L4_ := li_4
  have L5_ := li_5
  have L17_ := li_17
  have M1_ := li_m1
  refine wp_jn (fun k_2 => ∀ (s_1 : Sg), R9_ s0 s_1 → wp_ (k_2 s_1) Q) ?_ (fun k_2 hk_2 => ?_)
  · intro s_1 g_s_1
    try dsimp only
    have b_1_ : (gi s_1 3 5).toInt ≤ 10000 := g_s_1.1.1 3 5
    apply wp_bv_i
    intro v_3 e_v_3
    have j_2_ := eq_ti e_v_3
    try simp (disch := omega) only [ti_add, ti_sub, b2t_, b2f_, li_0, li_1, li_2, li_3, li_4, li_5, li_17, li_m1] at j_2_
    refine wp_if_i (fun h_3_ => ?_) (fun h_3_ => ?_)
    · skip
      have j_4_ := eq_ti h_3_
      try simp (disch := omega) only [ti_add, ti_sub, b2t_, b2f_, li_0, li_1, li_2, li_3, li_4, li_5, li_17, li_m1] at j_4_
      refine wp_bnv_i (tX7_advance s_1 g_s_1.1 ) (fun s_5 p_s_5 => ?_)
      have g_s_5 := g_s_1.tr p_s_5
      exact wp_some_i (by subst hQ; exact g_s_5)
    · skip
      have j_5_ := ne_ti h_3_
      try simp (disch := omega) only [ti_add, ti_sub, b2t_, b2f_, li_0, li_1, li_2, li_3, li_4, li_5, li_17, li_m1] at j_5_
      exact wp_some_i (by subst hQ; exact g_s_1)
  refine wp_if_i (fun h_6_ => ?_) (fun h_6_ => ?_)
  · skip
    have b_7_ : 0 ≤ (gi s0 3 2).toInt ∧ (gi s0 3 2).toInt ≤ 36 := g_s0.1.1 3 2
    have j_8_ := eq_ti h_6_
    try simp (disch := omega) only [ti_add, ti_sub, b2t_, b2f_, li_0, li_1, li_2, li_3, li_4, li_5, li_17, li_m1] at j_8_
    refine wp_if_i (fun h_9_ => ?_) (fun h_9_ => ?_)
    · skip
      have b_10_ : (gi s0 3 5).toInt ≤ 10000 := g_s0.1.1 3 5
      have j_11_ := le_ti h_9_
      try simp (disch := omega) only [ti_add, ti_sub, b2t_, b2f_, li_0, li_1, li_2, li_3, li_4, li_5, li_17, li_m1] at j_11_
      exact hk_2 s0 g_s0 
    · skip
      have b_12_ : (gi s0 3 5).toInt ≤ 10000 := g_s0.1.1 3 5
      have j_13_ := nle_ti h_9_
      try simp (disch := omega) only [ti_add, ti_sub, b2t_, b2f_, li_0, li_1, li_2, li_3, li_4, li_5, li_17, li_m1] at j_13_
      refine wp_bnv_i (tX2_fail 2 s0 g_s0.1 ) (fun s_7 p_s_7 => ?_)
      have g_s_7 := g_s0.tr p_s_7
      exact hk_2 s_7 g_s_7 
  · skip
    have b_14_ : 0 ≤ (gi s0 3 2).toInt ∧ (gi s0 3 2).toInt ≤ 36 := g_s0.1.1 3 2
    have j_15_ := ne_ti h_6_
    try simp (disch := omega) only [ti_add, ti_sub, b2t_, b2f_, li_0, li_1, li_2, li_3, li_4, li_5, li_17, li_m1] at j_15_
    refine wp_bnv_i (tX2_fail 1 s0 g_s0.1 ) (fun s_8 p_s_8 => ?_)
    have g_s_8 := g_s0.tr p_s_8
    exact hk_2 s_8 g_s_8 
set_option maxHeartbeats 1000000 in
set_option maxRecDepth 20000 in
theorem tX2_takeToken (a1 : Int32) (s0 : Sg) (h0 : I9_ s0)  : wp_ (fX2_takeToken a1 s0) (fun q => R9_ s0 q) := by
  have g_s0 : R9_ s0 s0 := R9_.rf h0
  have hFU_ : FU = 1000000000 := rfl
  generalize hQ : (fun q : (Sg) => R9_ s0 q) = Q
  unfold fX2_takeToken
  have L0_ := li_0
  have L1_ := li_1
  have L2_ := li_2
  have L3_ := li_3
  have L4_ := li_4
  have M1_ := li_m1
  refine wp_jn (fun k_2 => ∀ (s_1 : Sg), R9_ s0 s_1 → wp_ (k_2 s_1) Q) ?_ (fun k_2 hk_2 => ?_)
  · intro s_1 g_s_1
    try dsimp only
    refine wp_if_i (fun h_1_ => ?_) (fun h_1_ => ?_)
    · skip
      have j_2_ := eq_ti h_1_
      try simp (disch := omega) only [ti_add, ti_sub, b2t_, b2f_, li_0, li_1, li_2, li_3, li_4, li_m1] at j_2_
      refine wp_bnv_i (tX7_advance s_1 g_s_1.1 ) (fun s_4 p_s_4 => ?_)
      have g_s_4 := g_s_1.tr p_s_4
      exact wp_some_i (by subst hQ; exact g_s_4)
    · skip
      have j_3_ := ne_ti h_1_
      try simp (disch := omega) only [ti_add, ti_sub, b2t_, b2f_, li_0, li_1, li_2, li_3, li_4, li_m1] at j_3_
      exact wp_some_i (by subst hQ; exact g_s_1)
  refine wp_if_i (fun h_4_ => ?_) (fun h_4_ => ?_)
  · skip
    have b_5_ : 0 ≤ (gi s0 3 2).toInt ∧ (gi s0 3 2).toInt ≤ 36 := g_s0.1.1 3 2
    have j_6_ := eq_ti h_4_
    try simp (disch := omega) only [ti_add, ti_sub, b2t_, b2f_, li_0, li_1, li_2, li_3, li_4, li_m1] at j_6_
    exact hk_2 s0 g_s0 
  · skip
    have b_7_ : 0 ≤ (gi s0 3 2).toInt ∧ (gi s0 3 2).toInt ≤ 36 := g_s0.1.1 3 2
    have j_8_ := ne_ti h_4_
    try simp (disch := omega) only [ti_add, ti_sub, b2t_, b2f_, li_0, li_1, li_2, li_3, li_4, li_m1] at j_8_
    refine wp_bnv_i (tX2_fail 1 s0 g_s0.1 ) (fun s_6 p_s_6 => ?_)
    have g_s_6 := g_s0.tr p_s_6
    exact hk_2 s_6 g_s_6 
