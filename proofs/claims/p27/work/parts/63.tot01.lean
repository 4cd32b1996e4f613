set_option maxHeartbeats 1000000 in
set_option maxRecDepth 20000 in
theorem tX9_fault (a1 : Int32) (s0 : Sg) (h0 : I9_ s0)  : wp_ (fX9_fault a1 s0) (fun q => q.2 = s0) := by
  have g_s0 : G9_ s0 s0 := G9_.rf h0
  have hFU_ : FU = 1000000000 := rfl
  generalize hQ : (fun q : (Int32 × Sg) => q.2 = s0) = Q
  unfold fX9_fault
  have L0_ := li_0
  have L1_ := li_1
  have L4_ := li_4
  have L5_ := li_5
  have M1_ := li_m1
  refine wp_if_i (fun h_1_ => ?_) (fun h_1_ => ?_)
  · skip
    have j_2_ := eq_ti h_1_
    try simp (disch := omega) only [ti_add, ti_sub, b2t_, b2f_, li_0, li_1, li_4, li_5, li_m1] at j_2_
    exact wp_some_i (by subst hQ; exact rfl)
  · skip
    have j_3_ := ne_ti h_1_
    try simp (disch := omega) only [ti_add, ti_sub, b2t_, b2f_, li_0, li_1, li_4, li_5, li_m1] at j_3_
    refine wp_if_i (fun h_4_ => ?_) (fun h_4_ => ?_)
    · skip
      have j_5_ := eq_ti h_4_
      try simp (disch := omega) only [ti_add, ti_sub, b2t_, b2f_, li_0, li_1, li_4, li_5, li_m1] at j_5_
      exact wp_some_i (by subst hQ; exact rfl)
    · skip
      have j_6_ := ne_ti h_4_
      try simp (disch := omega) only [ti_add, ti_sub, b2t_, b2f_, li_0, li_1, li_4, li_5, li_m1] at j_6_
      exact wp_some_i (by subst hQ; exact rfl)
set_option maxHeartbeats 1000000 in
set_option maxRecDepth 20000 in
theorem tX9_forget (s0 : Sg) (h0 : I9_ s0)  : wp_ (fX9_forget s0) (fun q => G9_ s0 q.2) := by
  have g_s0 : G9_ s0 s0 := G9_.rf h0
  have hFU_ : FU = 1000000000 := rfl
  generalize hQ : (fun q : (Int32 × Sg) => G9_ s0 q.2) = Q
  unfold fX9_forget
  have L0_ := li_0
  have L1_ := li_1
  have L17_ := li_17
  have M1_ := li_m1
  have b_1_ : 0 ≤ (gi s0 1 17).toInt ∧ (gi s0 1 17).toInt ≤ 10 := g_s0.1.1 1 17
  apply wp_bv_i
  intro v_1 e_v_1
  have j_2_ := eq_ti e_v_1
  try simp (disch := omega) only [ti_add, ti_sub, b2t_, b2f_, li_0, li_1, li_17, li_m1] at j_2_
  apply wp_bv_i
  intro s_2 e_s_2
  have g_s_2 : G9_ s0 s_2 := by rw [e_s_2]; exact G9_.si g_s0 (by first | decide | omega) (show 0 ≤ ((0 : Int32)).toInt ∧ ((0 : Int32)).toInt ≤ 10 from ⟨by first | omega | (simp (disch := omega) only [ti_add, ti_sub, b2t_, b2f_, li_0, li_1, li_17, li_m1]; omega), by first | omega | (simp (disch := omega) only [ti_add, ti_sub, b2t_, b2f_, li_0, li_1, li_17, li_m1]; omega)⟩)
  exact wp_some_i (by subst hQ; exact g_s_2)
set_option maxHeartbeats 1000000 in
set_option maxRecDepth 20000 in
theorem tX9_about (a1 : Int32) (s0 : Sg) (h0 : I9_ s0)  : wp_ (fX9_about a1 s0) (fun q => q.2 = s0) := by
  have g_s0 : G9_ s0 s0 := G9_.rf h0
  have hFU_ : FU = 1000000000 := rfl
  generalize hQ : (fun q : (Int32 × Sg) => q.2 = s0) = Q
  unfold fX9_about
  have L0_ := li_0
  have L1_ := li_1
  have L2_ := li_2
  have L3_ := li_3
  have L4_ := li_4
  have L5_ := li_5
  have L6_ := li_6
  have L7_ := li_7
  have L8_ := li_8
  have L9_ := li_9
  have L10_ := li_10
  have L11_ := li_11
  have L12_ := li_12
  have L13_ := li_13
  have L15_ := li_15
  have L17_ := li_17
  have L100_ := li_100
  have M1_ := li_m1
  have M100_ := li_m100
  refine wp_if_i (fun h_1_ => ?_) (fun h_1_ => ?_)
  · skip
    have j_2_ := eq_ti h_1_
    try simp (disch := omega) only [ti_add, ti_sub, b2t_, b2f_, li_0, li_1, li_2, li_3, li_4, li_5, li_6, li_7, li_8, li_9, li_10, li_11, li_12, li_13, li_15, li_17, li_100, li_m1, li_m100] at j_2_
    have b_3_ : 0 ≤ (gi s0 1 6).toInt ∧ (gi s0 1 6).toInt ≤ 12 := g_s0.1.1 1 6
    exact wp_some_i (by subst hQ; exact rfl)
  · skip
    have j_4_ := ne_ti h_1_
    try simp (disch := omega) only [ti_add, ti_sub, b2t_, b2f_, li_0, li_1, li_2, li_3, li_4, li_5, li_6, li_7, li_8, li_9, li_10, li_11, li_12, li_13, li_15, li_17, li_100, li_m1, li_m100] at j_4_
    refine wp_if_i (fun h_5_ => ?_) (fun h_5_ => ?_)
    · skip
      have j_6_ := eq_ti h_5_
      try simp (disch := omega) only [ti_add, ti_sub, b2t_, b2f_, li_0, li_1, li_2, li_3, li_4, li_5, li_6, li_7, li_8, li_9, li_10, li_11, li_12, li_13, li_15, li_17, li_100, li_m1, li_m100] at j_6_
      exact wp_some_i (by subst hQ; exact rfl)
    · skip
      have j_7_ := ne_ti h_5_
      try simp (disch := omega) only [ti_add, ti_sub, b2t_, b2f_, li_0, li_1, li_2, li_3, li_4, li_5, li_6, li_7, li_8, li_9, li_10, li_11, li_12, li_13, li_15, li_17, li_100, li_m1, li_m100] at j_7_
      refine wp_if_i (fun h_8_ => ?_) (fun h_8_ => ?_)
      · skip
        have j_9_ := eq_ti h_8_
        try simp (disch := omega) only [ti_add, ti_sub, b2t_, b2f_, li_0, li_1, li_2, li_3, li_4, li_5, li_6, li_7, li_8, li_9, li_10, li_11, li_12, li_13, li_15, li_17, li_100, li_m1, li_m100] at j_9_
        exact wp_some_i (by subst hQ; exact rfl)
      · skip
        have j_10_ := ne_ti h_8_
        try simp (disch := omega) only [ti_add, ti_sub, b2t_, b2f_, li_0, li_1, li_2, li_3, li_4, li_5, li_6, li_7, li_8, li_9, li_10, li_11, li_12, li_13, li_15, li_17, li_100, li_m1, li_m100] at j_10_
        refine wp_if_i (fun h_11_ => ?_) (fun h_11_ => ?_)
        · skip
          have j_12_ := eq_ti h_11_
          try simp (disch := omega) only [ti_add, ti_sub, b2t_, b2f_, li_0, li_1, li_2, li_3, li_4, li_5, li_6, li_7, li_8, li_9, li_10, li_11, li_12, li_13, li_15, li_17, li_100, li_m1, li_m100] at j_12_
          exact wp_some_i (by subst hQ; exact rfl)
        · skip
          have j_13_ := ne_ti h_11_
          try simp (disch := omega) only [ti_add, ti_sub, b2t_, b2f_, li_0, li_1, li_2, li_3, li_4, li_5, li_6, li_7, li_8, li_9, li_10, li_11, li_12, li_13, li_15, li_17, li_100, li_m1, li_m100] at j_13_
          refine wp_if_i (fun h_14_ => ?_) (fun h_14_ => ?_)
          · skip
            have j_15_ := eq_ti h_14_
            try simp (disch := omega) only [ti_add, ti_sub, b2t_, b2f_, li_0, li_1, li_2, li_3, li_4, li_5, li_6, li_7, li_8, li_9, li_10, li_11, li_12, li_13, li_15, li_17, li_100, li_m1, li_m100] at j_15_
            exact wp_some_i (by subst hQ; exact rfl)
          · skip
            have j_16_ := ne_ti h_14_
            try simp (disch := omega) only [ti_add, ti_sub, b2t_, b2f_, li_0, li_1, li_2, li_3, li_4, li_5, li_6, li_7, li_8, li_9, li_10, li_11, li_12, li_13, li_15, li_17, li_100, li_m1, li_m100] at j_16_
            refine wp_if_i (fun h_17_ => ?_) (fun h_17_ => ?_)
            · skip
              have j_18_ := eq_ti h_17_
              try simp (disch := omega) only [ti_add, ti_sub, b2t_, b2f_, li_0, li_1, li_2, li_3, li_4, li_5, li_6, li_7, li_8, li_9, li_10, li_11, li_12, li_13, li_15, li_17, li_100, li_m1, li_m100] at j_18_
              exact wp_some_i (by subst hQ; exact rfl)
            · skip
              have j_19_ := ne_ti h_17_
              try simp (disch := omega) only [ti_add, ti_sub, b2t_, b2f_, li_0, li_1, li_2, li_3, li_4, li_5, li_6, li_7, li_8, li_9, li_10, li_11, li_12, li_13, li_15, li_17, li_100, li_m1, li_m100] at j_19_
              refine wp_if_i (fun h_20_ => ?_) (fun h_20_ => ?_)
              · skip
                have j_21_ := eq_ti h_20_
                try simp (disch := omega) only [ti_add, ti_sub, b2t_, b2f_, li_0, li_1, li_2, li_3, li_4, li_5, li_6, li_7, li_8, li_9, li_10, li_11, li_12, li_13, li_15, li_17, li_100, li_m1, li_m100] at j_21_
                exact wp_some_i (by subst hQ; exact rfl)
              · skip
                have j_22_ := ne_ti h_20_
                try simp (disch := omega) only [ti_add, ti_sub, b2t_, b2f_, li_0, li_1, li_2, li_3, li_4, li_5, li_6, li_7, li_8, li_9, li_10, li_11, li_12, li_13, li_15, li_17, li_100, li_m1, li_m100] at j_22_
                refine wp_if_i (fun h_23_ => ?_) (fun h_23_ => ?_)
                · skip
                  have j_24_ := eq_ti h_23_
                  try simp (disch := omega) only [ti_add, ti_sub, b2t_, b2f_, li_0, li_1, li_2, li_3, li_4, li_5, li_6, li_7, li_8, li_9, li_10, li_11, li_12, li_13, li_15, li_17, li_100, li_m1, li_m100] at j_24_
                  have b_25_ : 0 ≤ (gi s0 1 11).toInt ∧ (gi s0 1 11).toInt ≤ 4 := g_s0.1.1 1 11
                  exact wp_some_i (by subst hQ; exact rfl)
                · skip
                  have j_26_ := ne_ti h_23_
                  try simp (disch := omega) only [ti_add, ti_sub, b2t_, b2f_, li_0, li_1, li_2, li_3, li_4, li_5, li_6, li_7, li_8, li_9, li_10, li_11, li_12, li_13, li_15, li_17, li_100, li_m1, li_m100] at j_26_
                  refine wp_if_i (fun h_27_ => ?_) (fun h_27_ => ?_)
                  · skip
                    have j_28_ := eq_ti h_27_
                    try simp (disch := omega) only [ti_add, ti_sub, b2t_, b2f_, li_0, li_1, li_2, li_3, li_4, li_5, li_6, li_7, li_8, li_9, li_10, li_11, li_12, li_13, li_15, li_17, li_100, li_m1, li_m100] at j_28_
                    exact wp_some_i (by subst hQ; exact rfl)
                  · skip
                    have j_29_ := ne_ti h_27_
                    try simp (disch := omega) only [ti_add, ti_sub, b2t_, b2f_, li_0, li_1, li_2, li_3, li_4, li_5, li_6, li_7, li_8, li_9, li_10, li_11, li_12, li_13, li_15, li_17, li_100, li_m1, li_m100] at j_29_
                    refine wp_if_i (fun h_30_ => ?_) (fun h_30_ => ?_)
                    · skip
                      have j_31_ := eq_ti h_30_
                      try simp (disch := omega) only [ti_add, ti_sub, b2t_, b2f_, li_0, li_1, li_2, li_3, li_4, li_5, li_6, li_7, li_8, li_9, li_10, li_11, li_12, li_13, li_15, li_17, li_100, li_m1, li_m100] at j_31_
                      have b_32_ : 0 ≤ (gi s0 1 15).toInt ∧ (gi s0 1 15).toInt ≤ 40 := g_s0.1.1 1 15
                      exact wp_some_i (by subst hQ; exact rfl)
                    · skip
                      have j_33_ := ne_ti h_30_
                      try simp (disch := omega) only [ti_add, ti_sub, b2t_, b2f_, li_0, li_1, li_2, li_3, li_4, li_5, li_6, li_7, li_8, li_9, li_10, li_11, li_12, li_13, li_15, li_17, li_100, li_m1, li_m100] at j_33_
                      refine wp_if_i (fun h_34_ => ?_) (fun h_34_ => ?_)
                      · skip
                        have j_35_ := eq_ti h_34_
                        try simp (disch := omega) only [ti_add, ti_sub, b2t_, b2f_, li_0, li_1, li_2, li_3, li_4, li_5, li_6, li_7, li_8, li_9, li_10, li_11, li_12, li_13, li_15, li_17, li_100, li_m1, li_m100] at j_35_
                        have b_36_ : 0 ≤ (gi s0 1 17).toInt ∧ (gi s0 1 17).toInt ≤ 10 := g_s0.1.1 1 17
                        exact wp_some_i (by subst hQ; exact rfl)
                      · skip
                        have j_37_ := ne_ti h_34_
                        try simp (disch := omega) only [ti_add, ti_sub, b2t_, b2f_, li_0, li_1, li_2, li_3, li_4, li_5, li_6, li_7, li_8, li_9, li_10, li_11, li_12, li_13, li_15, li_17, li_100, li_m1, li_m100] at j_37_
                        refine wp_if_i (fun h_38_ => ?_) (fun h_38_ => ?_)
                        · skip
                          have j_39_ := eq_ti h_38_
                          try simp (disch := omega) only [ti_add, ti_sub, b2t_, b2f_, li_0, li_1, li_2, li_3, li_4, li_5, li_6, li_7, li_8, li_9, li_10, li_11, li_12, li_13, li_15, li_17, li_100, li_m1, li_m100] at j_39_
                          have b_40_ : 0 ≤ (gi s0 3 1).toInt ∧ (gi s0 3 1).toInt ≤ 300 := g_s0.1.1 3 1
                          exact wp_some_i (by subst hQ; exact rfl)
                        · skip
                          have j_41_ := ne_ti h_38_
                          try simp (disch := omega) only [ti_add, ti_sub, b2t_, b2f_, li_0, li_1, li_2, li_3, li_4, li_5, li_6, li_7, li_8, li_9, li_10, li_11, li_12, li_13, li_15, li_17, li_100, li_m1, li_m100] at j_41_
                          refine wp_if_i (fun h_42_ => ?_) (fun h_42_ => ?_)
                          · skip
                            have j_43_ := eq_ti h_42_
                            try simp (disch := omega) only [ti_add, ti_sub, b2t_, b2f_, li_0, li_1, li_2, li_3, li_4, li_5, li_6, li_7, li_8, li_9, li_10, li_11, li_12, li_13, li_15, li_17, li_100, li_m1, li_m100] at j_43_
                            exact wp_some_i (by subst hQ; exact rfl)
                          · skip
                            have j_44_ := ne_ti h_42_
                            try simp (disch := omega) only [ti_add, ti_sub, b2t_, b2f_, li_0, li_1, li_2, li_3, li_4, li_5, li_6, li_7, li_8, li_9, li_10, li_11, li_12, li_13, li_15, li_17, li_100, li_m1, li_m100] at j_44_
                            refine wp_if_i (fun h_45_ => ?_) (fun h_45_ => ?_)
                            · skip
                              have j_46_ := eq_ti h_45_
                              try simp (disch := omega) only [ti_add, ti_sub, b2t_, b2f_, li_0, li_1, li_2, li_3, li_4, li_5, li_6, li_7, li_8, li_9, li_10, li_11, li_12, li_13, li_15, li_17, li_100, li_m1, li_m100] at j_46_
                              exact wp_some_i (by subst hQ; exact rfl)
                            · skip
                              have j_47_ := ne_ti h_45_
                              try simp (disch := omega) only [ti_add, ti_sub, b2t_, b2f_, li_0, li_1, li_2, li_3, li_4, li_5, li_6, li_7, li_8, li_9, li_10, li_11, li_12, li_13, li_15, li_17, li_100, li_m1, li_m100] at j_47_
                              exact wp_some_i (by subst hQ; exact rfl)
set_option maxHeartbeats 1000000 in
set_option maxRecDepth 20000 in
theorem tX9_beam (a1 : Int32) (a2 : Int32) (a3 : Int32) (s0 : Sg) (h0 : I9_ s0)  : wp_ (fX9_beam a1 a2 a3 s0) (fun q => G9_ s0 q.2) := by
  have g_s0 : G9_ s0 s0 := G9_.rf h0
  have hFU_ : FU = 1000000000 := rfl
  generalize hQ : (fun q : (Bool × Sg) => G9_ s0 q.2) = Q
  unfold fX9_beam
  have L0_ := li_0
  have L1_ := li_1
  have L2_ := li_2
  have L99_ := li_99
  have L9999_ := li_9999
  have M1_ := li_m1
  refine wp_bnd_i (tX9_within a1 1 99 s0 g_s0.1 ) (fun r_1 s_2 p_s_2 => ?_)
  have e_s_2 : s_2 = s0 := p_s_2.1
  have g_s_2 : G9_ s0 s_2 := by rw [e_s_2]; exact g_s0
  have f_s_2 := p_s_2.2
  try dsimp only at f_s_2
  try simp (disch := omega) only [ti_add, ti_sub, b2t_, b2f_, li_0, li_1, li_2, li_99, li_9999, li_m1] at f_s_2
  refine wp_if_i (fun h_1_ => ?_) (fun h_1_ => ?_)
  · skip
    have b_2_ := b2i_bd r_1
    have j_3_ := eq_ti h_1_
    try simp (disch := omega) only [ti_add, ti_sub, b2t_, b2f_, li_0, li_1, li_2, li_99, li_9999, li_m1] at j_3_
    exact wp_some_i (by subst hQ; exact g_s_2)
  · skip
    have b_4_ := b2i_bd r_1
    have j_5_ := ne_ti h_1_
    try simp (disch := omega) only [ti_add, ti_sub, b2t_, b2f_, li_0, li_1, li_2, li_99, li_9999, li_m1] at j_5_
    refine wp_bnd_i (tX9_within a2 1 99 s_2 g_s_2.1 ) (fun r_3 s_4 p_s_4 => ?_)
    have e_s_4 : s_4 = s_2 := p_s_4.1
    have g_s_4 : G9_ s0 s_4 := by rw [e_s_4]; exact g_s_2
    have f_s_4 := p_s_4.2
    try dsimp only at f_s_4
    try simp (disch := omega) only [ti_add, ti_sub, b2t_, b2f_, li_0, li_1, li_2, li_99, li_9999, li_m1] at f_s_4
    refine wp_if_i (fun h_6_ => ?_) (fun h_6_ => ?_)
    · skip
      have b_7_ := b2i_bd r_3
      have j_8_ := eq_ti h_6_
      try simp (disch := omega) only [ti_add, ti_sub, b2t_, b2f_, li_0, li_1, li_2, li_99, li_9999, li_m1] at j_8_
      exact wp_some_i (by subst hQ; exact g_s_4)
    · skip
      have b_9_ := b2i_bd r_3
      have j_10_ := ne_ti h_6_
      try simp (disch := omega) only [ti_add, ti_sub, b2t_, b2f_, li_0, li_1, li_2, li_99, li_9999, li_m1] at j_10_
      refine wp_bnd_i (tX9_within a3 0 9999 s_4 g_s_4.1 ) (fun r_5 s_6 p_s_6 => ?_)
      have e_s_6 : s_6 = s_4 := p_s_6.1
      have g_s_6 : G9_ s0 s_6 := by rw [e_s_6]; exact g_s_4
      have f_s_6 := p_s_6.2
      try dsimp only at f_s_6
      try simp (disch := omega) only [ti_add, ti_sub, b2t_, b2f_, li_0, li_1, li_2, li_99, li_9999, li_m1] at f_s_6
      refine wp_if_i (fun h_11_ => ?_) (fun h_11_ => ?_)
      · skip
        have b_12_ := b2i_bd r_5
        have j_13_ := eq_ti h_11_
        try simp (disch := omega) only [ti_add, ti_sub, b2t_, b2f_, li_0, li_1, li_2, li_99, li_9999, li_m1] at j_13_
        exact wp_some_i (by subst hQ; exact g_s_6)
      · skip
        have b_14_ := b2i_bd r_5
        have j_15_ := ne_ti h_11_
        try simp (disch := omega) only [ti_add, ti_sub, b2t_, b2f_, li_0, li_1, li_2, li_99, li_9999, li_m1] at j_15_
        apply wp_bv_i
        intro s_7 e_s_7
        have g_s_7 : G9_ s0 s_7 := by rw [e_s_7]; exact G9_.si g_s_6 (by first | decide | omega) trivial
        apply wp_bv_i
        intro s_8 e_s_8
        have g_s_8 : G9_ s0 s_8 := by rw [e_s_8]; exact G9_.si g_s_7 (by first | decide | omega) trivial
        apply wp_bv_i
        intro s_9 e_s_9
        have g_s_9 : G9_ s0 s_9 := by rw [e_s_9]; exact G9_.si g_s_8 (by first | decide | omega) trivial
        exact wp_some_i (by subst hQ; exact g_s_9)
set_option maxHeartbeats 1000000 in
set_option maxRecDepth 20000 in
theorem tX9_thing (a1 : Int32) (a2 : Int32) (s0 : Sg) (h0 : I9_ s0)  : wp_ (fX9_thing a1 a2 s0) (fun q => G9_ s0 q.2) := by
  have g_s0 : G9_ s0 s0 := G9_.rf h0
  have hFU_ : FU = 1000000000 := rfl
  generalize hQ : (fun q : (Int32 × Sg) => G9_ s0 q.2) = Q
  unfold fX9_thing
  have L0_ := li_0
  have L1_ := li_1
  have L6_ := li_6
  have L9_ := li_9
  have L10_ := li_10
  have L12_ := li_12
  have L999_ := li_999
  have M1_ := li_m1
  refine wp_bnd_i (tX9_within a1 1 999 s0 g_s0.1 ) (fun r_1 s_2 p_s_2 => ?_)
  have e_s_2 : s_2 = s0 := p_s_2.1
  have g_s_2 : G9_ s0 s_2 := by rw [e_s_2]; exact g_s0
  have f_s_2 := p_s_2.2
  try dsimp only at f_s_2
  try simp (disch := omega) only [ti_add, ti_sub, b2t_, b2f_, li_0, li_1, li_6, li_9, li_10, li_12, li_999, li_m1] at f_s_2
  refine wp_if_i (fun h_1_ => ?_) (fun h_1_ => ?_)
  · skip
    have b_2_ := b2i_bd r_1
    have j_3_ := eq_ti h_1_
    try simp (disch := omega) only [ti_add, ti_sub, b2t_, b2f_, li_0, li_1, li_6, li_9, li_10, li_12, li_999, li_m1] at j_3_
    exact wp_some_i (by subst hQ; exact g_s_2)
  · skip
    have b_4_ := b2i_bd r_1
    have j_5_ := ne_ti h_1_
    try simp (disch := omega) only [ti_add, ti_sub, b2t_, b2f_, li_0, li_1, li_6, li_9, li_10, li_12, li_999, li_m1] at j_5_
    refine wp_bnd_i (tX9_within a2 0 9 s_2 g_s_2.1 ) (fun r_3 s_4 p_s_4 => ?_)
    have e_s_4 : s_4 = s_2 := p_s_4.1
    have g_s_4 : G9_ s0 s_4 := by rw [e_s_4]; exact g_s_2
    have f_s_4 := p_s_4.2
    try dsimp only at f_s_4
    try simp (disch := omega) only [ti_add, ti_sub, b2t_, b2f_, li_0, li_1, li_6, li_9, li_10, li_12, li_999, li_m1] at f_s_4
    refine wp_if_i (fun h_6_ => ?_) (fun h_6_ => ?_)
    · skip
      have b_7_ := b2i_bd r_3
      have j_8_ := eq_ti h_6_
      try simp (disch := omega) only [ti_add, ti_sub, b2t_, b2f_, li_0, li_1, li_6, li_9, li_10, li_12, li_999, li_m1] at j_8_
      exact wp_some_i (by subst hQ; exact g_s_4)
    · skip
      have b_9_ := b2i_bd r_3
      have j_10_ := ne_ti h_6_
      try simp (disch := omega) only [ti_add, ti_sub, b2t_, b2f_, li_0, li_1, li_6, li_9, li_10, li_12, li_999, li_m1] at j_10_
      refine wp_if_i (fun h_11_ => ?_) (fun h_11_ => ?_)
      · skip
        have b_12_ : 0 ≤ (gi s0 1 6).toInt ∧ (gi s0 1 6).toInt ≤ 12 := g_s0.1.1 1 6
        have r_13_ : (gi s_2 1 6).toInt = (gi s0 1 6).toInt := by rw [e_s_2]
        have b_14_ : 0 ≤ (gi s_2 1 6).toInt ∧ (gi s_2 1 6).toInt ≤ 12 := g_s_2.1.1 1 6
        have r_15_ : (gi s_4 1 6).toInt = (gi s_2 1 6).toInt := by rw [e_s_4]
        have b_16_ : 0 ≤ (gi s_4 1 6).toInt ∧ (gi s_4 1 6).toInt ≤ 12 := g_s_4.1.1 1 6
        have j_17_ := lt_ti h_11_
        try simp (disch := omega) only [ti_add, ti_sub, b2t_, b2f_, li_0, li_1, li_6, li_9, li_10, li_12, li_999, li_m1] at j_17_
        apply wp_bv_i
        intro v_5 e_v_5
        have j_18_ := eq_ti e_v_5
        try simp (disch := omega) only [ti_add, ti_sub, b2t_, b2f_, li_0, li_1, li_6, li_9, li_10, li_12, li_999, li_m1] at j_18_
        refine wp_chk_i (inb_ti (by first | omega | (simp (disch := omega) only [ti_add, ti_sub, b2t_, b2f_, li_0, li_1, li_6, li_9, li_10, li_12, li_999, li_m1]; omega)) (by first | omega | (simp (disch := omega) only [ti_add, ti_sub, b2t_, b2f_, li_0, li_1, li_6, li_9, li_10, li_12, li_999, li_m1]; omega))) ?_
        apply wp_bv_i
        intro s_7 e_s_7
        have g_s_7 : G9_ s0 s_7 := by rw [e_s_7]; exact G9_.si g_s_4 (by first | decide | omega) trivial
        apply wp_bv_i
        intro s_8 e_s_8
        have g_s_8 : G9_ s0 s_8 := by rw [e_s_8]; exact G9_.si g_s_7 (by first | decide | omega) trivial
        apply wp_bv_i
        intro s_9 e_s_9
        have g_s_9 : G9_ s0 s_9 := by rw [e_s_9]; exact G9_.si g_s_8 (by first | decide | omega) (show 0 ≤ (((v_5 + 1) : Int32)).toInt ∧ (((v_5 + 1) : Int32)).toInt ≤ 12 from ⟨by first | omega | (simp (disch := omega) only [ti_add, ti_sub, b2t_, b2f_, li_0, li_1, li_6, li_9, li_10, li_12, li_999, li_m1]; omega), by first | omega | (simp (disch := omega) only [ti_add, ti_sub, b2t_, b2f_, li_0, li_1, li_6, li_9, li_10, li_12, li_999, li_m1]; omega)⟩)
        exact wp_some_i (by subst hQ; exact g_s_9)
      · skip
        have b_19_ : 0 ≤ (gi s0 1 6).toInt ∧ (gi s0 1 6).toInt ≤ 12 := g_s0.1.1 1 6
        have r_20_ : (gi s_2 1 6).toInt = (gi s0 1 6).toInt := by rw [e_s_2]
        have b_21_ : 0 ≤ (gi s_2 1 6).toInt ∧ (gi s_2 1 6).toInt ≤ 12 := g_s_2.1.1 1 6
        have r_22_ : (gi s_4 1 6).toInt = (gi s_2 1 6).toInt := by rw [e_s_4]
        have b_23_ : 0 ≤ (gi s_4 1 6).toInt ∧ (gi s_4 1 6).toInt ≤ 12 := g_s_4.1.1 1 6
        have j_24_ := nlt_ti h_11_
        try simp (disch := omega) only [ti_add, ti_sub, b2t_, b2f_, li_0, li_1, li_6, li_9, li_10, li_12, li_999, li_m1] at j_24_
        exact wp_some_i (by subst hQ; exact g_s_4)
set_option maxHeartbeats 1000000 in
set_option maxRecDepth 20000 in
theorem tX9_weather (a1 : Int32) (a2 : Int32) (a3 : Int32) (s0 : Sg) (h0 : I9_ s0)  : wp_ (fX9_weather a1 a2 a3 s0) (fun q => G9_ s0 q.2) := by
  have g_s0 : G9_ s0 s0 := G9_.rf h0
  have hFU_ : FU = 1000000000 := rfl
  generalize hQ : (fun q : (Bool × Sg) => G9_ s0 q.2) = Q
  unfold fX9_weather
  have L0_ := li_0
  have L1_ := li_1
  have L3_ := li_3
  have L4_ := li_4
  have L5_ := li_5
  have L9_ := li_9
  have L23_ := li_23
  have M1_ := li_m1
  have M9_ := li_m9
  refine wp_bnd_i (tX9_within a1 0 23 s0 g_s0.1 ) (fun r_1 s_2 p_s_2 => ?_)
  have e_s_2 : s_2 = s0 := p_s_2.1
  have g_s_2 : G9_ s0 s_2 := by rw [e_s_2]; exact g_s0
  have f_s_2 := p_s_2.2
  try dsimp only at f_s_2
  try simp (disch := omega) only [ti_add, ti_sub, b2t_, b2f_, li_0, li_1, li_3, li_4, li_5, li_9, li_23, li_m1, li_m9] at f_s_2
  refine wp_if_i (fun h_1_ => ?_) (fun h_1_ => ?_)
  · skip
    have b_2_ := b2i_bd r_1
    have j_3_ := eq_ti h_1_
    try simp (disch := omega) only [ti_add, ti_sub, b2t_, b2f_, li_0, li_1, li_3, li_4, li_5, li_9, li_23, li_m1, li_m9] at j_3_
    exact wp_some_i (by subst hQ; exact g_s_2)
  · skip
    have b_4_ := b2i_bd r_1
    have j_5_ := ne_ti h_1_
    try simp (disch := omega) only [ti_add, ti_sub, b2t_, b2f_, li_0, li_1, li_3, li_4, li_5, li_9, li_23, li_m1, li_m9] at j_5_
    refine wp_bnd_i (tX9_within a2 0 9 s_2 g_s_2.1 ) (fun r_3 s_4 p_s_4 => ?_)
    have e_s_4 : s_4 = s_2 := p_s_4.1
    have g_s_4 : G9_ s0 s_4 := by rw [e_s_4]; exact g_s_2
    have f_s_4 := p_s_4.2
    try dsimp only at f_s_4
    try simp (disch := omega) only [ti_add, ti_sub, b2t_, b2f_, li_0, li_1, li_3, li_4, li_5, li_9, li_23, li_m1, li_m9] at f_s_4
    refine wp_if_i (fun h_6_ => ?_) (fun h_6_ => ?_)
    · skip
      have b_7_ := b2i_bd r_3
      have j_8_ := eq_ti h_6_
      try simp (disch := omega) only [ti_add, ti_sub, b2t_, b2f_, li_0, li_1, li_3, li_4, li_5, li_9, li_23, li_m1, li_m9] at j_8_
      exact wp_some_i (by subst hQ; exact g_s_4)
    · skip
      have b_9_ := b2i_bd r_3
      have j_10_ := ne_ti h_6_
      try simp (disch := omega) only [ti_add, ti_sub, b2t_, b2f_, li_0, li_1, li_3, li_4, li_5, li_9, li_23, li_m1, li_m9] at j_10_
      refine wp_bnd_i (tX9_within a3 (-9) 9 s_4 g_s_4.1 ) (fun r_5 s_6 p_s_6 => ?_)
      have e_s_6 : s_6 = s_4 := p_s_6.1
      have g_s_6 : G9_ s0 s_6 := by rw [e_s_6]; exact g_s_4
      have f_s_6 := p_s_6.2
      try dsimp only at f_s_6
      try simp (disch := omega) only [ti_add, ti_sub, b2t_, b2f_, li_0, li_1, li_3, li_4, li_5, li_9, li_23, li_m1, li_m9] at f_s_6
      refine wp_if_i (fun h_11_ => ?_) (fun h_11_ => ?_)
      · skip
        have b_12_ := b2i_bd r_5
        have j_13_ := eq_ti h_11_
        try simp (disch := omega) only [ti_add, ti_sub, b2t_, b2f_, li_0, li_1, li_3, li_4, li_5, li_9, li_23, li_m1, li_m9] at j_13_
        exact wp_some_i (by subst hQ; exact g_s_6)
      · skip
        have b_14_ := b2i_bd r_5
        have j_15_ := ne_ti h_11_
        try simp (disch := omega) only [ti_add, ti_sub, b2t_, b2f_, li_0, li_1, li_3, li_4, li_5, li_9, li_23, li_m1, li_m9] at j_15_
        apply wp_bv_i
        intro s_7 e_s_7
        have g_s_7 : G9_ s0 s_7 := by rw [e_s_7]; exact G9_.si g_s_6 (by first | decide | omega) trivial
        apply wp_bv_i
        intro s_8 e_s_8
        have g_s_8 : G9_ s0 s_8 := by rw [e_s_8]; exact G9_.si g_s_7 (by first | decide | omega) trivial
        apply wp_bv_i
        intro s_9 e_s_9
        have g_s_9 : G9_ s0 s_9 := by rw [e_s_9]; exact G9_.si g_s_8 (by first | decide | omega) trivial
        exact wp_some_i (by subst hQ; exact g_s_9)
set_option maxHeartbeats 1000000 in
set_option maxRecDepth 20000 in
theorem tX9_end (a1 : Int32) (s0 : Sg) (h0 : I9_ s0)  : wp_ (fX9_end a1 s0) (fun q => G9_ s0 q.2) := by
  have g_s0 : G9_ s0 s0 := G9_.rf h0
  have hFU_ : FU = 1000000000 := rfl
  generalize hQ : (fun q : (Int32 × Sg) => G9_ s0 q.2) = Q
  unfold fX9_end
  have L0_ := li_0
  have L1_ := li_1
  have L3_ := li_3
  have M1_ := li_m1
  have b_1_ : 0 ≤ (gi s0 3 1).toInt ∧ (gi s0 3 1).toInt ≤ 300 := g_s0.1.1 3 1
  refine wp_bnd_i (tX9_within a1 0 (gi s0 3 1) s0 g_s0.1 ) (fun r_1 s_2 p_s_2 => ?_)
  have e_s_2 : s_2 = s0 := p_s_2.1
  have g_s_2 : G9_ s0 s_2 := by rw [e_s_2]; exact g_s0
  have f_s_2 := p_s_2.2
  try dsimp only at f_s_2
  try simp (disch := omega) only [ti_add, ti_sub, b2t_, b2f_, li_0, li_1, li_3, li_m1] at f_s_2
  refine wp_if_i (fun h_2_ => ?_) (fun h_2_ => ?_)
  · skip
    have b_3_ := b2i_bd r_1
    have j_4_ := eq_ti h_2_
    try simp (disch := omega) only [ti_add, ti_sub, b2t_, b2f_, li_0, li_1, li_3, li_m1] at j_4_
    exact wp_some_i (by subst hQ; exact g_s_2)
  · skip
    have b_5_ := b2i_bd r_1
    have j_6_ := ne_ti h_2_
    try simp (disch := omega) only [ti_add, ti_sub, b2t_, b2f_, li_0, li_1, li_3, li_m1] at j_6_
    apply wp_bv_i
    intro s_3 e_s_3
    have g_s_3 : G9_ s0 s_3 := by rw [e_s_3]; exact G9_.si g_s_2 (by first | decide | omega) (show 0 ≤ ((a1 : Int32)).toInt ∧ ((a1 : Int32)).toInt ≤ 300 from ⟨by first | omega | (simp (disch := omega) only [ti_add, ti_sub, b2t_, b2f_, li_0, li_1, li_3, li_m1]; omega), by first | omega | (simp (disch := omega) only [ti_add, ti_sub, b2t_, b2f_, li_0, li_1, li_3, li_m1]; omega)⟩)
    exact wp_some_i (by subst hQ; exact g_s_3)
set_option maxHeartbeats 1000000 in
set_option maxRecDepth 20000 in
theorem tX6_panOf (a1 : Int32) (s0 : Sg) (h0 : I9_ s0)  : wp_ (fX6_panOf a1 s0) (fun q => q.2 = s0) := by
  have g_s0 : G9_ s0 s0 := G9_.rf h0
  have hFU_ : FU = 1000000000 := rfl
  generalize hQ : (fun q : (Int32 × Sg) => q.2 = s0) = Q
  unfold fX6_panOf
  have L0_ := li_0
  have L1_ := li_1
  have L6_ := li_6
  have L9_ := li_9
  have L10_ := li_10
  have L31_ := li_31
  have M1_ := li_m1
  have b_1_ : 0 ≤ (gi s0 1 6).toInt ∧ (gi s0 1 6).toInt ≤ 12 := g_s0.1.1 1 6
  refine wp_bnd_i (tX9_within a1 0 ((gi s0 1 6) - 1) s0 g_s0.1 ) (fun r_1 s_2 p_s_2 => ?_)
  have e_s_2 : s_2 = s0 := p_s_2.1
  have g_s_2 : G9_ s0 s_2 := by rw [e_s_2]; exact g_s0
  have f_s_2 := p_s_2.2
  try dsimp only at f_s_2
  try simp (disch := omega) only [ti_add, ti_sub, b2t_, b2f_, li_0, li_1, li_6, li_9, li_10, li_31, li_m1] at f_s_2
  refine wp_if_i (fun h_2_ => ?_) (fun h_2_ => ?_)
  · skip
    have b_3_ := b2i_bd r_1
    have j_4_ := eq_ti h_2_
    try simp (disch := omega) only [ti_add, ti_sub, b2t_, b2f_, li_0, li_1, li_6, li_9, li_10, li_31, li_m1] at j_4_
    exact wp_some_i (by subst hQ; exact (by rw [e_s_2]))
  · skip
    have b_5_ := b2i_bd r_1
    have j_6_ := ne_ti h_2_
    try simp (disch := omega) only [ti_add, ti_sub, b2t_, b2f_, li_0, li_1, li_6, li_9, li_10, li_31, li_m1] at j_6_
    refine wp_if_i (fun h_7_ => ?_) (fun h_7_ => ?_)
    · skip
      have j_8_ := eq_ti h_7_
      try simp (disch := omega) only [ti_add, ti_sub, b2t_, b2f_, li_0, li_1, li_6, li_9, li_10, li_31, li_m1] at j_8_
      exact wp_some_i (by subst hQ; exact (by rw [e_s_2]))
    · skip
      have j_9_ := ne_ti h_7_
      try simp (disch := omega) only [ti_add, ti_sub, b2t_, b2f_, li_0, li_1, li_6, li_9, li_10, li_31, li_m1] at j_9_
      refine wp_if_i (fun h_10_ => ?_) (fun h_10_ => ?_)
      · skip
        have j_11_ := eq_ti h_10_
        try simp (disch := omega) only [ti_add, ti_sub, b2t_, b2f_, li_0, li_1, li_6, li_9, li_10, li_31, li_m1] at j_11_
        exact wp_some_i (by subst hQ; exact (by rw [e_s_2]))
      · skip
        have j_12_ := ne_ti h_10_
        try simp (disch := omega) only [ti_add, ti_sub, b2t_, b2f_, li_0, li_1, li_6, li_9, li_10, li_31, li_m1] at j_12_
        exact wp_some_i (by subst hQ; exact (by rw [e_s_2]))
set_option maxHeartbeats 1000000 in
set_option maxRecDepth 20000 in
theorem tX7_signToken (a1 : Int32) (a2 : Int32) (s0 : Sg) (h0 : I9_ s0)  : wp_ (fX7_signToken a1 a2 s0) (fun q => q.2 = s0 ∧ (0 ≤ q.1.toInt ∧ q.1.toInt ≤ 36)) := by
  have g_s0 : R9_ s0 s0 := R9_.rf h0
  have hFU_ : FU = 1000000000 := rfl
  generalize hQ : (fun q : (Int32 × Sg) => q.2 = s0 ∧ (0 ≤ q.1.toInt ∧ q.1.toInt ≤ 36)) = Q
  unfold fX7_signToken
  have L0_ := li_0
  have L1_ := li_1
  have L4_ := li_4
  have L5_ := li_5
  have L6_ := li_6
  have L7_ := li_7
  have L8_ := li_8
  have L9_ := li_9
  have L10_ := li_10
  have L11_ := li_11
  have L12_ := li_12
  have L13_ := li_13
  have L15_ := li_15
  have L16_ := li_16
  have L25_ := li_25
  have L35_ := li_35
  have L40_ := li_40
  have L41_ := li_41
  have L42_ := li_42
  have L43_ := li_43
  have L45_ := li_45
  have L47_ := li_47
  have L59_ := li_59
  have L60_ := li_60
  have L61_ := li_61
  have L62_ := li_62
  have M1_ := li_m1
  refine wp_if_i (fun h_1_ => ?_) (fun h_1_ => ?_)
  · skip
    have j_2_ := eq_ti h_1_
    try simp (disch := omega) only [ti_add, ti_sub, b2t_, b2f_, li_0, li_1, li_4, li_5, li_6, li_7, li_8, li_9, li_10, li_11, li_12, li_13, li_15, li_16, li_25, li_35, li_40, li_41, li_42, li_43, li_45, li_47, li_59, li_60, li_61, li_62, li_m1] at j_2_
    exact wp_some_i (by subst hQ; exact ⟨rfl, ⟨by first | omega | (simp (disch := omega) only [ti_add, ti_sub, b2t_, b2f_, li_0, li_1, li_4, li_5, li_6, li_7, li_8, li_9, li_10, li_11, li_12, li_13, li_15, li_16, li_25, li_35, li_40, li_41, li_42, li_43, li_45, li_47, li_59, li_60, li_61, li_62, li_m1]; omega), by first | omega | (simp (disch := omega) only [ti_add, ti_sub, b2t_, b2f_, li_0, li_1, li_4, li_5, li_6, li_7, li_8, li_9, li_10, li_11, li_12, li_13, li_15, li_16, li_25, li_35, li_40, li_41, li_42, li_43, li_45, li_47, li_59, li_60, li_61, li_62, li_m1]; omega)⟩⟩)
  · skip
    have j_3_ := ne_ti h_1_
    try simp (disch := omega) only [ti_add, ti_sub, b2t_, b2f_, li_0, li_1, li_4, li_5, li_6, li_7, li_8, li_9, li_10, li_11, li_12, li_13, li_15, li_16, li_25, li_35, li_40, li_41, li_42, li_43, li_45, li_47, li_59, li_60, li_61, li_62, li_m1] at j_3_
    refine wp_if_i (fun h_4_ => ?_) (fun h_4_ => ?_)
    · skip
      have j_5_ := eq_ti h_4_
      try simp (disch := omega) only [ti_add, ti_sub, b2t_, b2f_, li_0, li_1, li_4, li_5, li_6, li_7, li_8, li_9, li_10, li_11, li_12, li_13, li_15, li_16, li_25, li_35, li_40, li_41, li_42, li_43, li_45, li_47, li_59, li_60, li_61, li_62, li_m1] at j_5_
      exact wp_some_i (by subst hQ; exact ⟨rfl, ⟨by first | omega | (simp (disch := omega) only [ti_add, ti_sub, b2t_, b2f_, li_0, li_1, li_4, li_5, li_6, li_7, li_8, li_9, li_10, li_11, li_12, li_13, li_15, li_16, li_25, li_35, li_40, li_41, li_42, li_43, li_45, li_47, li_59, li_60, li_61, li_62, li_m1]; omega), by first | omega | (simp (disch := omega) only [ti_add, ti_sub, b2t_, b2f_, li_0, li_1, li_4, li_5, li_6, li_7, li_8, li_9, li_10, li_11, li_12, li_13, li_15, li_16, li_25, li_35, li_40, li_41, li_42, li_43, li_45, li_47, li_59, li_60, li_61, li_62, li_m1]; omega)⟩⟩)
    · skip
      have j_6_ := ne_ti h_4_
      try simp (disch := omega) only [ti_add, ti_sub, b2t_, b2f_, li_0, li_1, li_4, li_5, li_6, li_7, li_8, li_9, li_10, li_11, li_12, li_13, li_15, li_16, li_25, li_35, li_40, li_41, li_42, li_43, li_45, li_47, li_59, li_60, li_61, li_62, li_m1] at j_6_
      refine wp_if_i (fun h_7_ => ?_) (fun h_7_ => ?_)
      · skip
        have j_8_ := eq_ti h_7_
        try simp (disch := omega) only [ti_add, ti_sub, b2t_, b2f_, li_0, li_1, li_4, li_5, li_6, li_7, li_8, li_9, li_10, li_11, li_12, li_13, li_15, li_16, li_25, li_35, li_40, li_41, li_42, li_43, li_45, li_47, li_59, li_60, li_61, li_62, li_m1] at j_8_
        exact wp_some_i (by subst hQ; exact ⟨rfl, ⟨by first | omega | (simp (disch := omega) only [ti_add, ti_sub, b2t_, b2f_, li_0, li_1, li_4, li_5, li_6, li_7, li_8, li_9, li_10, li_11, li_12, li_13, li_15, li_16, li_25, li_35, li_40, li_41, li_42, li_43, li_45, li_47, li_59, li_60, li_61, li_62, li_m1]; omega), by first | omega | (simp (disch := omega) only [ti_add, ti_sub, b2t_, b2f_, li_0, li_1, li_4, li_5, li_6, li_7, li_8, li_9, li_10, li_11, li_12, li_13, li_15, li_16, li_25, li_35, li_40, li_41, li_42, li_43, li_45, li_47, li_59, li_60, li_61, li_62, li_m1]; omega)⟩⟩)
      · skip
        have j_9_ := ne_ti h_7_
        try simp (disch := omega) only [ti_add, ti_sub, b2t_, b2f_, li_0, li_1, li_4, li_5, li_6, li_7, li_8, li_9, li_10, li_11, li_12, li_13, li_15, li_16, li_25, li_35, li_40, li_41, li_42, li_43, li_45, li_47, li_59, li_60, li_61, li_62, li_m1] at j_9_
        refine wp_if_i (fun h_10_ => ?_) (fun h_10_ => ?_)
        · skip
          have j_11_ := eq_ti h_10_
          try simp (disch := omega) only [ti_add, ti_sub, b2t_, b2f_, li_0, li_1, li_4, li_5, li_6, li_7, li_8, li_9, li_10, li_11, li_12, li_13, li_15, li_16, li_25, li_35, li_40, li_41, li_42, li_43, li_45, li_47, li_59, li_60, li_61, li_62, li_m1] at j_11_
          exact wp_some_i (by subst hQ; exact ⟨rfl, ⟨by first | omega | (simp (disch := omega) only [ti_add, ti_sub, b2t_, b2f_, li_0, li_1, li_4, li_5, li_6, li_7, li_8, li_9, li_10, li_11, li_12, li_13, li_15, li_16, li_25, li_35, li_40, li_41, li_42, li_43, li_45, li_47, li_59, li_60, li_61, li_62, li_m1]; omega), by first | omega | (simp (disch := omega) only [ti_add, ti_sub, b2t_, b2f_, li_0, li_1, li_4, li_5, li_6, li_7, li_8, li_9, li_10, li_11, li_12, li_13, li_15, li_16, li_25, li_35, li_40, li_41, li_42, li_43, li_45, li_47, li_59, li_60, li_61, li_62, li_m1]; omega)⟩⟩)
        · skip
          have j_12_ := ne_ti h_10_
          try simp (disch := omega) only [ti_add, ti_sub, b2t_, b2f_, li_0, li_1, li_4, li_5, li_6, li_7, li_8, li_9, li_10, li_11, li_12, li_13, li_15, li_16, li_25, li_35, li_40, li_41, li_42, li_43, li_45, li_47, li_59, li_60, li_61, li_62, li_m1] at j_12_
          refine wp_if_i (fun h_13_ => ?_) (fun h_13_ => ?_)
          · skip
            have j_14_ := eq_ti h_13_
            try simp (disch := omega) only [ti_add, ti_sub, b2t_, b2f_, li_0, li_1, li_4, li_5, li_6, li_7, li_8, li_9, li_10, li_11, li_12, li_13, li_15, li_16, li_25, li_35, li_40, li_41, li_42, li_43, li_45, li_47, li_59, li_60, li_61, li_62, li_m1] at j_14_
            exact wp_some_i (by subst hQ; exact ⟨rfl, ⟨by first | omega | (simp (disch := omega) only [ti_add, ti_sub, b2t_, b2f_, li_0, li_1, li_4, li_5, li_6, li_7, li_8, li_9, li_10, li_11, li_12, li_13, li_15, li_16, li_25, li_35, li_40, li_41, li_42, li_43, li_45, li_47, li_59, li_60, li_61, li_62, li_m1]; omega), by first | omega | (simp (disch := omega) only [ti_add, ti_sub, b2t_, b2f_, li_0, li_1, li_4, li_5, li_6, li_7, li_8, li_9, li_10, li_11, li_12, li_13, li_15, li_16, li_25, li_35, li_40, li_41, li_42, li_43, li_45, li_47, li_59, li_60, li_61, li_62, li_m1]; omega)⟩⟩)
          · skip
            have j_15_ := ne_ti h_13_
            try simp (disch := omega) only [ti_add, ti_sub, b2t_, b2f_, li_0, li_1, li_4, li_5, li_6, li_7, li_8, li_9, li_10, li_11, li_12, li_13, li_15, li_16, li_25, li_35, li_40, li_41, li_42, li_43, li_45, li_47, li_59, li_60, li_61, li_62, li_m1] at j_15_
            refine wp_if_i (fun h_16_ => ?_) (fun h_16_ => ?_)
            · skip
              have j_17_ := eq_ti h_16_
              try simp (disch := omega) only [ti_add, ti_sub, b2t_, b2f_, li_0, li_1, li_4, li_5, li_6, li_7, li_8, li_9, li_10, li_11, li_12, li_13, li_15, li_16, li_25, li_35, li_40, li_41, li_42, li_43, li_45, li_47, li_59, li_60, li_61, li_62, li_m1] at j_17_
              exact wp_some_i (by subst hQ; exact ⟨rfl, ⟨by first | omega | (simp (disch := omega) only [ti_add, ti_sub, b2t_, b2f_, li_0, li_1, li_4, li_5, li_6, li_7, li_8, li_9, li_10, li_11, li_12, li_13, li_15, li_16, li_25, li_35, li_40, li_41, li_42, li_43, li_45, li_47, li_59, li_60, li_61, li_62, li_m1]; omega), by first | omega | (simp (disch := omega) only [ti_add, ti_sub, b2t_, b2f_, li_0, li_1, li_4, li_5, li_6, li_7, li_8, li_9, li_10, li_11, li_12, li_13, li_15, li_16, li_25, li_35, li_40, li_41, li_42, li_43, li_45, li_47, li_59, li_60, li_61, li_62, li_m1]; omega)⟩⟩)
            · skip
              have j_18_ := ne_ti h_16_
              try simp (disch := omega) only [ti_add, ti_sub, b2t_, b2f_, li_0, li_1, li_4, li_5, li_6, li_7, li_8, li_9, li_10, li_11, li_12, li_13, li_15, li_16, li_25, li_35, li_40, li_41, li_42, li_43, li_45, li_47, li_59, li_60, li_61, li_62, li_m1] at j_18_
              refine wp_if_i (fun h_19_ => ?_) (fun h_19_ => ?_)
              · skip
                have j_20_ := eq_ti h_19_
                try simp (disch := omega) only [ti_add, ti_sub, b2t_, b2f_, li_0, li_1, li_4, li_5, li_6, li_7, li_8, li_9, li_10, li_11, li_12, li_13, li_15, li_16, li_25, li_35, li_40, li_41, li_42, li_43, li_45, li_47, li_59, li_60, li_61, li_62, li_m1] at j_20_
                exact wp_some_i (by subst hQ; exact ⟨rfl, ⟨by first | omega | (simp (disch := omega) only [ti_add, ti_sub, b2t_, b2f_, li_0, li_1, li_4, li_5, li_6, li_7, li_8, li_9, li_10, li_11, li_12, li_13, li_15, li_16, li_25, li_35, li_40, li_41, li_42, li_43, li_45, li_47, li_59, li_60, li_61, li_62, li_m1]; omega), by first | omega | (simp (disch := omega) only [ti_add, ti_sub, b2t_, b2f_, li_0, li_1, li_4, li_5, li_6, li_7, li_8, li_9, li_10, li_11, li_12, li_13, li_15, li_16, li_25, li_35, li_40, li_41, li_42, li_43, li_45, li_47, li_59, li_60, li_61, li_62, li_m1]; omega)⟩⟩)
              · skip
                have j_21_ := ne_ti h_19_
                try simp (disch := omega) only [ti_add, ti_sub, b2t_, b2f_, li_0, li_1, li_4, li_5, li_6, li_7, li_8, li_9, li_10, li_11, li_12, li_13, li_15, li_16, li_25, li_35, li_40, li_41, li_42, li_43, li_45, li_47, li_59, li_60, li_61, li_62, li_m1] at j_21_
                refine wp_if_i (fun h_22_ => ?_) (fun h_22_ => ?_)
                · skip
                  have j_23_ := eq_ti h_22_
                  try simp (disch := omega) only [ti_add, ti_sub, b2t_, b2f_, li_0, li_1, li_4, li_5, li_6, li_7, li_8, li_9, li_10, li_11, li_12, li_13, li_15, li_16, li_25, li_35, li_40, li_41, li_42, li_43, li_45, li_47, li_59, li_60, li_61, li_62, li_m1] at j_23_
                  exact wp_some_i (by subst hQ; exact ⟨rfl, ⟨by first | omega | (simp (disch := omega) only [ti_add, ti_sub, b2t_, b2f_, li_0, li_1, li_4, li_5, li_6, li_7, li_8, li_9, li_10, li_11, li_12, li_13, li_15, li_16, li_25, li_35, li_40, li_41, li_42, li_43, li_45, li_47, li_59, li_60, li_61, li_62, li_m1]; omega), by first | omega | (simp (disch := omega) only [ti_add, ti_sub, b2t_, b2f_, li_0, li_1, li_4, li_5, li_6, li_7, li_8, li_9, li_10, li_11, li_12, li_13, li_15, li_16, li_25, li_35, li_40, li_41, li_42, li_43, li_45, li_47, li_59, li_60, li_61, li_62, li_m1]; omega)⟩⟩)
                · skip
                  have j_24_ := ne_ti h_22_
                  try simp (disch := omega) only [ti_add, ti_sub, b2t_, b2f_, li_0, li_1, li_4, li_5, li_6, li_7, li_8, li_9, li_10, li_11, li_12, li_13, li_15, li_16, li_25, li_35, li_40, li_41, li_42, li_43, li_45, li_47, li_59, li_60, li_61, li_62, li_m1] at j_24_
                  refine wp_if_i (fun h_25_ => ?_) (fun h_25_ => ?_)
                  · skip
                    have j_26_ := eq_ti h_25_
                    try simp (disch := omega) only [ti_add, ti_sub, b2t_, b2f_, li_0, li_1, li_4, li_5, li_6, li_7, li_8, li_9, li_10, li_11, li_12, li_13, li_15, li_16, li_25, li_35, li_40, li_41, li_42, li_43, li_45, li_47, li_59, li_60, li_61, li_62, li_m1] at j_26_
                    refine wp_if_i (fun h_27_ => ?_) (fun h_27_ => ?_)
                    · skip
                      have j_28_ := eq_ti h_27_
                      try simp (disch := omega) only [ti_add, ti_sub, b2t_, b2f_, li_0, li_1, li_4, li_5, li_6, li_7, li_8, li_9, li_10, li_11, li_12, li_13, li_15, li_16, li_25, li_35, li_40, li_41, li_42, li_43, li_45, li_47, li_59, li_60, li_61, li_62, li_m1] at j_28_
                      exact wp_some_i (by subst hQ; exact ⟨rfl, ⟨by first | omega | (simp (disch := omega) only [ti_add, ti_sub, b2t_, b2f_, li_0, li_1, li_4, li_5, li_6, li_7, li_8, li_9, li_10, li_11, li_12, li_13, li_15, li_16, li_25, li_35, li_40, li_41, li_42, li_43, li_45, li_47, li_59, li_60, li_61, li_62, li_m1]; omega), by first | omega | (simp (disch := omega) only [ti_add, ti_sub, b2t_, b2f_, li_0, li_1, li_4, li_5, li_6, li_7, li_8, li_9, li_10, li_11, li_12, li_13, li_15, li_16, li_25, li_35, li_40, li_41, li_42, li_43, li_45, li_47, li_59, li_60, li_61, li_62, li_m1]; omega)⟩⟩)
                    · skip
                      have j_29_ := ne_ti h_27_
                      try simp (disch := omega) only [ti_add, ti_sub, b2t_, b2f_, li_0, li_1, li_4, li_5, li_6, li_7, li_8, li_9, li_10, li_11, li_12, li_13, li_15, li_16, li_25, li_35, li_40, li_41, li_42, li_43, li_45, li_47, li_59, li_60, li_61, li_62, li_m1] at j_29_
                      exact wp_some_i (by subst hQ; exact ⟨rfl, ⟨by first | omega | (simp (disch := omega) only [ti_add, ti_sub, b2t_, b2f_, li_0, li_1, li_4, li_5, li_6, li_7, li_8, li_9, li_10, li_11, li_12, li_13, li_15, li_16, li_25, li_35, li_40, li_41, li_42, li_43, li_45, li_47, li_59, li_60, li_61, li_62, li_m1]; omega), by first | omega | (simp (disch := omega) only [ti_add, ti_sub, b2t_, b2f_, li_0, li_1, li_4, li_5, li_6, li_7, li_8, li_9, li_10, li_11, li_12, li_13, li_15, li_16, li_25, li_35, li_40, li_41, li_42, li_43, li_45, li_47, li_59, li_60, li_61, li_62, li_m1]; omega)⟩⟩)
                  · skip
                    have j_30_ := ne_ti h_25_
                    try simp (disch := omega) only [ti_add, ti_sub, b2t_, b2f_, li_0, li_1, li_4, li_5, li_6, li_7, li_8, li_9, li_10, li_11, li_12, li_13, li_15, li_16, li_25, li_35, li_40, li_41, li_42, li_43, li_45, li_47, li_59, li_60, li_61, li_62, li_m1] at j_30_
                    refine wp_if_i (fun h_31_ => ?_) (fun h_31_ => ?_)
                    · skip
                      have j_32_ := eq_ti h_31_
                      try simp (disch := omega) only [ti_add, ti_sub, b2t_, b2f_, li_0, li_1, li_4, li_5, li_6, li_7, li_8, li_9, li_10, li_11, li_12, li_13, li_15, li_16, li_25, li_35, li_40, li_41, li_42, li_43, li_45, li_47, li_59, li_60, li_61, li_62, li_m1] at j_32_
                      exact wp_some_i (by subst hQ; exact ⟨rfl, ⟨by first | omega | (simp (disch := omega) only [ti_add, ti_sub, b2t_, b2f_, li_0, li_1, li_4, li_5, li_6, li_7, li_8, li_9, li_10, li_11, li_12, li_13, li_15, li_16, li_25, li_35, li_40, li_41, li_42, li_43, li_45, li_47, li_59, li_60, li_61, li_62, li_m1]; omega), by first | omega | (simp (disch := omega) only [ti_add, ti_sub, b2t_, b2f_, li_0, li_1, li_4, li_5, li_6, li_7, li_8, li_9, li_10, li_11, li_12, li_13, li_15, li_16, li_25, li_35, li_40, li_41, li_42, li_43, li_45, li_47, li_59, li_60, li_61, li_62, li_m1]; omega)⟩⟩)
                    · skip
                      have j_33_ := ne_ti h_31_
                      try simp (disch := omega) only [ti_add, ti_sub, b2t_, b2f_, li_0, li_1, li_4, li_5, li_6, li_7, li_8, li_9, li_10, li_11, li_12, li_13, li_15, li_16, li_25, li_35, li_40, li_41, li_42, li_43, li_45, li_47, li_59, li_60, li_61, li_62, li_m1] at j_33_
                      refine wp_if_i (fun h_34_ => ?_) (fun h_34_ => ?_)
                      · skip
                        have j_35_ := eq_ti h_34_
                        try simp (disch := omega) only [ti_add, ti_sub, b2t_, b2f_, li_0, li_1, li_4, li_5, li_6, li_7, li_8, li_9, li_10, li_11, li_12, li_13, li_15, li_16, li_25, li_35, li_40, li_41, li_42, li_43, li_45, li_47, li_59, li_60, li_61, li_62, li_m1] at j_35_
                        refine wp_if_i (fun h_36_ => ?_) (fun h_36_ => ?_)
                        · skip
                          have j_37_ := eq_ti h_36_
                          try simp (disch := omega) only [ti_add, ti_sub, b2t_, b2f_, li_0, li_1, li_4, li_5, li_6, li_7, li_8, li_9, li_10, li_11, li_12, li_13, li_15, li_16, li_25, li_35, li_40, li_41, li_42, li_43, li_45, li_47, li_59, li_60, li_61, li_62, li_m1] at j_37_
                          exact wp_some_i (by subst hQ; exact ⟨rfl, ⟨by first | omega | (simp (disch := omega) only [ti_add, ti_sub, b2t_, b2f_, li_0, li_1, li_4, li_5, li_6, li_7, li_8, li_9, li_10, li_11, li_12, li_13, li_15, li_16, li_25, li_35, li_40, li_41, li_42, li_43, li_45, li_47, li_59, li_60, li_61, li_62, li_m1]; omega), by first | omega | (simp (disch := omega) only [ti_add, ti_sub, b2t_, b2f_, li_0, li_1, li_4, li_5, li_6, li_7, li_8, li_9, li_10, li_11, li_12, li_13, li_15, li_16, li_25, li_35, li_40, li_41, li_42, li_43, li_45, li_47, li_59, li_60, li_61, li_62, li_m1]; omega)⟩⟩)
                        · skip
                          have j_38_ := ne_ti h_36_
                          try simp (disch := omega) only [ti_add, ti_sub, b2t_, b2f_, li_0, li_1, li_4, li_5, li_6, li_7, li_8, li_9, li_10, li_11, li_12, li_13, li_15, li_16, li_25, li_35, li_40, li_41, li_42, li_43, li_45, li_47, li_59, li_60, li_61, li_62, li_m1] at j_38_
                          exact wp_some_i (by subst hQ; exact ⟨rfl, ⟨by first | omega | (simp (disch := omega) only [ti_add, ti_sub, b2t_, b2f_, li_0, li_1, li_4, li_5, li_6, li_7, li_8, li_9, li_10, li_11, li_12, li_13, li_15, li_16, li_25, li_35, li_40, li_41, li_42, li_43, li_45, li_47, li_59, li_60, li_61, li_62, li_m1]; omega), by first | omega | (simp (disch := omega) only [ti_add, ti_sub, b2t_, b2f_, li_0, li_1, li_4, li_5, li_6, li_7, li_8, li_9, li_10, li_11, li_12, li_13, li_15, li_16, li_25, li_35, li_40, li_41, li_42, li_43, li_45, li_47, li_59, li_60, li_61, li_62, li_m1]; omega)⟩⟩)
                      · skip
                        have j_39_ := ne_ti h_34_
                        try simp (disch := omega) only [ti_add, ti_sub, b2t_, b2f_, li_0, li_1, li_4, li_5, li_6, li_7, li_8, li_9, li_10, li_11, li_12, li_13, li_15, li_16, li_25, li_35, li_40, li_41, li_42, li_43, li_45, li_47, li_59, li_60, li_61, li_62, li_m1] at j_39_
                        exact wp_some_i (by subst hQ; exact ⟨rfl, ⟨by first | omega | (simp (disch := omega) only [ti_add, ti_sub, b2t_, b2f_, li_0, li_1, li_4, li_5, li_6, li_7, li_8, li_9, li_10, li_11, li_12, li_13, li_15, li_16, li_25, li_35, li_40, li_41, li_42, li_43, li_45, li_47, li_59, li_60, li_61, li_62, li_m1]; omega), by first | omega | (simp (disch := omega) only [ti_add, ti_sub, b2t_, b2f_, li_0, li_1, li_4, li_5, li_6, li_7, li_8, li_9, li_10, li_11, li_12, li_13, li_15, li_16, li_25, li_35, li_40, li_41, li_42, li_43, li_45, li_47, li_59, li_60, li_61, li_62, li_m1]; omega)⟩⟩)
set_option maxHeartbeats 1000000 in
set_option maxRecDepth 20000 in
theorem tX2_keepWaiting (a1 : Int32) (s0 : Sg) (h0 : I9_ s0) (ha : 0 ≤ a1.toInt ∧ a1.toInt ≤ 14) : wp_ (fX2_keepWaiting a1 s0) (fun q => R9_ s0 q) := by
  have g_s0 : R9_ s0 s0 := R9_.rf h0
  have hFU_ : FU = 1000000000 := rfl
  generalize hQ : (fun q : (Sg) => R9_ s0 q) = Q
  unfold fX2_keepWaiting
  have L0_ := li_0
  have L1_ := li_1
  have L2_ := li_2
  have L4_ := li_4
  have L18_ := li_18
  have L29_ := li_29
  have M1_ := li_m1
  refine wp_if_i (fun h_1_ => ?_) (fun h_1_ => ?_)
  · skip
    have b_2_ : 0 ≤ (gi s0 4 2).toInt ∧ (gi s0 4 2).toInt ≤ 29 := g_s0.1.1 4 2
    have j_3_ := le_ti h_1_
    try simp (disch := omega) only [ti_add, ti_sub, b2t_, b2f_, li_0, li_1, li_2, li_4, li_18, li_29, li_m1] at j_3_
    exact wp_some_i (by subst hQ; exact g_s0)
  · skip
    have b_4_ : 0 ≤ (gi s0 4 2).toInt ∧ (gi s0 4 2).toInt ≤ 29 := g_s0.1.1 4 2
    have j_5_ := nle_ti h_1_
    try simp (disch := omega) only [ti_add, ti_sub, b2t_, b2f_, li_0, li_1, li_2, li_4, li_18, li_29, li_m1] at j_5_
    refine wp_chk_i (inb_ti (by first | omega | (simp (disch := omega) only [ti_add, ti_sub, b2t_, b2f_, li_0, li_1, li_2, li_4, li_18, li_29, li_m1]; omega)) (by first | omega | (simp (disch := omega) only [ti_add, ti_sub, b2t_, b2f_, li_0, li_1, li_2, li_4, li_18, li_29, li_m1]; omega))) ?_
    apply wp_bv_i
    intro s_2 e_s_2
    have g_s_2 : R9_ s0 s_2 := by rw [e_s_2]; exact R9_.si g_s0 (by first | decide | omega) (show 0 ≤ ((a1 : Int32)).toInt ∧ ((a1 : Int32)).toInt ≤ 14 from ⟨by first | omega | (simp (disch := omega) only [ti_add, ti_sub, b2t_, b2f_, li_0, li_1, li_2, li_4, li_18, li_29, li_m1]; omega), by first | omega | (simp (disch := omega) only [ti_add, ti_sub, b2t_, b2f_, li_0, li_1, li_2, li_4, li_18, li_29, li_m1]; omega)⟩)
    have r_6_ : (gi s_2 4 2).toInt = (gi s0 4 2).toInt := by rw [e_s_2]; rw [gsi_k (by first | decide | omega)]
    have b_7_ : 0 ≤ (gi s_2 4 2).toInt ∧ (gi s_2 4 2).toInt ≤ 29 := g_s_2.1.1 4 2
    apply wp_bv_i
    intro s_3 e_s_3
    have g_s_3 : R9_ s0 s_3 := by rw [e_s_3]; exact R9_.si g_s_2 (by first | decide | omega) (show 0 ≤ ((((gi s_2 4 2) + 1) : Int32)).toInt ∧ ((((gi s_2 4 2) + 1) : Int32)).toInt ≤ 29 from ⟨by first | omega | (simp (disch := omega) only [ti_add, ti_sub, b2t_, b2f_, li_0, li_1, li_2, li_4, li_18, li_29, li_m1]; omega), by first | omega | (simp (disch := omega) only [ti_add, ti_sub, b2t_, b2f_, li_0, li_1, li_2, li_4, li_18, li_29, li_m1]; omega)⟩)
    exact wp_some_i (by subst hQ; exact g_s_3)
