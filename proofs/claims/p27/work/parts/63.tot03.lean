set_option maxHeartbeats 1000000 in
set_option maxRecDepth 20000 in
theorem lX7_readNumber_11_b {Q : (Sg) → Prop} (S_ : Sg) (hI_ : I9_ S_)  (hsome : ∀ q : (Sg), R9_ S_ q → Q q)  : ∀ (n : Nat) (s_3 : Sg), R9_ S_ s_3 → (301 - (gi s_3 3 4).toInt).toNat < n → wp_ (lo1 (fX7_readNumber_11_b ) n s_3) Q := by
  intro n
  induction n with
  | zero =>
    intro s_3 _ hm_
    exact absurd hm_ (Nat.not_lt_zero _)
  | succ n ih =>
    intro s_3 g_s_3 hm_
    show wp_ (fX7_readNumber_11_b  (lo1 (fX7_readNumber_11_b ) n) s_3) Q
    have hrec := ih
    generalize lo1 (fX7_readNumber_11_b ) n = rc at hrec ⊢
    clear ih
    have hFU_ : FU = 1000000000 := rfl
    unfold fX7_readNumber_11_b
    have L0_ := li_0
    have L1_ := li_1
    have L3_ := li_3
    have L4_ := li_4
    have L5_ := li_5
    have L10_ := li_10
    have L17_ := li_17
    have L48_ := li_48
    have L300_ := li_300
    have L10000_ := li_10000
    have M1_ := li_m1
    refine wp_if_i (fun h_1_ => ?_) (fun h_1_ => ?_)
    · skip
      have b_2_ : 0 ≤ (gi s_3 3 1).toInt ∧ (gi s_3 3 1).toInt ≤ 300 := g_s_3.1.1 3 1
      have b_3_ : 0 ≤ (gi s_3 3 4).toInt ∧ (gi s_3 3 4).toInt ≤ 301 := g_s_3.1.1 3 4
      have j_4_ := le_ti h_1_
      try simp (disch := omega) only [ti_add, ti_sub, b2t_, b2f_, li_0, li_1, li_3, li_4, li_5, li_10, li_17, li_48, li_300, li_10000, li_m1] at j_4_
      exact wp_some_i (hsome (s_3) g_s_3)
    · skip
      have b_5_ : 0 ≤ (gi s_3 3 1).toInt ∧ (gi s_3 3 1).toInt ≤ 300 := g_s_3.1.1 3 1
      have b_6_ : 0 ≤ (gi s_3 3 4).toInt ∧ (gi s_3 3 4).toInt ≤ 301 := g_s_3.1.1 3 4
      have j_7_ := nle_ti h_1_
      try simp (disch := omega) only [ti_add, ti_sub, b2t_, b2f_, li_0, li_1, li_3, li_4, li_5, li_10, li_17, li_48, li_300, li_10000, li_m1] at j_7_
      refine wp_chk_i (inb_ti (by first | omega | (simp (disch := omega) only [ti_add, ti_sub, b2t_, b2f_, li_0, li_1, li_3, li_4, li_5, li_10, li_17, li_48, li_300, li_10000, li_m1]; omega)) (by first | omega | (simp (disch := omega) only [ti_add, ti_sub, b2t_, b2f_, li_0, li_1, li_3, li_4, li_5, li_10, li_17, li_48, li_300, li_10000, li_m1]; omega))) ?_
      refine wp_bnd_i (tX7_isDigit (gi s_3 17 (ix (gi s_3 3 4))) s_3 g_s_3.1 ) (fun r_5 s_6 p_s_6 => ?_)
      have e_s_6 : s_6 = s_3 := p_s_6
      have g_s_6 : R9_ S_ s_6 := by rw [e_s_6]; exact g_s_3
      refine wp_if_i (fun h_8_ => ?_) (fun h_8_ => ?_)
      · skip
        have b_9_ := b2i_bd r_5
        have j_10_ := eq_ti h_8_
        try simp (disch := omega) only [ti_add, ti_sub, b2t_, b2f_, li_0, li_1, li_3, li_4, li_5, li_10, li_17, li_48, li_300, li_10000, li_m1] at j_10_
        exact wp_some_i (hsome (s_6) g_s_6)
      · skip
        have b_11_ := b2i_bd r_5
        have j_12_ := ne_ti h_8_
        try simp (disch := omega) only [ti_add, ti_sub, b2t_, b2f_, li_0, li_1, li_3, li_4, li_5, li_10, li_17, li_48, li_300, li_10000, li_m1] at j_12_
        have r_13_ : (gi s_6 3 4).toInt = (gi s_3 3 4).toInt := by rw [e_s_6]
        have b_14_ : 0 ≤ (gi s_6 3 4).toInt ∧ (gi s_6 3 4).toInt ≤ 301 := g_s_6.1.1 3 4
        refine wp_chk_i (inb_ti (by first | omega | (simp (disch := omega) only [ti_add, ti_sub, b2t_, b2f_, li_0, li_1, li_3, li_4, li_5, li_10, li_17, li_48, li_300, li_10000, li_m1]; omega)) (by first | omega | (simp (disch := omega) only [ti_add, ti_sub, b2t_, b2f_, li_0, li_1, li_3, li_4, li_5, li_10, li_17, li_48, li_300, li_10000, li_m1]; omega))) ?_
        have b_15_ : (gi s_3 3 5).toInt ≤ 10000 := g_s_3.1.1 3 5
        have r_16_ : (gi s_6 3 5).toInt = (gi s_3 3 5).toInt := by rw [e_s_6]
        have b_17_ : (gi s_6 3 5).toInt ≤ 10000 := g_s_6.1.1 3 5
        apply wp_bv_i
        intro s_8 e_s_8
        have g_s_8 : R9_ S_ s_8 := by rw [e_s_8]; exact R9_.si g_s_6 (by first | decide | omega) (imin_le _ _)
        have r_18_ : (gi s_8 3 4).toInt = (gi s_6 3 4).toInt := by rw [e_s_8]; rw [gsi_ne (by decide)]
        have b_19_ : 0 ≤ (gi s_8 3 4).toInt ∧ (gi s_8 3 4).toInt ≤ 301 := g_s_8.1.1 3 4
        apply wp_bv_i
        intro s_9 e_s_9
        have g_s_9 : R9_ S_ s_9 := by rw [e_s_9]; exact R9_.si g_s_8 (by first | decide | omega) (show 0 ≤ ((((gi s_8 3 4) + 1) : Int32)).toInt ∧ ((((gi s_8 3 4) + 1) : Int32)).toInt ≤ 301 from ⟨by first | omega | (simp (disch := omega) only [ti_add, ti_sub, b2t_, b2f_, li_0, li_1, li_3, li_4, li_5, li_10, li_17, li_48, li_300, li_10000, li_m1]; omega), by first | omega | (simp (disch := omega) only [ti_add, ti_sub, b2t_, b2f_, li_0, li_1, li_3, li_4, li_5, li_10, li_17, li_48, li_300, li_10000, li_m1]; omega)⟩)
        have r_20_ : (gi s_9 3 4).toInt = ((((gi s_8 3 4) + 1) : Int32)).toInt := by rw [e_s_9]; rw [gsi_eq]
        try simp (disch := omega) only [ti_add, ti_sub, b2t_, b2f_, li_0, li_1, li_3, li_4, li_5, li_10, li_17, li_48, li_300, li_10000, li_m1] at r_20_
        have b_21_ : 0 ≤ (gi s_9 3 4).toInt ∧ (gi s_9 3 4).toInt ≤ 301 := g_s_9.1.1 3 4
        exact hrec s_9 g_s_9  (by first | omega | (simp (disch := omega) only [ti_add, ti_sub, b2t_, b2f_, li_0, li_1, li_3, li_4, li_5, li_10, li_17, li_48, li_300, li_10000, li_m1]; omega))
set_option maxHeartbeats 1000000 in
set_option maxRecDepth 20000 in
theorem tX7_readNumber (s0 : Sg) (h0 : I9_ s0)  : wp_ (fX7_readNumber s0) (fun q => R9_ s0 q) := by
  have g_s0 : R9_ s0 s0 := R9_.rf h0
  have hFU_ : FU = 1000000000 := rfl
  generalize hQ : (fun q : (Sg) => R9_ s0 q) = Q
  unfold fX7_readNumber
  have L0_ := li_0
  have L1_ := li_1
  have L2_ := li_2
  have L3_ := li_3
  have L5_ := li_5
  have L17_ := li_17
  have M1_ := li_m1
  apply wp_bv_i
  intro s_1 e_s_1
  have g_s_1 : R9_ s0 s_1 := by rw [e_s_1]; exact R9_.si g_s0 (by first | decide | omega) (show 0 ≤ ((17 : Int32)).toInt ∧ ((17 : Int32)).toInt ≤ 36 from ⟨by first | omega | (simp (disch := omega) only [ti_add, ti_sub, b2t_, b2f_, li_0, li_1, li_2, li_3, li_5, li_17, li_m1]; omega), by first | omega | (simp (disch := omega) only [ti_add, ti_sub, b2t_, b2f_, li_0, li_1, li_2, li_3, li_5, li_17, li_m1]; omega)⟩)
  apply wp_bv_i
  intro s_2 e_s_2
  have g_s_2 : R9_ s0 s_2 := by rw [e_s_2]; exact R9_.si g_s_1 (by first | decide | omega) (show ((0 : Int32)).toInt ≤ 10000 from (by first | omega | (simp (disch := omega) only [ti_add, ti_sub, b2t_, b2f_, li_0, li_1, li_2, li_3, li_5, li_17, li_m1]; omega)))
  have b_1_ : 0 ≤ (gi s0 3 4).toInt ∧ (gi s0 3 4).toInt ≤ 301 := g_s0.1.1 3 4
  have r_2_ : (gi s_1 3 4).toInt = (gi s0 3 4).toInt := by rw [e_s_1]; rw [gsi_ne (by decide)]
  have b_3_ : 0 ≤ (gi s_1 3 4).toInt ∧ (gi s_1 3 4).toInt ≤ 301 := g_s_1.1.1 3 4
  have r_4_ : (gi s_2 3 4).toInt = (gi s_1 3 4).toInt := by rw [e_s_2]; rw [gsi_ne (by decide)]
  have b_5_ : 0 ≤ (gi s_2 3 4).toInt ∧ (gi s_2 3 4).toInt ≤ 301 := g_s_2.1.1 3 4
  exact lX7_readNumber_11_b s0 h0   (fun q hq => by subst hQ; exact hq)  FU s_2 g_s_2  (by first | omega | (simp (disch := omega) only [ti_add, ti_sub, b2t_, b2f_, li_0, li_1, li_2, li_3, li_5, li_17, li_m1]; omega))
set_option maxHeartbeats 1000000 in
set_option maxRecDepth 20000 in
theorem tX4_held (a1 : Int64) (s0 : Sg) (h0 : I9_ s0)  : wp_ (fX4_held a1 s0) (fun q => q.2 = s0) := by
  have g_s0 : G9_ s0 s0 := G9_.rf h0
  have hFU_ : FU = 1000000000 := rfl
  generalize hQ : (fun q : (Int32 × Sg) => q.2 = s0) = Q
  unfold fX4_held
  have L0_ := li_0
  have L1_ := li_1
  have L1000000_ := li_1000000
  have M1_ := li_m1
  have M1000000_ := li_m1000000
  refine wp_if_i (fun h_1_ => ?_) (fun h_1_ => ?_)
  · skip
    have j_2_ := le_ti h_1_
    try simp (disch := omega) only [ti_add, ti_sub, b2t_, b2f_, li_0, li_1, li_1000000, li_m1, li_m1000000] at j_2_
    refine wp_if_i (fun h_3_ => ?_) (fun h_3_ => ?_)
    · skip
      have j_4_ := le_ti h_3_
      try simp (disch := omega) only [ti_add, ti_sub, b2t_, b2f_, li_0, li_1, li_1000000, li_m1, li_m1000000] at j_4_
      exact wp_some_i (by subst hQ; exact rfl)
    · skip
      have j_5_ := nle_ti h_3_
      try simp (disch := omega) only [ti_add, ti_sub, b2t_, b2f_, li_0, li_1, li_1000000, li_m1, li_m1000000] at j_5_
      exact wp_some_i (by subst hQ; exact rfl)
  · skip
    have j_6_ := nle_ti h_1_
    try simp (disch := omega) only [ti_add, ti_sub, b2t_, b2f_, li_0, li_1, li_1000000, li_m1, li_m1000000] at j_6_
    exact wp_some_i (by subst hQ; exact rfl)
set_option maxHeartbeats 1000000 in
set_option maxRecDepth 20000 in
theorem tX4_joined (a1 : Int32) (a2 : Int64) (a3 : Int64) (s0 : Sg) (h0 : I9_ s0)  : wp_ (fX4_joined a1 a2 a3 s0) (fun q => q.2 = s0) := by
  have g_s0 : G9_ s0 s0 := G9_.rf h0
  have hFU_ : FU = 1000000000 := rfl
  generalize hQ : (fun q : (Int64 × Sg) => q.2 = s0) = Q
  unfold fX4_joined
  have L0_ := li_0
  have L1_ := li_1
  have L2_ := li_2
  have L4_ := li_4
  have L5_ := li_5
  have L6_ := li_6
  have L7_ := li_7
  have L8_ := li_8
  have L9_ := li_9
  have L10_ := li_10
  have L11_ := li_11
  have L12_ := li_12
  have L13_ := li_13
  have M1_ := li_m1
  refine wp_if_i (fun h_1_ => ?_) (fun h_1_ => ?_)
  · skip
    have j_2_ := eq_ti h_1_
    try simp (disch := omega) only [ti_add, ti_sub, b2t_, b2f_, li_0, li_1, li_2, li_4, li_5, li_6, li_7, li_8, li_9, li_10, li_11, li_12, li_13, li_m1] at j_2_
    exact wp_some_i (by subst hQ; exact rfl)
  · skip
    have j_3_ := ne_ti h_1_
    try simp (disch := omega) only [ti_add, ti_sub, b2t_, b2f_, li_0, li_1, li_2, li_4, li_5, li_6, li_7, li_8, li_9, li_10, li_11, li_12, li_13, li_m1] at j_3_
    refine wp_if_i (fun h_4_ => ?_) (fun h_4_ => ?_)
    · skip
      have j_5_ := eq_ti h_4_
      try simp (disch := omega) only [ti_add, ti_sub, b2t_, b2f_, li_0, li_1, li_2, li_4, li_5, li_6, li_7, li_8, li_9, li_10, li_11, li_12, li_13, li_m1] at j_5_
      exact wp_some_i (by subst hQ; exact rfl)
    · skip
      have j_6_ := ne_ti h_4_
      try simp (disch := omega) only [ti_add, ti_sub, b2t_, b2f_, li_0, li_1, li_2, li_4, li_5, li_6, li_7, li_8, li_9, li_10, li_11, li_12, li_13, li_m1] at j_6_
      refine wp_if_i (fun h_7_ => ?_) (fun h_7_ => ?_)
      · skip
        have j_8_ := eq_ti h_7_
        try simp (disch := omega) only [ti_add, ti_sub, b2t_, b2f_, li_0, li_1, li_2, li_4, li_5, li_6, li_7, li_8, li_9, li_10, li_11, li_12, li_13, li_m1] at j_8_
        refine wp_if_i (fun h_9_ => ?_) (fun h_9_ => ?_)
        · skip
          have j_10_ := le_ti h_9_
          try simp (disch := omega) only [ti_add, ti_sub, b2t_, b2f_, li_0, li_1, li_2, li_4, li_5, li_6, li_7, li_8, li_9, li_10, li_11, li_12, li_13, li_m1] at j_10_
          exact wp_some_i (by subst hQ; exact rfl)
        · skip
          have j_11_ := nle_ti h_9_
          try simp (disch := omega) only [ti_add, ti_sub, b2t_, b2f_, li_0, li_1, li_2, li_4, li_5, li_6, li_7, li_8, li_9, li_10, li_11, li_12, li_13, li_m1] at j_11_
          exact wp_some_i (by subst hQ; exact rfl)
      · skip
        have j_12_ := ne_ti h_7_
        try simp (disch := omega) only [ti_add, ti_sub, b2t_, b2f_, li_0, li_1, li_2, li_4, li_5, li_6, li_7, li_8, li_9, li_10, li_11, li_12, li_13, li_m1] at j_12_
        refine wp_if_i (fun h_13_ => ?_) (fun h_13_ => ?_)
        · skip
          have j_14_ := eq_ti h_13_
          try simp (disch := omega) only [ti_add, ti_sub, b2t_, b2f_, li_0, li_1, li_2, li_4, li_5, li_6, li_7, li_8, li_9, li_10, li_11, li_12, li_13, li_m1] at j_14_
          refine wp_if_i (fun h_15_ => ?_) (fun h_15_ => ?_)
          · skip
            have j_16_ := lt_ti h_15_
            try simp (disch := omega) only [ti_add, ti_sub, b2t_, b2f_, li_0, li_1, li_2, li_4, li_5, li_6, li_7, li_8, li_9, li_10, li_11, li_12, li_13, li_m1] at j_16_
            exact wp_some_i (by subst hQ; exact rfl)
          · skip
            have j_17_ := nlt_ti h_15_
            try simp (disch := omega) only [ti_add, ti_sub, b2t_, b2f_, li_0, li_1, li_2, li_4, li_5, li_6, li_7, li_8, li_9, li_10, li_11, li_12, li_13, li_m1] at j_17_
            exact wp_some_i (by subst hQ; exact rfl)
        · skip
          have j_18_ := ne_ti h_13_
          try simp (disch := omega) only [ti_add, ti_sub, b2t_, b2f_, li_0, li_1, li_2, li_4, li_5, li_6, li_7, li_8, li_9, li_10, li_11, li_12, li_13, li_m1] at j_18_
          refine wp_if_i (fun h_19_ => ?_) (fun h_19_ => ?_)
          · skip
            have j_20_ := eq_ti h_19_
            try simp (disch := omega) only [ti_add, ti_sub, b2t_, b2f_, li_0, li_1, li_2, li_4, li_5, li_6, li_7, li_8, li_9, li_10, li_11, li_12, li_13, li_m1] at j_20_
            refine wp_if_i (fun h_21_ => ?_) (fun h_21_ => ?_)
            · skip
              have j_22_ := le_ti h_21_
              try simp (disch := omega) only [ti_add, ti_sub, b2t_, b2f_, li_0, li_1, li_2, li_4, li_5, li_6, li_7, li_8, li_9, li_10, li_11, li_12, li_13, li_m1] at j_22_
              exact wp_some_i (by subst hQ; exact rfl)
            · skip
              have j_23_ := nle_ti h_21_
              try simp (disch := omega) only [ti_add, ti_sub, b2t_, b2f_, li_0, li_1, li_2, li_4, li_5, li_6, li_7, li_8, li_9, li_10, li_11, li_12, li_13, li_m1] at j_23_
              exact wp_some_i (by subst hQ; exact rfl)
          · skip
            have j_24_ := ne_ti h_19_
            try simp (disch := omega) only [ti_add, ti_sub, b2t_, b2f_, li_0, li_1, li_2, li_4, li_5, li_6, li_7, li_8, li_9, li_10, li_11, li_12, li_13, li_m1] at j_24_
            refine wp_if_i (fun h_25_ => ?_) (fun h_25_ => ?_)
            · skip
              have j_26_ := eq_ti h_25_
              try simp (disch := omega) only [ti_add, ti_sub, b2t_, b2f_, li_0, li_1, li_2, li_4, li_5, li_6, li_7, li_8, li_9, li_10, li_11, li_12, li_13, li_m1] at j_26_
              refine wp_if_i (fun h_27_ => ?_) (fun h_27_ => ?_)
              · skip
                have j_28_ := lt_ti h_27_
                try simp (disch := omega) only [ti_add, ti_sub, b2t_, b2f_, li_0, li_1, li_2, li_4, li_5, li_6, li_7, li_8, li_9, li_10, li_11, li_12, li_13, li_m1] at j_28_
                exact wp_some_i (by subst hQ; exact rfl)
              · skip
                have j_29_ := nlt_ti h_27_
                try simp (disch := omega) only [ti_add, ti_sub, b2t_, b2f_, li_0, li_1, li_2, li_4, li_5, li_6, li_7, li_8, li_9, li_10, li_11, li_12, li_13, li_m1] at j_29_
                exact wp_some_i (by subst hQ; exact rfl)
            · skip
              have j_30_ := ne_ti h_25_
              try simp (disch := omega) only [ti_add, ti_sub, b2t_, b2f_, li_0, li_1, li_2, li_4, li_5, li_6, li_7, li_8, li_9, li_10, li_11, li_12, li_13, li_m1] at j_30_
              refine wp_if_i (fun h_31_ => ?_) (fun h_31_ => ?_)
              · skip
                have j_32_ := eq_ti h_31_
                try simp (disch := omega) only [ti_add, ti_sub, b2t_, b2f_, li_0, li_1, li_2, li_4, li_5, li_6, li_7, li_8, li_9, li_10, li_11, li_12, li_13, li_m1] at j_32_
                refine wp_if_i (fun h_33_ => ?_) (fun h_33_ => ?_)
                · skip
                  have j_34_ := eq_ti h_33_
                  try simp (disch := omega) only [ti_add, ti_sub, b2t_, b2f_, li_0, li_1, li_2, li_4, li_5, li_6, li_7, li_8, li_9, li_10, li_11, li_12, li_13, li_m1] at j_34_
                  exact wp_some_i (by subst hQ; exact rfl)
                · skip
                  have j_35_ := ne_ti h_33_
                  try simp (disch := omega) only [ti_add, ti_sub, b2t_, b2f_, li_0, li_1, li_2, li_4, li_5, li_6, li_7, li_8, li_9, li_10, li_11, li_12, li_13, li_m1] at j_35_
                  exact wp_some_i (by subst hQ; exact rfl)
              · skip
                have j_36_ := ne_ti h_31_
                try simp (disch := omega) only [ti_add, ti_sub, b2t_, b2f_, li_0, li_1, li_2, li_4, li_5, li_6, li_7, li_8, li_9, li_10, li_11, li_12, li_13, li_m1] at j_36_
                refine wp_if_i (fun h_37_ => ?_) (fun h_37_ => ?_)
                · skip
                  have j_38_ := eq_ti h_37_
                  try simp (disch := omega) only [ti_add, ti_sub, b2t_, b2f_, li_0, li_1, li_2, li_4, li_5, li_6, li_7, li_8, li_9, li_10, li_11, li_12, li_13, li_m1] at j_38_
                  refine wp_if_i (fun h_39_ => ?_) (fun h_39_ => ?_)
                  · skip
                    have j_40_ := eq_ti h_39_
                    try simp (disch := omega) only [ti_add, ti_sub, b2t_, b2f_, li_0, li_1, li_2, li_4, li_5, li_6, li_7, li_8, li_9, li_10, li_11, li_12, li_13, li_m1] at j_40_
                    exact wp_some_i (by subst hQ; exact rfl)
                  · skip
                    have j_41_ := ne_ti h_39_
                    try simp (disch := omega) only [ti_add, ti_sub, b2t_, b2f_, li_0, li_1, li_2, li_4, li_5, li_6, li_7, li_8, li_9, li_10, li_11, li_12, li_13, li_m1] at j_41_
                    exact wp_some_i (by subst hQ; exact rfl)
                · skip
                  have j_42_ := ne_ti h_37_
                  try simp (disch := omega) only [ti_add, ti_sub, b2t_, b2f_, li_0, li_1, li_2, li_4, li_5, li_6, li_7, li_8, li_9, li_10, li_11, li_12, li_13, li_m1] at j_42_
                  refine wp_if_i (fun h_43_ => ?_) (fun h_43_ => ?_)
                  · skip
                    have j_44_ := eq_ti h_43_
                    try simp (disch := omega) only [ti_add, ti_sub, b2t_, b2f_, li_0, li_1, li_2, li_4, li_5, li_6, li_7, li_8, li_9, li_10, li_11, li_12, li_13, li_m1] at j_44_
                    exact wp_some_i (by subst hQ; exact rfl)
                  · skip
                    have j_45_ := ne_ti h_43_
                    try simp (disch := omega) only [ti_add, ti_sub, b2t_, b2f_, li_0, li_1, li_2, li_4, li_5, li_6, li_7, li_8, li_9, li_10, li_11, li_12, li_13, li_m1] at j_45_
                    refine wp_if_i (fun h_46_ => ?_) (fun h_46_ => ?_)
                    · skip
                      have j_47_ := eq_ti h_46_
                      try simp (disch := omega) only [ti_add, ti_sub, b2t_, b2f_, li_0, li_1, li_2, li_4, li_5, li_6, li_7, li_8, li_9, li_10, li_11, li_12, li_13, li_m1] at j_47_
                      exact wp_some_i (by subst hQ; exact rfl)
                    · skip
                      have j_48_ := ne_ti h_46_
                      try simp (disch := omega) only [ti_add, ti_sub, b2t_, b2f_, li_0, li_1, li_2, li_4, li_5, li_6, li_7, li_8, li_9, li_10, li_11, li_12, li_13, li_m1] at j_48_
                      refine wp_if_i (fun h_49_ => ?_) (fun h_49_ => ?_)
                      · skip
                        have j_50_ := eq_ti h_49_
                        try simp (disch := omega) only [ti_add, ti_sub, b2t_, b2f_, li_0, li_1, li_2, li_4, li_5, li_6, li_7, li_8, li_9, li_10, li_11, li_12, li_13, li_m1] at j_50_
                        exact wp_some_i (by subst hQ; exact rfl)
                      · skip
                        have j_51_ := ne_ti h_49_
                        try simp (disch := omega) only [ti_add, ti_sub, b2t_, b2f_, li_0, li_1, li_2, li_4, li_5, li_6, li_7, li_8, li_9, li_10, li_11, li_12, li_13, li_m1] at j_51_
                        refine wp_if_i (fun h_52_ => ?_) (fun h_52_ => ?_)
                        · skip
                          have j_53_ := eq_ti h_52_
                          try simp (disch := omega) only [ti_add, ti_sub, b2t_, b2f_, li_0, li_1, li_2, li_4, li_5, li_6, li_7, li_8, li_9, li_10, li_11, li_12, li_13, li_m1] at j_53_
                          refine wp_if_i (fun h_54_ => ?_) (fun h_54_ => ?_)
                          · skip
                            have j_55_ := eq_ti h_54_
                            try simp (disch := omega) only [ti_add, ti_sub, b2t_, b2f_, li_0, li_1, li_2, li_4, li_5, li_6, li_7, li_8, li_9, li_10, li_11, li_12, li_13, li_m1] at j_55_
                            exact wp_some_i (by subst hQ; exact rfl)
                          · skip
                            have j_56_ := ne_ti h_54_
                            try simp (disch := omega) only [ti_add, ti_sub, b2t_, b2f_, li_0, li_1, li_2, li_4, li_5, li_6, li_7, li_8, li_9, li_10, li_11, li_12, li_13, li_m1] at j_56_
                            refine wp_chk_i (lcmp_ne (by assumption)) ?_
                            exact wp_some_i (by subst hQ; exact rfl)
                        · skip
                          have j_57_ := ne_ti h_52_
                          try simp (disch := omega) only [ti_add, ti_sub, b2t_, b2f_, li_0, li_1, li_2, li_4, li_5, li_6, li_7, li_8, li_9, li_10, li_11, li_12, li_13, li_m1] at j_57_
                          exact wp_some_i (by subst hQ; exact rfl)
set_option maxHeartbeats 1000000 in
set_option maxRecDepth 20000 in
theorem lX4_valueOf_6_b {Q : (Int32 × Sg) → Prop} (S_ : Sg) (hI_ : I9_ S_) (a1 : Nat) (a3 : Int32) (k_3 : Int32 → Sg → Option (Int32 × Sg)) (hk_3 : ∀ (z0_ : Int32) (z1_ : Sg), A9_ S_ z1_ → wp_ (k_3 z0_ z1_) Q) (cp0_ : a3.toInt ≤ 300) (cp1_ : ∀ (j : Nat) (v : Int), Bd9_ a1 j v = (v ≤ 10010 ∨ 20000 ≤ v)) : ∀ (n : Nat) (x4_4 : Int32) (x5_5 : Int32) (s_6 : Sg), A9_ S_ s_6 → -1 ≤ x4_4.toInt → x4_4.toInt ≤ 21 → 0 ≤ x5_5.toInt → (300 - x5_5.toInt).toNat < n → wp_ (lo3 (fX4_valueOf_6_b a1 a3 k_3) n x4_4 x5_5 s_6) Q := by
  intro n
  induction n with
  | zero =>
    intro x4_4 x5_5 s_6 _ _ _ _ hm_
    exact absurd hm_ (Nat.not_lt_zero _)
  | succ n ih =>
    intro x4_4 x5_5 s_6 g_s_6 i0_ i1_ i2_ hm_
    show wp_ (fX4_valueOf_6_b a1 a3 k_3 (lo3 (fX4_valueOf_6_b a1 a3 k_3) n) x4_4 x5_5 s_6) Q
    have hrec := ih
    generalize lo3 (fX4_valueOf_6_b a1 a3 k_3) n = rc at hrec ⊢
    clear ih
    have hFU_ : FU = 1000000000 := rfl
    unfold fX4_valueOf_6_b
    have L0_ := li_0
    have L1_ := li_1
    have L3_ := li_3
    have L11_ := li_11
    have L14_ := li_14
    have L19_ := li_19
    have L20_ := li_20
    have L22_ := li_22
    have L300_ := li_300
    have L10000_ := li_10000
    have L20000_ := li_20000
    have M1_ := li_m1
    obtain ⟨w_, hw_⟩ : ∃ w : Int32, w = x4_4 + (-1) := ⟨_, rfl⟩
    rw [← hw_]
    have jw_ := eq_ti hw_
    rw [ti_add (by omega) (by omega)] at jw_
    refine wp_if_i (fun h_1_ => ?_) (fun h_1_ => ?_)
    · skip
      have j_2_ := le_ti h_1_
      try simp (disch := omega) only [ti_add, ti_sub, b2t_, b2f_, li_0, li_1, li_3, li_11, li_14, li_19, li_20, li_22, li_300, li_10000, li_20000, li_m1] at j_2_
      exact hk_3 x4_4 s_6 g_s_6 
    · skip
      have j_3_ := nle_ti h_1_
      try simp (disch := omega) only [ti_add, ti_sub, b2t_, b2f_, li_0, li_1, li_3, li_11, li_14, li_19, li_20, li_22, li_300, li_10000, li_20000, li_m1] at j_3_
      refine wp_chk_i (inb_ti (by first | omega | (simp (disch := omega) only [ti_add, ti_sub, b2t_, b2f_, li_0, li_1, li_3, li_11, li_14, li_19, li_20, li_22, li_300, li_10000, li_20000, li_m1]; omega)) (by first | omega | (simp (disch := omega) only [ti_add, ti_sub, b2t_, b2f_, li_0, li_1, li_3, li_11, li_14, li_19, li_20, li_22, li_300, li_10000, li_20000, li_m1]; omega))) ?_
      apply wp_bv_i
      intro v_8 e_v_8
      have cv_ : v_8.toInt ≤ 10010 ∨ 20000 ≤ v_8.toInt := by have q_ := g_s_6.1.1 a1 (ix x5_5); rw [cp1_, ← e_v_8] at q_; exact q_
      have j_4_ := eq_ti e_v_8
      try simp (disch := omega) only [ti_add, ti_sub, b2t_, b2f_, li_0, li_1, li_3, li_11, li_14, li_19, li_20, li_22, li_300, li_10000, li_20000, li_m1] at j_4_
      apply wp_bv_i
      intro v_9 e_v_9
      have j_5_ := eq_ti e_v_9
      try simp (disch := omega) only [ti_add, ti_sub, b2t_, b2f_, li_0, li_1, li_3, li_11, li_14, li_19, li_20, li_22, li_300, li_10000, li_20000, li_m1] at j_5_
      refine wp_jn (fun k_12 => ∀ (x4_10 : Int32) (s_11 : Sg), A9_ S_ s_11 → -1 ≤ x4_10.toInt → x4_10.toInt ≤ 21 → wp_ (k_12 x4_10 s_11) Q) ?_ (fun k_12 hk_12 => ?_)
      · intro x4_10 s_11 g_s_11 u_0_k_12 u_1_k_12
        try dsimp only
        apply wp_bv_i
        intro v_13 e_v_13
        have j_6_ := eq_ti e_v_13
        try simp (disch := omega) only [ti_add, ti_sub, b2t_, b2f_, li_0, li_1, li_3, li_11, li_14, li_19, li_20, li_22, li_300, li_10000, li_20000, li_m1] at j_6_
        exact hrec x4_10 v_13 s_11 g_s_11 (by first | omega | (simp (disch := omega) only [ti_add, ti_sub, b2t_, b2f_, li_0, li_1, li_3, li_11, li_14, li_19, li_20, li_22, li_300, li_10000, li_20000, li_m1]; omega)) (by first | omega | (simp (disch := omega) only [ti_add, ti_sub, b2t_, b2f_, li_0, li_1, li_3, li_11, li_14, li_19, li_20, li_22, li_300, li_10000, li_20000, li_m1]; omega)) (by first | omega | (simp (disch := omega) only [ti_add, ti_sub, b2t_, b2f_, li_0, li_1, li_3, li_11, li_14, li_19, li_20, li_22, li_300, li_10000, li_20000, li_m1]; omega)) (by first | omega | (simp (disch := omega) only [ti_add, ti_sub, b2t_, b2f_, li_0, li_1, li_3, li_11, li_14, li_19, li_20, li_22, li_300, li_10000, li_20000, li_m1]; omega))
      refine wp_jn (fun k_14 => wp_ k_14 Q) ?_ (fun k_14 hk_14 => ?_)
      · skip
        refine wp_jn (fun k_15 => wp_ k_15 Q) ?_ (fun k_15 hk_15 => ?_)
        · skip
          refine wp_jn (fun k_16 => wp_ k_16 Q) ?_ (fun k_16 hk_16 => ?_)
          · skip
            refine wp_if_i (fun h_7_ => ?_) (fun h_7_ => ?_)
            · skip
              have j_8_ := lt_ti h_7_
              try simp (disch := omega) only [ti_add, ti_sub, b2t_, b2f_, li_0, li_1, li_3, li_11, li_14, li_19, li_20, li_22, li_300, li_10000, li_20000, li_m1] at j_8_
              exact hk_12 x4_4 s_6 g_s_6 (by first | omega | (simp (disch := omega) only [ti_add, ti_sub, b2t_, b2f_, li_0, li_1, li_3, li_11, li_14, li_19, li_20, li_22, li_300, li_10000, li_20000, li_m1]; omega)) (by first | omega | (simp (disch := omega) only [ti_add, ti_sub, b2t_, b2f_, li_0, li_1, li_3, li_11, li_14, li_19, li_20, li_22, li_300, li_10000, li_20000, li_m1]; omega))
            · skip
              have j_9_ := nlt_ti h_7_
              try simp (disch := omega) only [ti_add, ti_sub, b2t_, b2f_, li_0, li_1, li_3, li_11, li_14, li_19, li_20, li_22, li_300, li_10000, li_20000, li_m1] at j_9_
              apply wp_bv_i
              intro v_17 e_v_17
              have j_10_ := eq_ti e_v_17
              try simp (disch := omega) only [ti_add, ti_sub, b2t_, b2f_, li_0, li_1, li_3, li_11, li_14, li_19, li_20, li_22, li_300, li_10000, li_20000, li_m1] at j_10_
              refine wp_chk_i (inb_ti (by first | omega | (simp (disch := omega) only [ti_add, ti_sub, b2t_, b2f_, li_0, li_1, li_3, li_11, li_14, li_19, li_20, li_22, li_300, li_10000, li_20000, li_m1]; omega)) (by first | omega | (simp (disch := omega) only [ti_add, ti_sub, b2t_, b2f_, li_0, li_1, li_3, li_11, li_14, li_19, li_20, li_22, li_300, li_10000, li_20000, li_m1]; omega))) ?_
              refine wp_chk_i (inb_ti (by first | omega | (simp (disch := omega) only [ti_add, ti_sub, b2t_, b2f_, li_0, li_1, li_3, li_11, li_14, li_19, li_20, li_22, li_300, li_10000, li_20000, li_m1]; omega)) (by first | omega | (simp (disch := omega) only [ti_add, ti_sub, b2t_, b2f_, li_0, li_1, li_3, li_11, li_14, li_19, li_20, li_22, li_300, li_10000, li_20000, li_m1]; omega))) ?_
              refine wp_bnd_i (tX4_joined v_9 (Int32.toInt64 (gi s_6 20 (ix v_17))) (Int32.toInt64 (gi s_6 20 (ix (v_17 + 1)))) s_6 g_s_6.1 ) (fun r_20 s_21 p_s_21 => ?_)
              have e_s_21 : s_21 = s_6 := p_s_21
              have g_s_21 : A9_ S_ s_21 := by rw [e_s_21]; exact g_s_6
              refine wp_bnd_i (tX4_held r_20 s_21 g_s_21.1 ) (fun r_22 s_23 p_s_23 => ?_)
              have e_s_23 : s_23 = s_21 := p_s_23
              have g_s_23 : A9_ S_ s_23 := by rw [e_s_23]; exact g_s_21
              apply wp_bv_i
              intro s_24 e_s_24
              have g_s_24 : A9_ S_ s_24 := by rw [e_s_24]; exact A9_.si g_s_23 (by first | decide | omega) trivial
              exact hk_12 v_17 s_24 g_s_24 (by first | omega | (simp (disch := omega) only [ti_add, ti_sub, b2t_, b2f_, li_0, li_1, li_3, li_11, li_14, li_19, li_20, li_22, li_300, li_10000, li_20000, li_m1]; omega)) (by first | omega | (simp (disch := omega) only [ti_add, ti_sub, b2t_, b2f_, li_0, li_1, li_3, li_11, li_14, li_19, li_20, li_22, li_300, li_10000, li_20000, li_m1]; omega))
          refine wp_if_i (fun h_11_ => ?_) (fun h_11_ => ?_)
          · skip
            have j_12_ := eq_ti h_11_
            try simp (disch := omega) only [ti_add, ti_sub, b2t_, b2f_, li_0, li_1, li_3, li_11, li_14, li_19, li_20, li_22, li_300, li_10000, li_20000, li_m1] at j_12_
            refine wp_if_i (fun h_13_ => ?_) (fun h_13_ => ?_)
            · skip
              have j_14_ := lt_ti h_13_
              try simp (disch := omega) only [ti_add, ti_sub, b2t_, b2f_, li_0, li_1, li_3, li_11, li_14, li_19, li_20, li_22, li_300, li_10000, li_20000, li_m1] at j_14_
              exact hk_16   
            · skip
              have j_15_ := nlt_ti h_13_
              try simp (disch := omega) only [ti_add, ti_sub, b2t_, b2f_, li_0, li_1, li_3, li_11, li_14, li_19, li_20, li_22, li_300, li_10000, li_20000, li_m1] at j_15_
              refine wp_chk_i (inb_ti (by first | omega | (simp (disch := omega) only [ti_add, ti_sub, b2t_, b2f_, li_0, li_1, li_3, li_11, li_14, li_19, li_20, li_22, li_300, li_10000, li_20000, li_m1]; omega)) (by first | omega | (simp (disch := omega) only [ti_add, ti_sub, b2t_, b2f_, li_0, li_1, li_3, li_11, li_14, li_19, li_20, li_22, li_300, li_10000, li_20000, li_m1]; omega))) ?_
              apply wp_bv_i
              intro s_26 e_s_26
              have g_s_26 : A9_ S_ s_26 := by rw [e_s_26]; exact A9_.si g_s_6 (by first | decide | omega) trivial
              exact hk_12 x4_4 s_26 g_s_26 (by first | omega | (simp (disch := omega) only [ti_add, ti_sub, b2t_, b2f_, li_0, li_1, li_3, li_11, li_14, li_19, li_20, li_22, li_300, li_10000, li_20000, li_m1]; omega)) (by first | omega | (simp (disch := omega) only [ti_add, ti_sub, b2t_, b2f_, li_0, li_1, li_3, li_11, li_14, li_19, li_20, li_22, li_300, li_10000, li_20000, li_m1]; omega))
          · skip
            have j_16_ := ne_ti h_11_
            try simp (disch := omega) only [ti_add, ti_sub, b2t_, b2f_, li_0, li_1, li_3, li_11, li_14, li_19, li_20, li_22, li_300, li_10000, li_20000, li_m1] at j_16_
            exact hk_16   
        refine wp_if_i (fun h_17_ => ?_) (fun h_17_ => ?_)
        · skip
          have j_18_ := eq_ti h_17_
          try simp (disch := omega) only [ti_add, ti_sub, b2t_, b2f_, li_0, li_1, li_3, li_11, li_14, li_19, li_20, li_22, li_300, li_10000, li_20000, li_m1] at j_18_
          refine wp_if_i (fun h_19_ => ?_) (fun h_19_ => ?_)
          · skip
            have j_20_ := lt_ti h_19_
            try simp (disch := omega) only [ti_add, ti_sub, b2t_, b2f_, li_0, li_1, li_3, li_11, li_14, li_19, li_20, li_22, li_300, li_10000, li_20000, li_m1] at j_20_
            exact hk_15   
          · skip
            have j_21_ := nlt_ti h_19_
            try simp (disch := omega) only [ti_add, ti_sub, b2t_, b2f_, li_0, li_1, li_3, li_11, li_14, li_19, li_20, li_22, li_300, li_10000, li_20000, li_m1] at j_21_
            refine wp_chk_i (inb_ti (by first | omega | (simp (disch := omega) only [ti_add, ti_sub, b2t_, b2f_, li_0, li_1, li_3, li_11, li_14, li_19, li_20, li_22, li_300, li_10000, li_20000, li_m1]; omega)) (by first | omega | (simp (disch := omega) only [ti_add, ti_sub, b2t_, b2f_, li_0, li_1, li_3, li_11, li_14, li_19, li_20, li_22, li_300, li_10000, li_20000, li_m1]; omega))) ?_
            apply wp_bv_i
            intro s_28 e_s_28
            have g_s_28 : A9_ S_ s_28 := by rw [e_s_28]; exact A9_.si g_s_6 (by first | decide | omega) trivial
            exact hk_12 x4_4 s_28 g_s_28 (by first | omega | (simp (disch := omega) only [ti_add, ti_sub, b2t_, b2f_, li_0, li_1, li_3, li_11, li_14, li_19, li_20, li_22, li_300, li_10000, li_20000, li_m1]; omega)) (by first | omega | (simp (disch := omega) only [ti_add, ti_sub, b2t_, b2f_, li_0, li_1, li_3, li_11, li_14, li_19, li_20, li_22, li_300, li_10000, li_20000, li_m1]; omega))
        · skip
          have j_22_ := ne_ti h_17_
          try simp (disch := omega) only [ti_add, ti_sub, b2t_, b2f_, li_0, li_1, li_3, li_11, li_14, li_19, li_20, li_22, li_300, li_10000, li_20000, li_m1] at j_22_
          exact hk_15   
      refine wp_if_i (fun h_23_ => ?_) (fun h_23_ => ?_)
      · skip
        have j_24_ := le_ti h_23_
        try simp (disch := omega) only [ti_add, ti_sub, b2t_, b2f_, li_0, li_1, li_3, li_11, li_14, li_19, li_20, li_22, li_300, li_10000, li_20000, li_m1] at j_24_
        exact hk_14   
      · skip
        have j_25_ := nle_ti h_23_
        try simp (disch := omega) only [ti_add, ti_sub, b2t_, b2f_, li_0, li_1, li_3, li_11, li_14, li_19, li_20, li_22, li_300, li_10000, li_20000, li_m1] at j_25_
        refine wp_if_i (fun h_26_ => ?_) (fun h_26_ => ?_)
        · skip
          have j_27_ := le_ti h_26_
          try simp (disch := omega) only [ti_add, ti_sub, b2t_, b2f_, li_0, li_1, li_3, li_11, li_14, li_19, li_20, li_22, li_300, li_10000, li_20000, li_m1] at j_27_
          exact hk_14   
        · skip
          have j_28_ := nle_ti h_26_
          try simp (disch := omega) only [ti_add, ti_sub, b2t_, b2f_, li_0, li_1, li_3, li_11, li_14, li_19, li_20, li_22, li_300, li_10000, li_20000, li_m1] at j_28_
          apply wp_bv_i
          intro v_29 e_v_29
          have j_29_ := eq_ti e_v_29
          try simp (disch := omega) only [ti_add, ti_sub, b2t_, b2f_, li_0, li_1, li_3, li_11, li_14, li_19, li_20, li_22, li_300, li_10000, li_20000, li_m1] at j_29_
          refine wp_jn (fun k_32 => ∀ (y_30 : Int32) (y_31 : Int32), 0 ≤ y_30.toInt → y_30.toInt ≤ 21 → wp_ (k_32 y_30 y_31) Q) ?_ (fun k_32 hk_32 => ?_)
          · intro y_30 y_31 u_0_k_32 u_1_k_32
            try dsimp only
            refine wp_chk_i (inb_ti (by first | omega | (simp (disch := omega) only [ti_add, ti_sub, b2t_, b2f_, li_0, li_1, li_3, li_11, li_14, li_19, li_20, li_22, li_300, li_10000, li_20000, li_m1]; omega)) (by first | omega | (simp (disch := omega) only [ti_add, ti_sub, b2t_, b2f_, li_0, li_1, li_3, li_11, li_14, li_19, li_20, li_22, li_300, li_10000, li_20000, li_m1]; omega))) ?_
            apply wp_bv_i
            intro s_34 e_s_34
            have g_s_34 : A9_ S_ s_34 := by rw [e_s_34]; exact A9_.si g_s_6 (by first | decide | omega) trivial
            exact hk_12 v_29 s_34 g_s_34 (by first | omega | (simp (disch := omega) only [ti_add, ti_sub, b2t_, b2f_, li_0, li_1, li_3, li_11, li_14, li_19, li_20, li_22, li_300, li_10000, li_20000, li_m1]; omega)) (by first | omega | (simp (disch := omega) only [ti_add, ti_sub, b2t_, b2f_, li_0, li_1, li_3, li_11, li_14, li_19, li_20, li_22, li_300, li_10000, li_20000, li_m1]; omega))
          refine wp_if_i (fun h_30_ => ?_) (fun h_30_ => ?_)
          · skip
            have j_31_ := le_ti h_30_
            try simp (disch := omega) only [ti_add, ti_sub, b2t_, b2f_, li_0, li_1, li_3, li_11, li_14, li_19, li_20, li_22, li_300, li_10000, li_20000, li_m1] at j_31_
            refine wp_chk_i (inb_ti (by first | omega | (simp (disch := omega) only [ti_add, ti_sub, b2t_, b2f_, li_0, li_1, li_3, li_11, li_14, li_19, li_20, li_22, li_300, li_10000, li_20000, li_m1]; omega)) (by first | omega | (simp (disch := omega) only [ti_add, ti_sub, b2t_, b2f_, li_0, li_1, li_3, li_11, li_14, li_19, li_20, li_22, li_300, li_10000, li_20000, li_m1]; omega))) ?_
            exact hk_32 v_29 (gi s_6 19 (ix (v_8 - 10000)))  (by first | omega | (simp (disch := omega) only [ti_add, ti_sub, b2t_, b2f_, li_0, li_1, li_3, li_11, li_14, li_19, li_20, li_22, li_300, li_10000, li_20000, li_m1]; omega)) (by first | omega | (simp (disch := omega) only [ti_add, ti_sub, b2t_, b2f_, li_0, li_1, li_3, li_11, li_14, li_19, li_20, li_22, li_300, li_10000, li_20000, li_m1]; omega))
          · skip
            have j_32_ := nle_ti h_30_
            try simp (disch := omega) only [ti_add, ti_sub, b2t_, b2f_, li_0, li_1, li_3, li_11, li_14, li_19, li_20, li_22, li_300, li_10000, li_20000, li_m1] at j_32_
            exact hk_32 v_29 v_8  (by first | omega | (simp (disch := omega) only [ti_add, ti_sub, b2t_, b2f_, li_0, li_1, li_3, li_11, li_14, li_19, li_20, li_22, li_300, li_10000, li_20000, li_m1]; omega)) (by first | omega | (simp (disch := omega) only [ti_add, ti_sub, b2t_, b2f_, li_0, li_1, li_3, li_11, li_14, li_19, li_20, li_22, li_300, li_10000, li_20000, li_m1]; omega))
set_option maxHeartbeats 1000000 in
set_option maxRecDepth 20000 in
theorem tX4_valueOf (a1 : Nat) (a2 : Int32) (a3 : Int32) (s0 : Sg) (h0 : I9_ s0) (hc : ∀ (j : Nat) (v : Int), Bd9_ a1 j v = (v ≤ 10010 ∨ 20000 ≤ v)) (ha2 : 0 ≤ a2.toInt) (ha3 : a3.toInt ≤ 300) : wp_ (fX4_valueOf a1 a2 a3 s0) (fun q => A9_ s0 q.2) := by
  have g_s0 : A9_ s0 s0 := A9_.rf h0
  have hFU_ : FU = 1000000000 := rfl
  generalize hQ : (fun q : (Int32 × Sg) => A9_ s0 q.2) = Q
  unfold fX4_valueOf
  have L0_ := li_0
  have L1_ := li_1
  have L20_ := li_20
  have M1_ := li_m1
  refine wp_jn (fun k_3 => ∀ (x4_1 : Int32) (s_2 : Sg), A9_ s0 s_2 → wp_ (k_3 x4_1 s_2) Q) ?_ (fun k_3 hk_3 => ?_)
  · intro x4_1 s_2 g_s_2
    try dsimp only
    refine wp_if_i (fun h_1_ => ?_) (fun h_1_ => ?_)
    · skip
      have j_2_ := eq_ti h_1_
      try simp (disch := omega) only [ti_add, ti_sub, b2t_, b2f_, li_0, li_1, li_20, li_m1] at j_2_
      exact wp_some_i (by subst hQ; exact g_s_2)
    · skip
      have j_3_ := ne_ti h_1_
      try simp (disch := omega) only [ti_add, ti_sub, b2t_, b2f_, li_0, li_1, li_20, li_m1] at j_3_
      exact wp_some_i (by subst hQ; exact g_s_2)
  exact lX4_valueOf_6_b s0 h0 a1 a3 k_3 hk_3 (by first | omega | (simp (disch := omega) only [ti_add, ti_sub, b2t_, b2f_, li_0, li_1, li_20, li_m1]; omega)) hc FU (-1) a2 s0 g_s0 (by first | omega | (simp (disch := omega) only [ti_add, ti_sub, b2t_, b2f_, li_0, li_1, li_20, li_m1]; omega)) (by first | omega | (simp (disch := omega) only [ti_add, ti_sub, b2t_, b2f_, li_0, li_1, li_20, li_m1]; omega)) (by first | omega | (simp (disch := omega) only [ti_add, ti_sub, b2t_, b2f_, li_0, li_1, li_20, li_m1]; omega)) (by first | omega | (simp (disch := omega) only [ti_add, ti_sub, b2t_, b2f_, li_0, li_1, li_20, li_m1]; omega))
set_option maxHeartbeats 1000000 in
set_option maxRecDepth 20000 in
theorem tX4_borne (a1 : Nat) (a2 : Int32) (a3 : Int32) (a4 : Int32) (a5 : Int32) (s0 : Sg) (h0 : I9_ s0) (hokr : okr_ a1) : wp_ (fX4_borne a1 a2 a3 a4 a5 s0) (fun q => A9_ s0 q.2) := by
  have g_s0 : A9_ s0 s0 := A9_.rf h0
  have hFU_ : FU = 1000000000 := rfl
  generalize hQ : (fun q : (Int32 × Sg) => A9_ s0 q.2) = Q
  unfold fX4_borne
  have L0_ := li_0
  have L1_ := li_1
  have L2_ := li_2
  have L3_ := li_3
  have L4_ := li_4
  have L5_ := li_5
  have L6_ := li_6
  have L19_ := li_19
  have L9999_ := li_9999
  have M1_ := li_m1
  refine wp_if_i (fun h_1_ => ?_) (fun h_1_ => ?_)
  · skip
    exact wp_some_i (by subst hQ; exact g_s0)
  · skip
    have ha1 : isScr a1 = true := (hokr.resolve_left (by assumption))
    have ca1 := scr_cases ha1
    refine wp_chk_i ha1 ?_
    refine wp_if_i (fun h_2_ => ?_) (fun h_2_ => ?_)
    · skip
      have b_3_ : -1 ≤ (gi s0 a1 2).toInt ∧ (gi s0 a1 2).toInt ≤ 300 := by have q_ := g_s0.1.1 a1 2; rw [bd_scr ha1] at q_; exact q_
      have j_4_ := eq_ti h_2_
      try simp (disch := omega) only [ti_add, ti_sub, b2t_, b2f_, li_0, li_1, li_2, li_3, li_4, li_5, li_6, li_19, li_9999, li_m1] at j_4_
      exact wp_some_i (by subst hQ; exact g_s0)
    · skip
      have b_5_ : -1 ≤ (gi s0 a1 2).toInt ∧ (gi s0 a1 2).toInt ≤ 300 := by have q_ := g_s0.1.1 a1 2; rw [bd_scr ha1] at q_; exact q_
      have j_6_ := ne_ti h_2_
      try simp (disch := omega) only [ti_add, ti_sub, b2t_, b2f_, li_0, li_1, li_2, li_3, li_4, li_5, li_6, li_19, li_9999, li_m1] at j_6_
      apply wp_bv_i
      intro s_2 e_s_2
      have g_s_2 : A9_ s0 s_2 := by rw [e_s_2]; exact A9_.si g_s0 (by first | decide | omega) trivial
      apply wp_bv_i
      intro s_3 e_s_3
      have g_s_3 : A9_ s0 s_3 := by rw [e_s_3]; exact A9_.si g_s_2 (by first | decide | omega) trivial
      apply wp_bv_i
      intro s_4 e_s_4
      have g_s_4 : A9_ s0 s_4 := by rw [e_s_4]; exact A9_.si g_s_3 (by first | decide | omega) trivial
      apply wp_bv_i
      intro s_5 e_s_5
      have g_s_5 : A9_ s0 s_5 := by rw [e_s_5]; exact A9_.si g_s_4 (by first | decide | omega) trivial
      have r_7_ : (gi s_2 a1 2).toInt = (gi s0 a1 2).toInt := by rw [e_s_2]; rw [gsi_k (by first | decide | omega)]
      have b_8_ : -1 ≤ (gi s_2 a1 2).toInt ∧ (gi s_2 a1 2).toInt ≤ 300 := by have q_ := g_s_2.1.1 a1 2; rw [bd_scr ha1] at q_; exact q_
      have r_9_ : (gi s_3 a1 2).toInt = (gi s_2 a1 2).toInt := by rw [e_s_3]; rw [gsi_k (by first | decide | omega)]
      have b_10_ : -1 ≤ (gi s_3 a1 2).toInt ∧ (gi s_3 a1 2).toInt ≤ 300 := by have q_ := g_s_3.1.1 a1 2; rw [bd_scr ha1] at q_; exact q_
      have r_11_ : (gi s_4 a1 2).toInt = (gi s_3 a1 2).toInt := by rw [e_s_4]; rw [gsi_k (by first | decide | omega)]
      have b_12_ : -1 ≤ (gi s_4 a1 2).toInt ∧ (gi s_4 a1 2).toInt ≤ 300 := by have q_ := g_s_4.1.1 a1 2; rw [bd_scr ha1] at q_; exact q_
      have r_13_ : (gi s_5 a1 2).toInt = (gi s_4 a1 2).toInt := by rw [e_s_5]; rw [gsi_k (by first | decide | omega)]
      have b_14_ : -1 ≤ (gi s_5 a1 2).toInt ∧ (gi s_5 a1 2).toInt ≤ 300 := by have q_ := g_s_5.1.1 a1 2; rw [bd_scr ha1] at q_; exact q_
      have b_15_ : (gi s0 a1 3).toInt ≤ 300 := by have q_ := g_s0.1.1 a1 3; rw [bd_scr ha1] at q_; exact q_
      have r_16_ : (gi s_2 a1 3).toInt = (gi s0 a1 3).toInt := by rw [e_s_2]; rw [gsi_k (by first | decide | omega)]
      have b_17_ : (gi s_2 a1 3).toInt ≤ 300 := by have q_ := g_s_2.1.1 a1 3; rw [bd_scr ha1] at q_; exact q_
      have r_18_ : (gi s_3 a1 3).toInt = (gi s_2 a1 3).toInt := by rw [e_s_3]; rw [gsi_k (by first | decide | omega)]
      have b_19_ : (gi s_3 a1 3).toInt ≤ 300 := by have q_ := g_s_3.1.1 a1 3; rw [bd_scr ha1] at q_; exact q_
      have r_20_ : (gi s_4 a1 3).toInt = (gi s_3 a1 3).toInt := by rw [e_s_4]; rw [gsi_k (by first | decide | omega)]
      have b_21_ : (gi s_4 a1 3).toInt ≤ 300 := by have q_ := g_s_4.1.1 a1 3; rw [bd_scr ha1] at q_; exact q_
      have r_22_ : (gi s_5 a1 3).toInt = (gi s_4 a1 3).toInt := by rw [e_s_5]; rw [gsi_k (by first | decide | omega)]
      have b_23_ : (gi s_5 a1 3).toInt ≤ 300 := by have q_ := g_s_5.1.1 a1 3; rw [bd_scr ha1] at q_; exact q_
      refine wp_bnd_i (tX4_valueOf (a1 + 1) (gi s_5 a1 2) (gi s_5 a1 3) s_5 g_s_5.1 (fun j v => bd_code ha1 j v) (by first | omega | (simp (disch := omega) only [ti_add, ti_sub, b2t_, b2f_, li_0, li_1, li_2, li_3, li_4, li_5, li_6, li_19, li_9999, li_m1]; omega)) (by first | omega | (simp (disch := omega) only [ti_add, ti_sub, b2t_, b2f_, li_0, li_1, li_2, li_3, li_4, li_5, li_6, li_19, li_9999, li_m1]; omega))) (fun r_6 s_7 p_s_7 => ?_)
      have g_s_7 := g_s_5.tr p_s_7
      have a_s_7 := p_s_7
      refine wp_if_i (fun h_24_ => ?_) (fun h_24_ => ?_)
      · skip
        have j_25_ := le_ti h_24_
        try simp (disch := omega) only [ti_add, ti_sub, b2t_, b2f_, li_0, li_1, li_2, li_3, li_4, li_5, li_6, li_19, li_9999, li_m1] at j_25_
        refine wp_if_i (fun h_26_ => ?_) (fun h_26_ => ?_)
        · skip
          have j_27_ := le_ti h_26_
          try simp (disch := omega) only [ti_add, ti_sub, b2t_, b2f_, li_0, li_1, li_2, li_3, li_4, li_5, li_6, li_19, li_9999, li_m1] at j_27_
          exact wp_some_i (by subst hQ; exact g_s_7)
        · skip
          have j_28_ := nle_ti h_26_
          try simp (disch := omega) only [ti_add, ti_sub, b2t_, b2f_, li_0, li_1, li_2, li_3, li_4, li_5, li_6, li_19, li_9999, li_m1] at j_28_
          exact wp_some_i (by subst hQ; exact g_s_7)
      · skip
        have j_29_ := nle_ti h_24_
        try simp (disch := omega) only [ti_add, ti_sub, b2t_, b2f_, li_0, li_1, li_2, li_3, li_4, li_5, li_6, li_19, li_9999, li_m1] at j_29_
        exact wp_some_i (by subst hQ; exact g_s_7)
set_option maxHeartbeats 1000000 in
set_option maxRecDepth 20000 in
theorem tX4_isSafe (a1 : Nat) (s0 : Sg) (h0 : I9_ s0) (hokr : okr_ a1) : wp_ (fX4_isSafe a1 s0) (fun q => A9_ s0 q.2) := by
  have g_s0 : A9_ s0 s0 := A9_.rf h0
  have hFU_ : FU = 1000000000 := rfl
  generalize hQ : (fun q : (Bool × Sg) => A9_ s0 q.2) = Q
  unfold fX4_isSafe
  have L0_ := li_0
  have L1_ := li_1
  have L2_ := li_2
  have L3_ := li_3
  have L4_ := li_4
  have L5_ := li_5
  have L6_ := li_6
  have L7_ := li_7
  have L8_ := li_8
  have L9_ := li_9
  have L10_ := li_10
  have L19_ := li_19
  have M1_ := li_m1
  refine wp_if_i (fun h_1_ => ?_) (fun h_1_ => ?_)
  · skip
    exact wp_some_i (by subst hQ; exact g_s0)
  · skip
    have ha1 : isScr a1 = true := (hokr.resolve_left (by assumption))
    have ca1 := scr_cases ha1
    refine wp_chk_i ha1 ?_
    refine wp_if_i (fun h_2_ => ?_) (fun h_2_ => ?_)
    · skip
      have b_3_ : -1 ≤ (gi s0 a1 4).toInt ∧ (gi s0 a1 4).toInt ≤ 300 := by have q_ := g_s0.1.1 a1 4; rw [bd_scr ha1] at q_; exact q_
      have j_4_ := eq_ti h_2_
      try simp (disch := omega) only [ti_add, ti_sub, b2t_, b2f_, li_0, li_1, li_2, li_3, li_4, li_5, li_6, li_7, li_8, li_9, li_10, li_19, li_m1] at j_4_
      exact wp_some_i (by subst hQ; exact g_s0)
    · skip
      have b_5_ : -1 ≤ (gi s0 a1 4).toInt ∧ (gi s0 a1 4).toInt ≤ 300 := by have q_ := g_s0.1.1 a1 4; rw [bd_scr ha1] at q_; exact q_
      have j_6_ := ne_ti h_2_
      try simp (disch := omega) only [ti_add, ti_sub, b2t_, b2f_, li_0, li_1, li_2, li_3, li_4, li_5, li_6, li_7, li_8, li_9, li_10, li_19, li_m1] at j_6_
      apply wp_bv_i
      intro s_2 e_s_2
      have g_s_2 : A9_ s0 s_2 := by rw [e_s_2]; exact A9_.si g_s0 (by first | decide | omega) trivial
      apply wp_bv_i
      intro s_3 e_s_3
      have g_s_3 : A9_ s0 s_3 := by rw [e_s_3]; exact A9_.si g_s_2 (by first | decide | omega) trivial
      refine wp_bnd_i (tX4_held (Int32.toInt64 (gi s_3 6 4)) s_3 g_s_3.1 ) (fun r_4 s_5 p_s_5 => ?_)
      have e_s_5 : s_5 = s_3 := p_s_5
      have g_s_5 : A9_ s0 s_5 := by rw [e_s_5]; exact g_s_3
      apply wp_bv_i
      intro s_6 e_s_6
      have g_s_6 : A9_ s0 s_6 := by rw [e_s_6]; exact A9_.si g_s_5 (by first | decide | omega) trivial
      refine wp_bnd_i (tX4_held (Int32.toInt64 (iabs (gi s_6 6 4))) s_6 g_s_6.1 ) (fun r_7 s_8 p_s_8 => ?_)
      have e_s_8 : s_8 = s_6 := p_s_8
      have g_s_8 : A9_ s0 s_8 := by rw [e_s_8]; exact g_s_6
      apply wp_bv_i
      intro s_9 e_s_9
      have g_s_9 : A9_ s0 s_9 := by rw [e_s_9]; exact A9_.si g_s_8 (by first | decide | omega) trivial
      have r_7_ : (gi s_2 a1 4).toInt = (gi s0 a1 4).toInt := by rw [e_s_2]; rw [gsi_k (by first | decide | omega)]
      have b_8_ : -1 ≤ (gi s_2 a1 4).toInt ∧ (gi s_2 a1 4).toInt ≤ 300 := by have q_ := g_s_2.1.1 a1 4; rw [bd_scr ha1] at q_; exact q_
      have r_9_ : (gi s_3 a1 4).toInt = (gi s_2 a1 4).toInt := by rw [e_s_3]; rw [gsi_k (by first | decide | omega)]
      have b_10_ : -1 ≤ (gi s_3 a1 4).toInt ∧ (gi s_3 a1 4).toInt ≤ 300 := by have q_ := g_s_3.1.1 a1 4; rw [bd_scr ha1] at q_; exact q_
      have r_11_ : (gi s_5 a1 4).toInt = (gi s_3 a1 4).toInt := by rw [e_s_5]
      have b_12_ : -1 ≤ (gi s_5 a1 4).toInt ∧ (gi s_5 a1 4).toInt ≤ 300 := by have q_ := g_s_5.1.1 a1 4; rw [bd_scr ha1] at q_; exact q_
      have r_13_ : (gi s_6 a1 4).toInt = (gi s_5 a1 4).toInt := by rw [e_s_6]; rw [gsi_k (by first | decide | omega)]
      have b_14_ : -1 ≤ (gi s_6 a1 4).toInt ∧ (gi s_6 a1 4).toInt ≤ 300 := by have q_ := g_s_6.1.1 a1 4; rw [bd_scr ha1] at q_; exact q_
      have r_15_ : (gi s_8 a1 4).toInt = (gi s_6 a1 4).toInt := by rw [e_s_8]
      have b_16_ : -1 ≤ (gi s_8 a1 4).toInt ∧ (gi s_8 a1 4).toInt ≤ 300 := by have q_ := g_s_8.1.1 a1 4; rw [bd_scr ha1] at q_; exact q_
      have r_17_ : (gi s_9 a1 4).toInt = (gi s_8 a1 4).toInt := by rw [e_s_9]; rw [gsi_k (by first | decide | omega)]
      have b_18_ : -1 ≤ (gi s_9 a1 4).toInt ∧ (gi s_9 a1 4).toInt ≤ 300 := by have q_ := g_s_9.1.1 a1 4; rw [bd_scr ha1] at q_; exact q_
      have b_19_ : (gi s0 a1 5).toInt ≤ 300 := by have q_ := g_s0.1.1 a1 5; rw [bd_scr ha1] at q_; exact q_
      have r_20_ : (gi s_2 a1 5).toInt = (gi s0 a1 5).toInt := by rw [e_s_2]; rw [gsi_k (by first | decide | omega)]
      have b_21_ : (gi s_2 a1 5).toInt ≤ 300 := by have q_ := g_s_2.1.1 a1 5; rw [bd_scr ha1] at q_; exact q_
      have r_22_ : (gi s_3 a1 5).toInt = (gi s_2 a1 5).toInt := by rw [e_s_3]; rw [gsi_k (by first | decide | omega)]
      have b_23_ : (gi s_3 a1 5).toInt ≤ 300 := by have q_ := g_s_3.1.1 a1 5; rw [bd_scr ha1] at q_; exact q_
      have r_24_ : (gi s_5 a1 5).toInt = (gi s_3 a1 5).toInt := by rw [e_s_5]
      have b_25_ : (gi s_5 a1 5).toInt ≤ 300 := by have q_ := g_s_5.1.1 a1 5; rw [bd_scr ha1] at q_; exact q_
      have r_26_ : (gi s_6 a1 5).toInt = (gi s_5 a1 5).toInt := by rw [e_s_6]; rw [gsi_k (by first | decide | omega)]
      have b_27_ : (gi s_6 a1 5).toInt ≤ 300 := by have q_ := g_s_6.1.1 a1 5; rw [bd_scr ha1] at q_; exact q_
      have r_28_ : (gi s_8 a1 5).toInt = (gi s_6 a1 5).toInt := by rw [e_s_8]
      have b_29_ : (gi s_8 a1 5).toInt ≤ 300 := by have q_ := g_s_8.1.1 a1 5; rw [bd_scr ha1] at q_; exact q_
      have r_30_ : (gi s_9 a1 5).toInt = (gi s_8 a1 5).toInt := by rw [e_s_9]; rw [gsi_k (by first | decide | omega)]
      have b_31_ : (gi s_9 a1 5).toInt ≤ 300 := by have q_ := g_s_9.1.1 a1 5; rw [bd_scr ha1] at q_; exact q_
      refine wp_bnd_i (tX4_valueOf (a1 + 1) (gi s_9 a1 4) (gi s_9 a1 5) s_9 g_s_9.1 (fun j v => bd_code ha1 j v) (by first | omega | (simp (disch := omega) only [ti_add, ti_sub, b2t_, b2f_, li_0, li_1, li_2, li_3, li_4, li_5, li_6, li_7, li_8, li_9, li_10, li_19, li_m1]; omega)) (by first | omega | (simp (disch := omega) only [ti_add, ti_sub, b2t_, b2f_, li_0, li_1, li_2, li_3, li_4, li_5, li_6, li_7, li_8, li_9, li_10, li_19, li_m1]; omega))) (fun r_10 s_11 p_s_11 => ?_)
      have g_s_11 := g_s_9.tr p_s_11
      have a_s_11 := p_s_11
      refine wp_if_i (fun h_32_ => ?_) (fun h_32_ => ?_)
      · skip
        have j_33_ := eq_ti h_32_
        try simp (disch := omega) only [ti_add, ti_sub, b2t_, b2f_, li_0, li_1, li_2, li_3, li_4, li_5, li_6, li_7, li_8, li_9, li_10, li_19, li_m1] at j_33_
        exact wp_some_i (by subst hQ; exact g_s_11)
      · skip
        have j_34_ := ne_ti h_32_
        try simp (disch := omega) only [ti_add, ti_sub, b2t_, b2f_, li_0, li_1, li_2, li_3, li_4, li_5, li_6, li_7, li_8, li_9, li_10, li_19, li_m1] at j_34_
        exact wp_some_i (by subst hQ; exact g_s_11)
set_option maxHeartbeats 1000000 in
set_option maxRecDepth 20000 in
theorem lX4_weigh_9_b {Q : (Sg) → Prop} (S_ : Sg) (hI_ : I9_ S_) (a2 : Int32) (a3 : Int32) (k_4 : Int32 → Int32 → Sg → Option (Sg)) (hk_4 : ∀ (z0_ : Int32) (z1_ : Int32) (z2_ : Sg), A9_ S_ z2_ → wp_ (k_4 z0_ z1_ z2_) Q)  : ∀ (n : Nat) (x4_6 : Int32) (x5_7 : Int32) (x6_8 : Int32) (s_9 : Sg), A9_ S_ s_9 → 0 ≤ x6_8.toInt → (12 - x6_8.toInt).toNat < n → wp_ (lo4 (fX4_weigh_9_b a2 a3 k_4) n x4_6 x5_7 x6_8 s_9) Q := by
  intro n
  induction n with
  | zero =>
    intro x4_6 x5_7 x6_8 s_9 _ _ hm_
    exact absurd hm_ (Nat.not_lt_zero _)
  | succ n ih =>
    intro x4_6 x5_7 x6_8 s_9 g_s_9 i0_ hm_
    show wp_ (fX4_weigh_9_b a2 a3 k_4 (lo4 (fX4_weigh_9_b a2 a3 k_4) n) x4_6 x5_7 x6_8 s_9) Q
    have hrec := ih
    generalize lo4 (fX4_weigh_9_b a2 a3 k_4) n = rc at hrec ⊢
    clear ih
    have hFU_ : FU = 1000000000 := rfl
    unfold fX4_weigh_9_b
    have L0_ := li_0
    have L1_ := li_1
    have L6_ := li_6
    have L9_ := li_9
    have L10_ := li_10
    have L12_ := li_12
    have L13_ := li_13
    have L31_ := li_31
    have M1_ := li_m1
    refine wp_if_i (fun h_1_ => ?_) (fun h_1_ => ?_)
    · skip
      have b_2_ : 0 ≤ (gi s_9 1 6).toInt ∧ (gi s_9 1 6).toInt ≤ 12 := g_s_9.1.1 1 6
      have j_3_ := le_ti h_1_
      try simp (disch := omega) only [ti_add, ti_sub, b2t_, b2f_, li_0, li_1, li_6, li_9, li_10, li_12, li_13, li_31, li_m1] at j_3_
      exact hk_4 x4_6 x5_7 s_9 g_s_9 
    · skip
      have b_4_ : 0 ≤ (gi s_9 1 6).toInt ∧ (gi s_9 1 6).toInt ≤ 12 := g_s_9.1.1 1 6
      have j_5_ := nle_ti h_1_
      try simp (disch := omega) only [ti_add, ti_sub, b2t_, b2f_, li_0, li_1, li_6, li_9, li_10, li_12, li_13, li_31, li_m1] at j_5_
      refine wp_jn (fun k_13 => ∀ (x4_10 : Int32) (x5_11 : Int32) (s_12 : Sg), A9_ S_ s_12 → wp_ (k_13 x4_10 x5_11 s_12) Q) ?_ (fun k_13 hk_13 => ?_)
      · intro x4_10 x5_11 s_12 g_s_12
        try dsimp only
        apply wp_bv_i
        intro v_14 e_v_14
        have j_6_ := eq_ti e_v_14
        try simp (disch := omega) only [ti_add, ti_sub, b2t_, b2f_, li_0, li_1, li_6, li_9, li_10, li_12, li_13, li_31, li_m1] at j_6_
        exact hrec x4_10 x5_11 v_14 s_12 g_s_12 (by first | omega | (simp (disch := omega) only [ti_add, ti_sub, b2t_, b2f_, li_0, li_1, li_6, li_9, li_10, li_12, li_13, li_31, li_m1]; omega)) (by first | omega | (simp (disch := omega) only [ti_add, ti_sub, b2t_, b2f_, li_0, li_1, li_6, li_9, li_10, li_12, li_13, li_31, li_m1]; omega))
      refine wp_if_i (fun h_7_ => ?_) (fun h_7_ => ?_)
      · skip
        have j_8_ := eq_ti h_7_
        try simp (disch := omega) only [ti_add, ti_sub, b2t_, b2f_, li_0, li_1, li_6, li_9, li_10, li_12, li_13, li_31, li_m1] at j_8_
        refine wp_chk_i (inb_ti (by first | omega | (simp (disch := omega) only [ti_add, ti_sub, b2t_, b2f_, li_0, li_1, li_6, li_9, li_10, li_12, li_13, li_31, li_m1]; omega)) (by first | omega | (simp (disch := omega) only [ti_add, ti_sub, b2t_, b2f_, li_0, li_1, li_6, li_9, li_10, li_12, li_13, li_31, li_m1]; omega))) ?_
        refine wp_bnd_i (tX4_borne (gr s_9 1 13) x6_8 (gi s_9 9 (ix x6_8)) (gi s_9 10 (ix x6_8)) 0 s_9 g_s_9.1 g_s_9.1.2.1) (fun r_20 s_21 p_s_21 => ?_)
        have g_s_21 := g_s_9.tr p_s_21
        have a_s_21 := p_s_21
        apply wp_bv_i
        intro v_22 e_v_22
        have j_9_ := eq_ti e_v_22
        try simp (disch := omega) only [ti_add, ti_sub, b2t_, b2f_, li_0, li_1, li_6, li_9, li_10, li_12, li_13, li_31, li_m1] at j_9_
        exact hk_13 v_22 x5_7 s_21 g_s_21 
      · skip
        have j_10_ := ne_ti h_7_
        try simp (disch := omega) only [ti_add, ti_sub, b2t_, b2f_, li_0, li_1, li_6, li_9, li_10, li_12, li_13, li_31, li_m1] at j_10_
        refine wp_if_i (fun h_11_ => ?_) (fun h_11_ => ?_)
        · skip
          have j_12_ := eq_ti h_11_
          try simp (disch := omega) only [ti_add, ti_sub, b2t_, b2f_, li_0, li_1, li_6, li_9, li_10, li_12, li_13, li_31, li_m1] at j_12_
          refine wp_chk_i (inb_ti (by first | omega | (simp (disch := omega) only [ti_add, ti_sub, b2t_, b2f_, li_0, li_1, li_6, li_9, li_10, li_12, li_13, li_31, li_m1]; omega)) (by first | omega | (simp (disch := omega) only [ti_add, ti_sub, b2t_, b2f_, li_0, li_1, li_6, li_9, li_10, li_12, li_13, li_31, li_m1]; omega))) ?_
          refine wp_bnd_i (tX4_borne (gr s_9 1 13) x6_8 (gi s_9 9 (ix x6_8)) (gi s_9 10 (ix x6_8)) 1 s_9 g_s_9.1 g_s_9.1.2.1) (fun r_16 s_17 p_s_17 => ?_)
          have g_s_17 := g_s_9.tr p_s_17
          have a_s_17 := p_s_17
          apply wp_bv_i
          intro v_18 e_v_18
          have j_13_ := eq_ti e_v_18
          try simp (disch := omega) only [ti_add, ti_sub, b2t_, b2f_, li_0, li_1, li_6, li_9, li_10, li_12, li_13, li_31, li_m1] at j_13_
          exact hk_13 x4_6 v_18 s_17 g_s_17 
        · skip
          have j_14_ := ne_ti h_11_
          try simp (disch := omega) only [ti_add, ti_sub, b2t_, b2f_, li_0, li_1, li_6, li_9, li_10, li_12, li_13, li_31, li_m1] at j_14_
          exact hk_13 x4_6 x5_7 s_9 g_s_9 
set_option maxHeartbeats 1000000 in
set_option maxRecDepth 20000 in
theorem tX4_weigh (a2 : Int32) (a3 : Int32) (s0 : Sg) (h0 : I9_ s0)  : wp_ (fX4_weigh a2 a3 s0) (fun q => A9_ s0 q) := by
  have g_s0 : A9_ s0 s0 := A9_.rf h0
  have hFU_ : FU = 1000000000 := rfl
  generalize hQ : (fun q : (Sg) => A9_ s0 q) = Q
  unfold fX4_weigh
  have L0_ := li_0
  have L1_ := li_1
  have M1_ := li_m1
  refine wp_jn (fun k_4 => ∀ (x4_1 : Int32) (x5_2 : Int32) (s_3 : Sg), A9_ s0 s_3 → wp_ (k_4 x4_1 x5_2 s_3) Q) ?_ (fun k_4 hk_4 => ?_)
  · intro x4_1 x5_2 s_3 g_s_3
    try dsimp only
    refine wp_bnv_i (tX4_hang x4_1 x5_2 s_3 g_s_3.1 ) (fun s_5 p_s_5 => ?_)
    have g_s_5 := g_s_3.tr p_s_5
    have a_s_5 := p_s_5
    exact wp_some_i (by subst hQ; exact g_s_5)
  exact lX4_weigh_9_b s0 h0 a2 a3 k_4 hk_4  FU 0 0 0 s0 g_s0 (by first | omega | (simp (disch := omega) only [ti_add, ti_sub, b2t_, b2f_, li_0, li_1, li_m1]; omega)) (by first | omega | (simp (disch := omega) only [ti_add, ti_sub, b2t_, b2f_, li_0, li_1, li_m1]; omega))
