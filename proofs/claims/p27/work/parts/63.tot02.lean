set_option maxHeartbeats 1000000 in
set_option maxRecDepth 20000 in
theorem tX5_clear (q0 : Nat) (s0 : Sg) (h0 : I9_ s0) (hq : isScr q0 = true) : wp_ (fX5_clear q0 s0) (fun q => R9_ s0 q) := by
  have g_s0 : R9_ s0 s0 := R9_.rf h0
  have hFU_ : FU = 1000000000 := rfl
  generalize hQ : (fun q : (Sg) => R9_ s0 q) = Q
  unfold fX5_clear
  have L0_ := li_0
  have L1_ := li_1
  have L2_ := li_2
  have L4_ := li_4
  have L9_ := li_9
  have M1_ := li_m1
  have cq0 := scr_cases hq
  apply wp_bv_i
  intro s_1 e_s_1
  have g_s_1 : R9_ s0 s_1 := by rw [e_s_1]; exact R9_.si g_s0 (by first | decide | omega) (by rw [bd_scr hq]; exact (show 0 ≤ ((0 : Int32)).toInt ∧ ((0 : Int32)).toInt ≤ 300 from ⟨by first | omega | (simp (disch := omega) only [ti_add, ti_sub, b2t_, b2f_, li_0, li_1, li_2, li_4, li_9, li_m1]; omega), by first | omega | (simp (disch := omega) only [ti_add, ti_sub, b2t_, b2f_, li_0, li_1, li_2, li_4, li_9, li_m1]; omega)⟩))
  apply wp_bv_i
  intro s_2 e_s_2
  have g_s_2 : R9_ s0 s_2 := by rw [e_s_2]; exact R9_.si g_s_1 (by first | decide | omega) (by rw [bd_scr hq]; exact (show -1 ≤ (((-1) : Int32)).toInt ∧ (((-1) : Int32)).toInt ≤ 300 from ⟨by first | omega | (simp (disch := omega) only [ti_add, ti_sub, b2t_, b2f_, li_0, li_1, li_2, li_4, li_9, li_m1]; omega), by first | omega | (simp (disch := omega) only [ti_add, ti_sub, b2t_, b2f_, li_0, li_1, li_2, li_4, li_9, li_m1]; omega)⟩))
  apply wp_bv_i
  intro s_3 e_s_3
  have g_s_3 : R9_ s0 s_3 := by rw [e_s_3]; exact R9_.si g_s_2 (by first | decide | omega) (by rw [bd_scr hq]; exact (show -1 ≤ (((-1) : Int32)).toInt ∧ (((-1) : Int32)).toInt ≤ 300 from ⟨by first | omega | (simp (disch := omega) only [ti_add, ti_sub, b2t_, b2f_, li_0, li_1, li_2, li_4, li_9, li_m1]; omega), by first | omega | (simp (disch := omega) only [ti_add, ti_sub, b2t_, b2f_, li_0, li_1, li_2, li_4, li_9, li_m1]; omega)⟩))
  apply wp_bv_i
  intro s_4 e_s_4
  have g_s_4 : R9_ s0 s_4 := by rw [e_s_4]; exact R9_.si g_s_3 (by first | decide | omega) (by rw [bd_scr hq]; exact (show 0 ≤ ((0 : Int32)).toInt ∧ ((0 : Int32)).toInt ≤ 24 from ⟨by first | omega | (simp (disch := omega) only [ti_add, ti_sub, b2t_, b2f_, li_0, li_1, li_2, li_4, li_9, li_m1]; omega), by first | omega | (simp (disch := omega) only [ti_add, ti_sub, b2t_, b2f_, li_0, li_1, li_2, li_4, li_9, li_m1]; omega)⟩))
  exact wp_some_i (by subst hQ; exact g_s_4)
set_option maxHeartbeats 1000000 in
set_option maxRecDepth 20000 in
theorem tX5_emit (q0 : Nat) (a1 : Int32) (s0 : Sg) (h0 : I9_ s0) (hq : isScr q0 = true) (ha : a1.toInt ≤ 10010 ∨ 20000 ≤ a1.toInt) : wp_ (fX5_emit q0 a1 s0) (fun q => R9_ s0 q ∧ (∀ k, k ≠ q0 → k ≠ q0 + 1 → gi q k = gi s0 k)) := by
  have g_s0 : R9_ s0 s0 := R9_.rf h0
  have hFU_ : FU = 1000000000 := rfl
  generalize hQ : (fun q : (Sg) => R9_ s0 q ∧ (∀ k, k ≠ q0 → k ≠ q0 + 1 → gi q k = gi s0 k)) = Q
  unfold fX5_emit
  have L0_ := li_0
  have L1_ := li_1
  have L300_ := li_300
  have M1_ := li_m1
  have cq0 := scr_cases hq
  refine wp_if_i (fun h_1_ => ?_) (fun h_1_ => ?_)
  · skip
    have b_2_ : 0 ≤ (gi s0 q0 1).toInt ∧ (gi s0 q0 1).toInt ≤ 300 := by have q_ := g_s0.1.1 q0 1; rw [bd_scr hq] at q_; exact q_
    have j_3_ := le_ti h_1_
    try simp (disch := omega) only [ti_add, ti_sub, b2t_, b2f_, li_0, li_1, li_300, li_m1] at j_3_
    exact wp_some_i (by subst hQ; exact ⟨g_s0, fun k a_ b_ => rfl⟩)
  · skip
    have b_4_ : 0 ≤ (gi s0 q0 1).toInt ∧ (gi s0 q0 1).toInt ≤ 300 := by have q_ := g_s0.1.1 q0 1; rw [bd_scr hq] at q_; exact q_
    have j_5_ := nle_ti h_1_
    try simp (disch := omega) only [ti_add, ti_sub, b2t_, b2f_, li_0, li_1, li_300, li_m1] at j_5_
    refine wp_chk_i (inb_ti (by first | omega | (simp (disch := omega) only [ti_add, ti_sub, b2t_, b2f_, li_0, li_1, li_300, li_m1]; omega)) (by first | omega | (simp (disch := omega) only [ti_add, ti_sub, b2t_, b2f_, li_0, li_1, li_300, li_m1]; omega))) ?_
    apply wp_bv_i
    intro s_2 e_s_2
    have g_s_2 : R9_ s0 s_2 := by rw [e_s_2]; exact R9_.si g_s0 (by first | decide | omega) (by rw [bd_code hq]; first | omega | (simp (disch := omega) only [ti_add, ti_sub, b2t_, b2f_, li_0, li_1, li_300, li_m1]; omega))
    have r_6_ : (gi s_2 q0 1).toInt = (gi s0 q0 1).toInt := by rw [e_s_2]; rw [gsi_k (by first | decide | omega)]
    have b_7_ : 0 ≤ (gi s_2 q0 1).toInt ∧ (gi s_2 q0 1).toInt ≤ 300 := by have q_ := g_s_2.1.1 q0 1; rw [bd_scr hq] at q_; exact q_
    apply wp_bv_i
    intro s_3 e_s_3
    have g_s_3 : R9_ s0 s_3 := by rw [e_s_3]; exact R9_.si g_s_2 (by first | decide | omega) (by rw [bd_scr hq]; exact (show 0 ≤ ((((gi s_2 q0 1) + 1) : Int32)).toInt ∧ ((((gi s_2 q0 1) + 1) : Int32)).toInt ≤ 300 from ⟨by first | omega | (simp (disch := omega) only [ti_add, ti_sub, b2t_, b2f_, li_0, li_1, li_300, li_m1]; omega), by first | omega | (simp (disch := omega) only [ti_add, ti_sub, b2t_, b2f_, li_0, li_1, li_300, li_m1]; omega)⟩))
    exact wp_some_i (by subst hQ; exact ⟨g_s_3, fun k a_ b_ => by rw [e_s_3, gsi_f a_, e_s_2, gsi_f b_]⟩)
set_option maxHeartbeats 1000000 in
set_option maxRecDepth 20000 in
theorem tX5_addClause (q0 : Nat) (a1 : Int32) (a2 : Int32) (a3 : Int32) (s0 : Sg) (h0 : I9_ s0) (hq : isScr q0 = true) : wp_ (fX5_addClause q0 a1 a2 a3 s0) (fun q => R9_ s0 q) := by
  have g_s0 : R9_ s0 s0 := R9_.rf h0
  have hFU_ : FU = 1000000000 := rfl
  generalize hQ : (fun q : (Sg) => R9_ s0 q) = Q
  unfold fX5_addClause
  have L0_ := li_0
  have L1_ := li_1
  have L2_ := li_2
  have L3_ := li_3
  have L4_ := li_4
  have L9_ := li_9
  have L24_ := li_24
  have M1_ := li_m1
  have cq0 := scr_cases hq
  refine wp_if_i (fun h_1_ => ?_) (fun h_1_ => ?_)
  · skip
    have b_2_ : 0 ≤ (gi s0 q0 9).toInt ∧ (gi s0 q0 9).toInt ≤ 24 := by have q_ := g_s0.1.1 q0 9; rw [bd_scr hq] at q_; exact q_
    have j_3_ := le_ti h_1_
    try simp (disch := omega) only [ti_add, ti_sub, b2t_, b2f_, li_0, li_1, li_2, li_3, li_4, li_9, li_24, li_m1] at j_3_
    exact wp_some_i (by subst hQ; exact g_s0)
  · skip
    have b_4_ : 0 ≤ (gi s0 q0 9).toInt ∧ (gi s0 q0 9).toInt ≤ 24 := by have q_ := g_s0.1.1 q0 9; rw [bd_scr hq] at q_; exact q_
    have j_5_ := nle_ti h_1_
    try simp (disch := omega) only [ti_add, ti_sub, b2t_, b2f_, li_0, li_1, li_2, li_3, li_4, li_9, li_24, li_m1] at j_5_
    refine wp_chk_i (inb_ti (by first | omega | (simp (disch := omega) only [ti_add, ti_sub, b2t_, b2f_, li_0, li_1, li_2, li_3, li_4, li_9, li_24, li_m1]; omega)) (by first | omega | (simp (disch := omega) only [ti_add, ti_sub, b2t_, b2f_, li_0, li_1, li_2, li_3, li_4, li_9, li_24, li_m1]; omega))) ?_
    apply wp_bv_i
    intro s_2 e_s_2
    have g_s_2 : R9_ s0 s_2 := by rw [e_s_2]; exact R9_.si g_s0 (by first | decide | omega) (by rw [bd_free hq 2 _ (by decide) (by decide)]; trivial)
    have r_6_ : (gi s_2 q0 9).toInt = (gi s0 q0 9).toInt := by rw [e_s_2]; rw [gsi_k (by first | decide | omega)]
    have b_7_ : 0 ≤ (gi s_2 q0 9).toInt ∧ (gi s_2 q0 9).toInt ≤ 24 := by have q_ := g_s_2.1.1 q0 9; rw [bd_scr hq] at q_; exact q_
    refine wp_chk_i (inb_ti (by first | omega | (simp (disch := omega) only [ti_add, ti_sub, b2t_, b2f_, li_0, li_1, li_2, li_3, li_4, li_9, li_24, li_m1]; omega)) (by first | omega | (simp (disch := omega) only [ti_add, ti_sub, b2t_, b2f_, li_0, li_1, li_2, li_3, li_4, li_9, li_24, li_m1]; omega))) ?_
    apply wp_bv_i
    intro s_4 e_s_4
    have g_s_4 : R9_ s0 s_4 := by rw [e_s_4]; exact R9_.si g_s_2 (by first | decide | omega) (by rw [bd_free hq 3 _ (by decide) (by decide)]; trivial)
    have r_8_ : (gi s_4 q0 9).toInt = (gi s_2 q0 9).toInt := by rw [e_s_4]; rw [gsi_k (by first | decide | omega)]
    have b_9_ : 0 ≤ (gi s_4 q0 9).toInt ∧ (gi s_4 q0 9).toInt ≤ 24 := by have q_ := g_s_4.1.1 q0 9; rw [bd_scr hq] at q_; exact q_
    refine wp_chk_i (inb_ti (by first | omega | (simp (disch := omega) only [ti_add, ti_sub, b2t_, b2f_, li_0, li_1, li_2, li_3, li_4, li_9, li_24, li_m1]; omega)) (by first | omega | (simp (disch := omega) only [ti_add, ti_sub, b2t_, b2f_, li_0, li_1, li_2, li_3, li_4, li_9, li_24, li_m1]; omega))) ?_
    apply wp_bv_i
    intro s_6 e_s_6
    have g_s_6 : R9_ s0 s_6 := by rw [e_s_6]; exact R9_.si g_s_4 (by first | decide | omega) (by rw [bd_free hq 4 _ (by decide) (by decide)]; trivial)
    have r_10_ : (gi s_6 q0 9).toInt = (gi s_4 q0 9).toInt := by rw [e_s_6]; rw [gsi_k (by first | decide | omega)]
    have b_11_ : 0 ≤ (gi s_6 q0 9).toInt ∧ (gi s_6 q0 9).toInt ≤ 24 := by have q_ := g_s_6.1.1 q0 9; rw [bd_scr hq] at q_; exact q_
    apply wp_bv_i
    intro s_7 e_s_7
    have g_s_7 : R9_ s0 s_7 := by rw [e_s_7]; exact R9_.si g_s_6 (by first | decide | omega) (by rw [bd_scr hq]; exact (show 0 ≤ ((((gi s_6 q0 9) + 1) : Int32)).toInt ∧ ((((gi s_6 q0 9) + 1) : Int32)).toInt ≤ 24 from ⟨by first | omega | (simp (disch := omega) only [ti_add, ti_sub, b2t_, b2f_, li_0, li_1, li_2, li_3, li_4, li_9, li_24, li_m1]; omega), by first | omega | (simp (disch := omega) only [ti_add, ti_sub, b2t_, b2f_, li_0, li_1, li_2, li_3, li_4, li_9, li_24, li_m1]; omega)⟩))
    exact wp_some_i (by subst hQ; exact g_s_7)
set_option maxHeartbeats 1000000 in
set_option maxRecDepth 20000 in
theorem tX2_headFault (a1 : Int32) (s0 : Sg) (h0 : I9_ s0) (hS : isScr (gr s0 4 3) = true) : wp_ (fX2_headFault a1 s0) (fun q => q.2 = s0) := by
  have g_s0 : R9_ s0 s0 := R9_.rf h0
  have hFU_ : FU = 1000000000 := rfl
  generalize hQ : (fun q : (Int32 × Sg) => q.2 = s0) = Q
  unfold fX2_headFault
  have L0_ := li_0
  have L1_ := li_1
  have L2_ := li_2
  have L3_ := li_3
  have L4_ := li_4
  have L6_ := li_6
  have L9_ := li_9
  have L19_ := li_19
  have L20_ := li_20
  have L23_ := li_23
  have L24_ := li_24
  have M1_ := li_m1
  refine wp_if_i (fun h_1_ => ?_) (fun h_1_ => ?_)
  · skip
    have j_2_ := lt_ti h_1_
    try simp (disch := omega) only [ti_add, ti_sub, b2t_, b2f_, li_0, li_1, li_2, li_3, li_4, li_6, li_9, li_19, li_20, li_23, li_24, li_m1] at j_2_
    exact wp_some_i (by subst hQ; exact rfl)
  · skip
    have j_3_ := nlt_ti h_1_
    try simp (disch := omega) only [ti_add, ti_sub, b2t_, b2f_, li_0, li_1, li_2, li_3, li_4, li_6, li_9, li_19, li_20, li_23, li_24, li_m1] at j_3_
    refine wp_if_i (fun h_4_ => ?_) (fun h_4_ => ?_)
    · skip
      have j_5_ := le_ti h_4_
      try simp (disch := omega) only [ti_add, ti_sub, b2t_, b2f_, li_0, li_1, li_2, li_3, li_4, li_6, li_9, li_19, li_20, li_23, li_24, li_m1] at j_5_
      refine wp_jn (fun k_1 => wp_ k_1 Q) ?_ (fun k_1 hk_1 => ?_)
      · skip
        refine wp_jn (fun k_2 => wp_ k_2 Q) ?_ (fun k_2 hk_2 => ?_)
        · skip
          apply wp_bv_i
          intro q_3 e_q_3
          have hq_3 : isScr q_3 = true := (by rw [e_q_3]; exact hS)
          have cq_3 := scr_cases hq_3
          refine wp_chk_i hq_3 ?_
          refine wp_if_i (fun h_6_ => ?_) (fun h_6_ => ?_)
          · skip
            have b_7_ : 0 ≤ (gi s0 q_3 9).toInt ∧ (gi s0 q_3 9).toInt ≤ 24 := by have q_ := g_s0.1.1 q_3 9; rw [bd_scr hq_3] at q_; exact q_
            have j_8_ := eq_ti h_6_
            try simp (disch := omega) only [ti_add, ti_sub, b2t_, b2f_, li_0, li_1, li_2, li_3, li_4, li_6, li_9, li_19, li_20, li_23, li_24, li_m1] at j_8_
            exact wp_some_i (by subst hQ; exact rfl)
          · skip
            have b_9_ : 0 ≤ (gi s0 q_3 9).toInt ∧ (gi s0 q_3 9).toInt ≤ 24 := by have q_ := g_s0.1.1 q_3 9; rw [bd_scr hq_3] at q_; exact q_
            have j_10_ := ne_ti h_6_
            try simp (disch := omega) only [ti_add, ti_sub, b2t_, b2f_, li_0, li_1, li_2, li_3, li_4, li_6, li_9, li_19, li_20, li_23, li_24, li_m1] at j_10_
            exact wp_some_i (by subst hQ; exact rfl)
        refine wp_if_i (fun h_11_ => ?_) (fun h_11_ => ?_)
        · skip
          have j_12_ := eq_ti h_11_
          try simp (disch := omega) only [ti_add, ti_sub, b2t_, b2f_, li_0, li_1, li_2, li_3, li_4, li_6, li_9, li_19, li_20, li_23, li_24, li_m1] at j_12_
          apply wp_bv_i
          intro q_5 e_q_5
          have hq_5 : isScr q_5 = true := (by rw [e_q_5]; exact hS)
          have cq_5 := scr_cases hq_5
          refine wp_chk_i hq_5 ?_
          refine wp_if_i (fun h_13_ => ?_) (fun h_13_ => ?_)
          · skip
            have b_14_ : -1 ≤ (gi s0 q_5 4).toInt ∧ (gi s0 q_5 4).toInt ≤ 300 := by have q_ := g_s0.1.1 q_5 4; rw [bd_scr hq_5] at q_; exact q_
            have j_15_ := eq_ti h_13_
            try simp (disch := omega) only [ti_add, ti_sub, b2t_, b2f_, li_0, li_1, li_2, li_3, li_4, li_6, li_9, li_19, li_20, li_23, li_24, li_m1] at j_15_
            exact hk_2   
          · skip
            have b_16_ : -1 ≤ (gi s0 q_5 4).toInt ∧ (gi s0 q_5 4).toInt ≤ 300 := by have q_ := g_s0.1.1 q_5 4; rw [bd_scr hq_5] at q_; exact q_
            have j_17_ := ne_ti h_13_
            try simp (disch := omega) only [ti_add, ti_sub, b2t_, b2f_, li_0, li_1, li_2, li_3, li_4, li_6, li_9, li_19, li_20, li_23, li_24, li_m1] at j_17_
            exact wp_some_i (by subst hQ; exact rfl)
        · skip
          have j_18_ := ne_ti h_11_
          try simp (disch := omega) only [ti_add, ti_sub, b2t_, b2f_, li_0, li_1, li_2, li_3, li_4, li_6, li_9, li_19, li_20, li_23, li_24, li_m1] at j_18_
          exact hk_2   
      refine wp_if_i (fun h_19_ => ?_) (fun h_19_ => ?_)
      · skip
        have j_20_ := eq_ti h_19_
        try simp (disch := omega) only [ti_add, ti_sub, b2t_, b2f_, li_0, li_1, li_2, li_3, li_4, li_6, li_9, li_19, li_20, li_23, li_24, li_m1] at j_20_
        apply wp_bv_i
        intro q_7 e_q_7
        have hq_7 : isScr q_7 = true := (by rw [e_q_7]; exact hS)
        have cq_7 := scr_cases hq_7
        refine wp_chk_i hq_7 ?_
        refine wp_if_i (fun h_21_ => ?_) (fun h_21_ => ?_)
        · skip
          have b_22_ : -1 ≤ (gi s0 q_7 2).toInt ∧ (gi s0 q_7 2).toInt ≤ 300 := by have q_ := g_s0.1.1 q_7 2; rw [bd_scr hq_7] at q_; exact q_
          have j_23_ := eq_ti h_21_
          try simp (disch := omega) only [ti_add, ti_sub, b2t_, b2f_, li_0, li_1, li_2, li_3, li_4, li_6, li_9, li_19, li_20, li_23, li_24, li_m1] at j_23_
          exact hk_1   
        · skip
          have b_24_ : -1 ≤ (gi s0 q_7 2).toInt ∧ (gi s0 q_7 2).toInt ≤ 300 := by have q_ := g_s0.1.1 q_7 2; rw [bd_scr hq_7] at q_; exact q_
          have j_25_ := ne_ti h_21_
          try simp (disch := omega) only [ti_add, ti_sub, b2t_, b2f_, li_0, li_1, li_2, li_3, li_4, li_6, li_9, li_19, li_20, li_23, li_24, li_m1] at j_25_
          exact wp_some_i (by subst hQ; exact rfl)
      · skip
        have j_26_ := ne_ti h_19_
        try simp (disch := omega) only [ti_add, ti_sub, b2t_, b2f_, li_0, li_1, li_2, li_3, li_4, li_6, li_9, li_19, li_20, li_23, li_24, li_m1] at j_26_
        exact hk_1   
    · skip
      have j_27_ := nle_ti h_4_
      try simp (disch := omega) only [ti_add, ti_sub, b2t_, b2f_, li_0, li_1, li_2, li_3, li_4, li_6, li_9, li_19, li_20, li_23, li_24, li_m1] at j_27_
      exact wp_some_i (by subst hQ; exact rfl)
set_option maxHeartbeats 1000000 in
set_option maxRecDepth 20000 in
theorem tX2_takeOperand (a1 : Int32) (s0 : Sg) (h0 : I9_ s0) (hS : isScr (gr s0 4 3) = true) (ha : a1.toInt ≤ 10010 ∨ 20000 ≤ a1.toInt) : wp_ (fX2_takeOperand a1 s0) (fun q => R9_ s0 q) := by
  have g_s0 : R9_ s0 s0 := R9_.rf h0
  have hFU_ : FU = 1000000000 := rfl
  generalize hQ : (fun q : (Sg) => R9_ s0 q) = Q
  unfold fX2_takeOperand
  have L0_ := li_0
  have L1_ := li_1
  have L3_ := li_3
  have L4_ := li_4
  have L9_ := li_9
  have L10_ := li_10
  have M1_ := li_m1
  apply wp_bv_i
  intro q_1 e_q_1
  have hq_1 : isScr q_1 = true := (by rw [e_q_1]; exact hS)
  have cq_1 := scr_cases hq_1
  refine wp_chk_i hq_1 ?_
  refine wp_bnv_i (tX5_emit q_1 a1 s0 g_s0.1 hq_1 (by first | omega | (simp (disch := omega) only [ti_add, ti_sub, b2t_, b2f_, li_0, li_1, li_3, li_4, li_9, li_10, li_m1]; omega))) (fun s_3 p_s_3 => ?_)
  have g_s_3 := g_s0.tr p_s_3.1
  have f_s_3 := p_s_3.2
  try dsimp only at f_s_3
  try simp (disch := omega) only [ti_add, ti_sub, b2t_, b2f_, li_0, li_1, li_3, li_4, li_9, li_10, li_m1] at f_s_3
  apply wp_bv_i
  intro s_4 e_s_4
  have g_s_4 : R9_ s0 s_4 := by rw [e_s_4]; exact R9_.si g_s_3 (by first | decide | omega) trivial
  apply wp_bv_i
  intro s_5 e_s_5
  have g_s_5 : R9_ s0 s_5 := by rw [e_s_5]; exact R9_.si g_s_4 (by first | decide | omega) trivial
  exact wp_some_i (by subst hQ; exact g_s_5)
set_option maxHeartbeats 1000000 in
set_option maxRecDepth 20000 in
theorem tX6_stepBack (s0 : Sg) (h0 : I9_ s0)  : wp_ (fX6_stepBack s0) (fun q => G9_ s0 q.2) := by
  have g_s0 : G9_ s0 s0 := G9_.rf h0
  have hFU_ : FU = 1000000000 := rfl
  generalize hQ : (fun q : (Bool × Sg) => G9_ s0 q.2) = Q
  unfold fX6_stepBack
  have L0_ := li_0
  have L1_ := li_1
  have L3_ := li_3
  have L9_ := li_9
  have L10_ := li_10
  have L11_ := li_11
  have L12_ := li_12
  have L15_ := li_15
  have L24_ := li_24
  have L31_ := li_31
  have L40_ := li_40
  have L4095_ := li_4095
  have M1_ := li_m1
  refine wp_if_i (fun h_1_ => ?_) (fun h_1_ => ?_)
  · skip
    have b_2_ : 0 ≤ (gi s0 1 15).toInt ∧ (gi s0 1 15).toInt ≤ 40 := g_s0.1.1 1 15
    have j_3_ := eq_ti h_1_
    try simp (disch := omega) only [ti_add, ti_sub, b2t_, b2f_, li_0, li_1, li_3, li_9, li_10, li_11, li_12, li_15, li_24, li_31, li_40, li_4095, li_m1] at j_3_
    exact wp_some_i (by subst hQ; exact g_s0)
  · skip
    have b_4_ : 0 ≤ (gi s0 1 15).toInt ∧ (gi s0 1 15).toInt ≤ 40 := g_s0.1.1 1 15
    have j_5_ := ne_ti h_1_
    try simp (disch := omega) only [ti_add, ti_sub, b2t_, b2f_, li_0, li_1, li_3, li_9, li_10, li_11, li_12, li_15, li_24, li_31, li_40, li_4095, li_m1] at j_5_
    apply wp_bv_i
    intro s_1 e_s_1
    have g_s_1 : G9_ s0 s_1 := by rw [e_s_1]; exact G9_.si g_s0 (by first | decide | omega) (show 0 ≤ ((((gi s0 1 15) - 1) : Int32)).toInt ∧ ((((gi s0 1 15) - 1) : Int32)).toInt ≤ 40 from ⟨by first | omega | (simp (disch := omega) only [ti_add, ti_sub, b2t_, b2f_, li_0, li_1, li_3, li_9, li_10, li_11, li_12, li_15, li_24, li_31, li_40, li_4095, li_m1]; omega), by first | omega | (simp (disch := omega) only [ti_add, ti_sub, b2t_, b2f_, li_0, li_1, li_3, li_9, li_10, li_11, li_12, li_15, li_24, li_31, li_40, li_4095, li_m1]; omega)⟩)
    have r_6_ : (gi s_1 1 15).toInt = ((((gi s0 1 15) - 1) : Int32)).toInt := by rw [e_s_1]; rw [gsi_eq]
    try simp (disch := omega) only [ti_add, ti_sub, b2t_, b2f_, li_0, li_1, li_3, li_9, li_10, li_11, li_12, li_15, li_24, li_31, li_40, li_4095, li_m1] at r_6_
    have b_7_ : 0 ≤ (gi s_1 1 15).toInt ∧ (gi s_1 1 15).toInt ≤ 40 := g_s_1.1.1 1 15
    refine wp_chk_i (inb_ti (by first | omega | (simp (disch := omega) only [ti_add, ti_sub, b2t_, b2f_, li_0, li_1, li_3, li_9, li_10, li_11, li_12, li_15, li_24, li_31, li_40, li_4095, li_m1]; omega)) (by first | omega | (simp (disch := omega) only [ti_add, ti_sub, b2t_, b2f_, li_0, li_1, li_3, li_9, li_10, li_11, li_12, li_15, li_24, li_31, li_40, li_4095, li_m1]; omega))) ?_
    apply wp_bv_i
    intro v_3 e_v_3
    have j_8_ := eq_ti e_v_3
    try simp (disch := omega) only [ti_add, ti_sub, b2t_, b2f_, li_0, li_1, li_3, li_9, li_10, li_11, li_12, li_15, li_24, li_31, li_40, li_4095, li_m1] at j_8_
    apply wp_bv_i
    intro s_4 e_s_4
    have g_s_4 : G9_ s0 s_4 := by rw [e_s_4]; exact G9_.si g_s_1 (by first | decide | omega) trivial
    apply wp_bv_i
    intro s_5 e_s_5
    have g_s_5 : G9_ s0 s_5 := by rw [e_s_5]; exact G9_.si g_s_4 (by first | decide | omega) trivial
    apply wp_bv_i
    intro s_6 e_s_6
    have g_s_6 : G9_ s0 s_6 := by rw [e_s_6]; exact G9_.si g_s_5 (by first | decide | omega) trivial
    exact wp_some_i (by subst hQ; exact g_s_6)
set_option maxHeartbeats 1000000 in
set_option maxRecDepth 20000 in
theorem tX8_copyWorld_r (q0 : Nat) (s0 : Sg) (h0 : I9_ s0) (hq : isRd q0 = true) : wp_ (fX8_copyWorld_r q0 s0) (fun q => G9_ s0 q ∧ (∀ k, k ≠ q0 → k ≠ q0 + 1 → gi q k = gi s0 k)) := by
  have g_s0 : G9_ s0 s0 := G9_.rf h0
  have hFU_ : FU = 1000000000 := rfl
  generalize hQ : (fun q : (Sg) => G9_ s0 q ∧ (∀ k, k ≠ q0 → k ≠ q0 + 1 → gi q k = gi s0 k)) = Q
  unfold fX8_copyWorld_r
  have L0_ := li_0
  have L1_ := li_1
  have L2_ := li_2
  have L3_ := li_3
  have L4_ := li_4
  have L5_ := li_5
  have M1_ := li_m1
  have cq0 := rd_rng hq
  apply wp_bv_i
  intro s_1 e_s_1
  have g_s_1 : G9_ s0 s_1 := by rw [e_s_1]; exact G9_.si g_s0 (Or.inr (by have z_ := hq; simp only [isRd, Bool.and_eq_true, decide_eq_true_eq] at z_; omega)) (by rw [bd_rd hq]; trivial)
  apply wp_bv_i
  intro s_2 e_s_2
  have g_s_2 : G9_ s0 s_2 := by rw [e_s_2]; exact G9_.si g_s_1 (Or.inr (by have z_ := hq; simp only [isRd, Bool.and_eq_true, decide_eq_true_eq] at z_; omega)) (by rw [bd_rd hq]; trivial)
  apply wp_bv_i
  intro s_3 e_s_3
  have g_s_3 : G9_ s0 s_3 := by rw [e_s_3]; exact G9_.si g_s_2 (Or.inr (by have z_ := hq; simp only [isRd, Bool.and_eq_true, decide_eq_true_eq] at z_; omega)) (by rw [bd_rd hq]; trivial)
  apply wp_bv_i
  intro s_4 e_s_4
  have g_s_4 : G9_ s0 s_4 := by rw [e_s_4]; exact G9_.si g_s_3 (Or.inr (by have z_ := hq; simp only [isRd, Bool.and_eq_true, decide_eq_true_eq] at z_; omega)) (by rw [bd_rd hq]; trivial)
  apply wp_bv_i
  intro s_5 e_s_5
  have g_s_5 : G9_ s0 s_5 := by rw [e_s_5]; exact G9_.si g_s_4 (Or.inr (by have z_ := hq; simp only [isRd, Bool.and_eq_true, decide_eq_true_eq] at z_; omega)) (by rw [bd_rd hq]; trivial)
  apply wp_bv_i
  intro s_6 e_s_6
  have g_s_6 : G9_ s0 s_6 := by rw [e_s_6]; exact G9_.si g_s_5 (Or.inr (by have z_ := hq; simp only [isRd, Bool.and_eq_true, decide_eq_true_eq] at z_; omega)) (by rw [bd_rd hq]; trivial)
  exact wp_some_i (by subst hQ; exact ⟨g_s_6, fun k a_ b_ => by rw [e_s_6, gsi_f a_, e_s_5, gsi_f a_, e_s_4, gsi_f a_, e_s_3, gsi_f a_, e_s_2, gsi_f a_, e_s_1, gsi_f a_]⟩)
set_option maxHeartbeats 1000000 in
set_option maxRecDepth 20000 in
theorem lX7_append_3_b {Q : (Sg) → Prop} (S_ : Sg) (hI_ : I9_ S_) (a1 : Int32) (hsome : ∀ q : (Sg), R9_ S_ q → Q q)  : ∀ (n : Nat) (x2_1 : Int32) (s_2 : Sg), R9_ S_ s_2 → x2_1.toInt ≤ 24 → (x2_1.toInt + 8).toNat < n → wp_ (lo2 (fX7_append_3_b a1) n x2_1 s_2) Q := by
  intro n
  induction n with
  | zero =>
    intro x2_1 s_2 _ _ hm_
    exact absurd hm_ (Nat.not_lt_zero _)
  | succ n ih =>
    intro x2_1 s_2 g_s_2 i0_ hm_
    show wp_ (fX7_append_3_b a1 (lo2 (fX7_append_3_b a1) n) x2_1 s_2) Q
    have hrec := ih
    generalize lo2 (fX7_append_3_b a1) n = rc at hrec ⊢
    clear ih
    have hFU_ : FU = 1000000000 := rfl
    unfold fX7_append_3_b
    have L0_ := li_0
    have L1_ := li_1
    have L3_ := li_3
    have L8_ := li_8
    have L17_ := li_17
    have L31_ := li_31
    have L300_ := li_300
    have M1_ := li_m1
    have M8_ := li_m8
    refine wp_if_i (fun h_1_ => ?_) (fun h_1_ => ?_)
    · skip
      have j_2_ := lt_ti h_1_
      try simp (disch := omega) only [ti_add, ti_sub, b2t_, b2f_, li_0, li_1, li_3, li_8, li_17, li_31, li_300, li_m1, li_m8] at j_2_
      exact wp_some_i (hsome (s_2) g_s_2)
    · skip
      have j_3_ := nlt_ti h_1_
      try simp (disch := omega) only [ti_add, ti_sub, b2t_, b2f_, li_0, li_1, li_3, li_8, li_17, li_31, li_300, li_m1, li_m8] at j_3_
      refine wp_if_i (fun h_4_ => ?_) (fun h_4_ => ?_)
      · skip
        have b_5_ : 0 ≤ (gi s_2 3 1).toInt ∧ (gi s_2 3 1).toInt ≤ 300 := g_s_2.1.1 3 1
        have j_6_ := le_ti h_4_
        try simp (disch := omega) only [ti_add, ti_sub, b2t_, b2f_, li_0, li_1, li_3, li_8, li_17, li_31, li_300, li_m1, li_m8] at j_6_
        exact wp_some_i (hsome (s_2) g_s_2)
      · skip
        have b_7_ : 0 ≤ (gi s_2 3 1).toInt ∧ (gi s_2 3 1).toInt ≤ 300 := g_s_2.1.1 3 1
        have j_8_ := nle_ti h_4_
        try simp (disch := omega) only [ti_add, ti_sub, b2t_, b2f_, li_0, li_1, li_3, li_8, li_17, li_31, li_300, li_m1, li_m8] at j_8_
        refine wp_chk_i (inb_ti (by first | omega | (simp (disch := omega) only [ti_add, ti_sub, b2t_, b2f_, li_0, li_1, li_3, li_8, li_17, li_31, li_300, li_m1, li_m8]; omega)) (by first | omega | (simp (disch := omega) only [ti_add, ti_sub, b2t_, b2f_, li_0, li_1, li_3, li_8, li_17, li_31, li_300, li_m1, li_m8]; omega))) ?_
        apply wp_bv_i
        intro s_4 e_s_4
        have g_s_4 : R9_ S_ s_4 := by rw [e_s_4]; exact R9_.si g_s_2 (by first | decide | omega) trivial
        have r_9_ : (gi s_4 3 1).toInt = (gi s_2 3 1).toInt := by rw [e_s_4]; rw [gsi_k (by first | decide | omega)]
        have b_10_ : 0 ≤ (gi s_4 3 1).toInt ∧ (gi s_4 3 1).toInt ≤ 300 := g_s_4.1.1 3 1
        apply wp_bv_i
        intro s_5 e_s_5
        have g_s_5 : R9_ S_ s_5 := by rw [e_s_5]; exact R9_.si g_s_4 (by first | decide | omega) (show 0 ≤ ((((gi s_4 3 1) + 1) : Int32)).toInt ∧ ((((gi s_4 3 1) + 1) : Int32)).toInt ≤ 300 from ⟨by first | omega | (simp (disch := omega) only [ti_add, ti_sub, b2t_, b2f_, li_0, li_1, li_3, li_8, li_17, li_31, li_300, li_m1, li_m8]; omega), by first | omega | (simp (disch := omega) only [ti_add, ti_sub, b2t_, b2f_, li_0, li_1, li_3, li_8, li_17, li_31, li_300, li_m1, li_m8]; omega)⟩)
        apply wp_bv_i
        intro v_6 e_v_6
        have j_11_ := eq_ti e_v_6
        try simp (disch := omega) only [ti_add, ti_sub, b2t_, b2f_, li_0, li_1, li_3, li_8, li_17, li_31, li_300, li_m1, li_m8] at j_11_
        exact hrec v_6 s_5 g_s_5 (by first | omega | (simp (disch := omega) only [ti_add, ti_sub, b2t_, b2f_, li_0, li_1, li_3, li_8, li_17, li_31, li_300, li_m1, li_m8]; omega)) (by first | omega | (simp (disch := omega) only [ti_add, ti_sub, b2t_, b2f_, li_0, li_1, li_3, li_8, li_17, li_31, li_300, li_m1, li_m8]; omega))
set_option maxHeartbeats 1000000 in
set_option maxRecDepth 20000 in
theorem tX7_append (a1 : Int32) (s0 : Sg) (h0 : I9_ s0)  : wp_ (fX7_append a1 s0) (fun q => R9_ s0 q) := by
  have g_s0 : R9_ s0 s0 := R9_.rf h0
  have hFU_ : FU = 1000000000 := rfl
  generalize hQ : (fun q : (Sg) => R9_ s0 q) = Q
  unfold fX7_append
  have L0_ := li_0
  have L1_ := li_1
  have L24_ := li_24
  have M1_ := li_m1
  exact lX7_append_3_b s0 h0 a1  (fun q hq => by subst hQ; exact hq)  FU 24 s0 g_s0 (by first | omega | (simp (disch := omega) only [ti_add, ti_sub, b2t_, b2f_, li_0, li_1, li_24, li_m1]; omega)) (by first | omega | (simp (disch := omega) only [ti_add, ti_sub, b2t_, b2f_, li_0, li_1, li_24, li_m1]; omega))
set_option maxHeartbeats 1000000 in
set_option maxRecDepth 20000 in
theorem tX9_feed (a1 : Int32) (a2 : Int32) (a3 : Int32) (a4 : Int32) (a5 : Int32) (s0 : Sg) (h0 : I9_ s0)  : wp_ (fX9_feed a1 a2 a3 a4 a5 s0) (fun q => G9_ s0 q.2) := by
  have g_s0 : G9_ s0 s0 := G9_.rf h0
  have hFU_ : FU = 1000000000 := rfl
  generalize hQ : (fun q : (Int32 × Sg) => G9_ s0 q.2) = Q
  unfold fX9_feed
  have L0_ := li_0
  have L1_ := li_1
  have L3_ := li_3
  have L20_ := li_20
  have L300_ := li_300
  have M1_ := li_m1
  refine wp_if_i (fun h_1_ => ?_) (fun h_1_ => ?_)
  · skip
    have b_2_ : 0 ≤ (gi s0 3 1).toInt ∧ (gi s0 3 1).toInt ≤ 300 := g_s0.1.1 3 1
    have j_3_ := le_ti h_1_
    try simp (disch := omega) only [ti_add, ti_sub, b2t_, b2f_, li_0, li_1, li_3, li_20, li_300, li_m1] at j_3_
    refine wp_bnv_i (tX7_append a1 s0 g_s0.1 ) (fun s_1 p_s_1 => ?_)
    have g_s_1 := g_s0.tr p_s_1.g
    refine wp_bnv_i (tX7_append a2 s_1 g_s_1.1 ) (fun s_2 p_s_2 => ?_)
    have g_s_2 := g_s_1.tr p_s_2.g
    refine wp_bnv_i (tX7_append a3 s_2 g_s_2.1 ) (fun s_3 p_s_3 => ?_)
    have g_s_3 := g_s_2.tr p_s_3.g
    refine wp_bnv_i (tX7_append a4 s_3 g_s_3.1 ) (fun s_4 p_s_4 => ?_)
    have g_s_4 := g_s_3.tr p_s_4.g
    refine wp_bnv_i (tX7_append a5 s_4 g_s_4.1 ) (fun s_5 p_s_5 => ?_)
    have g_s_5 := g_s_4.tr p_s_5.g
    have b_4_ : 0 ≤ (gi s_5 3 1).toInt ∧ (gi s_5 3 1).toInt ≤ 300 := g_s_5.1.1 3 1
    exact wp_some_i (by subst hQ; exact g_s_5)
  · skip
    have b_5_ : 0 ≤ (gi s0 3 1).toInt ∧ (gi s0 3 1).toInt ≤ 300 := g_s0.1.1 3 1
    have j_6_ := nle_ti h_1_
    try simp (disch := omega) only [ti_add, ti_sub, b2t_, b2f_, li_0, li_1, li_3, li_20, li_300, li_m1] at j_6_
    exact wp_some_i (by subst hQ; exact g_s0)
