set_option maxRecDepth 20000 in
theorem ya_fX9_passHours (a1 : Int32) (s0 : Sg)  : pf_ (fX9_passHours a1 s0) (fun q => FA_ s0 q.2) := by
  generalize hQ0 : (fun q : (Bool × Sg) => FA_ s0 q.2) = Q
  have hQ : ∀ r {x : Sg}, FA_ s0 x → Q (r, x) := fun r x h => by rw [← hQ0]; exact h
  clear hQ0
  unfold fX9_passHours
  refine pf_bnd (ya_fX9_within a1 0 99 s0 ) (fun r_1 s_2 p_s_2 => ?_)
  have g_s_2 : FA_ s0 s_2 := (FA_.rf).tr p_s_2
  refine pf_if ?_ ?_
  · skip
    exact pf_some (hQ _ g_s_2)
  · skip
    refine pf_bnv (ya_fX6_keepStep s_2 ) (fun s_3 p_s_3 => ?_)
    have g_s_3 : FA_ s0 s_3 := (g_s_2).tr p_s_3
    refine pf_bv (fun s_4 e_s_4 => ?_)
    have g_s_4 : FA_ s0 s_4 := by rw [e_s_4]; exact FA_.si g_s_3 rfl
    clear e_s_4
    exact pf_some (hQ _ g_s_4)
set_option maxRecDepth 20000 in
theorem ya_fX9_pass (a1 : Int32) (s0 : Sg)  : pf_ (fX9_pass a1 s0) (fun q => FA_ s0 q.2) := by
  generalize hQ0 : (fun q : (Int32 × Sg) => FA_ s0 q.2) = Q
  have hQ : ∀ r {x : Sg}, FA_ s0 x → Q (r, x) := fun r x h => by rw [← hQ0]; exact h
  clear hQ0
  unfold fX9_pass
  refine pf_bnd (ya_fX9_passHours a1 s0 ) (fun r_1 s_2 p_s_2 => ?_)
  have g_s_2 : FA_ s0 s_2 := (FA_.rf).tr p_s_2
  refine pf_if ?_ ?_
  · skip
    exact pf_some (hQ _ g_s_2)
  · skip
    exact pf_some (hQ _ g_s_2)
set_option maxRecDepth 20000 in
theorem ya_fX9_played (a1 : Int32) (s0 : Sg)  : pf_ (fX9_played a1 s0) (fun q => FA_ s0 q.2) := by
  generalize hQ0 : (fun q : (Int32 × Sg) => FA_ s0 q.2) = Q
  have hQ : ∀ r {x : Sg}, FA_ s0 x → Q (r, x) := fun r x h => by rw [← hQ0]; exact h
  clear hQ0
  unfold fX9_played
  refine pf_bnd (ya_fX9_isText a1 s0 ) (fun r_1 s_2 p_s_2 => ?_)
  have g_s_2 : FA_ s0 s_2 := (FA_.rf).tr p_s_2
  refine pf_if ?_ ?_
  · skip
    exact pf_some (hQ _ g_s_2)
  · skip
    refine pf_chk (fun _ => ?_)
    refine pf_bv (fun q_4 e_q_4 => ?_)
    refine pf_chk (fun h_ => ?_)
    have c_14_ := scr_cases h_
    refine pf_lo2 (fun (_ : Int32) s_7 => FA_ s0 s_7) ?_ FU 0 s_2 g_s_2
    intro rec20 x3_6 s_7 g_s_7 hr0_
    have hrec20 : ∀ (x3_6 : Int32) (s_7 : Sg), FA_ s0 s_7 → pf_ (rec20 x3_6 s_7) Q := fun x3_6 s_7 z_s_7 => hr0_ x3_6 s_7 z_s_7
    clear hr0_
    unfold fX9_played_20_b
    refine pf_if ?_ ?_
    · skip
      exact pf_some (hQ _ g_s_7)
    · skip
      refine pf_chk (fun _ => ?_)
      refine pf_jn (fun k_11 => ∀ (y_9 : Bool) (s_10 : Sg), FA_ s0 s_10 → pf_ (k_11 y_9 s_10) Q) ?_ (fun k_11 hk_11 => ?_)
      · intro y_9 s_10 g_s_10
        try dsimp only
        refine pf_if ?_ ?_
        · skip
          exact pf_some (hQ _ g_s_10)
        · skip
          refine pf_bv (fun v_12 e_v_12 => ?_)
          clear e_v_12
          exact hrec20 v_12 s_10 g_s_10
      refine pf_if ?_ ?_
      · skip
        refine pf_bnd (ya_fX9_lay (gi s_7 (q_4 + 3) (ix x3_6)) (gi s_7 (q_4 + 4) (ix x3_6)) s_7 ) (fun r_13 s_14 p_s_14 => ?_)
        have g_s_14 : FA_ s0 s_14 := (g_s_7).tr p_s_14
        exact hk_11 r_13 s_14 g_s_14
      · skip
        refine pf_if ?_ ?_
        · skip
          refine pf_bnd (ya_fX9_lift (gi s_7 (q_4 + 3) (ix x3_6)) s_7 ) (fun r_16 s_17 p_s_17 => ?_)
          have g_s_17 : FA_ s0 s_17 := (g_s_7).tr p_s_17
          exact hk_11 r_16 s_17 g_s_17
        · skip
          refine pf_if ?_ ?_
          · skip
            refine pf_bnd (ya_fX9_passHours (gi s_7 (q_4 + 3) (ix x3_6)) s_7 ) (fun r_19 s_20 p_s_20 => ?_)
            have g_s_20 : FA_ s0 s_20 := (g_s_7).tr p_s_20
            exact hk_11 r_19 s_20 g_s_20
          · skip
            exact hk_11 true s_7 g_s_7
set_option maxRecDepth 20000 in
theorem ya_fX6_stepBack (s0 : Sg)  : pf_ (fX6_stepBack s0) (fun q => FA_ s0 q.2) := by
  generalize hQ0 : (fun q : (Bool × Sg) => FA_ s0 q.2) = Q
  have hQ : ∀ r {x : Sg}, FA_ s0 x → Q (r, x) := fun r x h => by rw [← hQ0]; exact h
  clear hQ0
  unfold fX6_stepBack
  refine pf_if ?_ ?_
  · skip
    exact pf_some (hQ _ FA_.rf)
  · skip
    refine pf_bv (fun s_1 e_s_1 => ?_)
    have g_s_1 : FA_ s0 s_1 := by rw [e_s_1]; exact FA_.si FA_.rf rfl
    clear e_s_1
    refine pf_chk (fun _ => ?_)
    refine pf_bv (fun v_3 e_v_3 => ?_)
    clear e_v_3
    refine pf_bv (fun s_4 e_s_4 => ?_)
    have g_s_4 : FA_ s0 s_4 := by rw [e_s_4]; exact FA_.si g_s_1 rfl
    clear e_s_4
    refine pf_bv (fun s_5 e_s_5 => ?_)
    have g_s_5 : FA_ s0 s_5 := by rw [e_s_5]; exact FA_.si g_s_4 rfl
    clear e_s_5
    refine pf_bv (fun s_6 e_s_6 => ?_)
    have g_s_6 : FA_ s0 s_6 := by rw [e_s_6]; exact FA_.si g_s_5 rfl
    clear e_s_6
    exact pf_some (hQ _ g_s_6)
set_option maxRecDepth 20000 in
theorem ya_fX9_undo (s0 : Sg)  : pf_ (fX9_undo s0) (fun q => FA_ s0 q.2) := by
  generalize hQ0 : (fun q : (Int32 × Sg) => FA_ s0 q.2) = Q
  have hQ : ∀ r {x : Sg}, FA_ s0 x → Q (r, x) := fun r x h => by rw [← hQ0]; exact h
  clear hQ0
  unfold fX9_undo
  refine pf_bnd (ya_fX6_stepBack s0 ) (fun r_1 s_2 p_s_2 => ?_)
  have g_s_2 : FA_ s0 s_2 := (FA_.rf).tr p_s_2
  refine pf_if ?_ ?_
  · skip
    exact pf_some (hQ _ g_s_2)
  · skip
    exact pf_some (hQ _ g_s_2)
set_option maxRecDepth 20000 in
theorem ya_fX4_borneOf (a2 : Int32) (a3 : Int32) (s0 : Sg)  : pf_ (fX4_borneOf a2 a3 s0) (fun q => FA_ s0 q.2) := by
  generalize hQ0 : (fun q : (Int32 × Sg) => FA_ s0 q.2) = Q
  have hQ : ∀ r {x : Sg}, FA_ s0 x → Q (r, x) := fun r x h => by rw [← hQ0]; exact h
  clear hQ0
  unfold fX4_borneOf
  refine pf_chk (fun _ => ?_)
  refine pf_bnd (ya_fX4_borne (gr s0 1 13) a2 (gi s0 9 (ix a2)) (gi s0 10 (ix a2)) a3 s0 ) (fun r_2 s_3 p_s_3 => ?_)
  have g_s_3 : FA_ s0 s_3 := (FA_.rf).tr p_s_3
  exact pf_some (hQ _ g_s_3)
set_option maxRecDepth 20000 in
theorem ya_fX9_of (a1 : Int32) (a2 : Int32) (s0 : Sg)  : pf_ (fX9_of a1 a2 s0) (fun q => FA_ s0 q.2) := by
  generalize hQ0 : (fun q : (Int32 × Sg) => FA_ s0 q.2) = Q
  have hQ : ∀ r {x : Sg}, FA_ s0 x → Q (r, x) := fun r x h => by rw [← hQ0]; exact h
  clear hQ0
  unfold fX9_of
  refine pf_bnd (ya_fX9_within a1 0 ((gi s0 1 6) - 1) s0 ) (fun r_1 s_2 p_s_2 => ?_)
  have g_s_2 : FA_ s0 s_2 := (FA_.rf).tr p_s_2
  refine pf_if ?_ ?_
  · skip
    exact pf_some (hQ _ g_s_2)
  · skip
    refine pf_bnv (ya_fX4_setAir (gi s_2 1 3) (gi s_2 1 4) (gi s_2 1 5) s_2 ) (fun s_3 p_s_3 => ?_)
    have g_s_3 : FA_ s0 s_3 := (g_s_2).tr p_s_3
    refine pf_if ?_ ?_
    · skip
      refine pf_chk (fun _ => ?_)
      exact pf_some (hQ _ g_s_3)
    · skip
      refine pf_if ?_ ?_
      · skip
        refine pf_chk (fun _ => ?_)
        exact pf_some (hQ _ g_s_3)
      · skip
        refine pf_if ?_ ?_
        · skip
          refine pf_bnd (ya_fX6_panOf a1 s_3 ) (fun r_8 s_9 p_s_9 => ?_)
          have g_s_9 : FA_ s0 s_9 := (g_s_3).tr p_s_9
          exact pf_some (hQ _ g_s_9)
        · skip
          refine pf_if ?_ ?_
          · skip
            refine pf_bnd (ya_fX4_borneOf a1 0 s_3 ) (fun r_11 s_12 p_s_12 => ?_)
            have g_s_12 : FA_ s0 s_12 := (g_s_3).tr p_s_12
            exact pf_some (hQ _ g_s_12)
          · skip
            refine pf_if ?_ ?_
            · skip
              refine pf_bnd (ya_fX4_borneOf a1 1 s_3 ) (fun r_14 s_15 p_s_15 => ?_)
              have g_s_15 : FA_ s0 s_15 := (g_s_3).tr p_s_15
              exact pf_some (hQ _ g_s_15)
            · skip
              exact pf_some (hQ _ g_s_3)
set_option maxRecDepth 20000 in
theorem ya_fX9_weighWhatLies (s0 : Sg)  : pf_ (fX9_weighWhatLies s0) (fun q => FA_ s0 q) := by
  generalize hQ0 : (fun q : (Sg) => FA_ s0 q) = Q
  have hQ : ∀ (_ : Unit) {x : Sg}, FA_ s0 x → Q x := fun _ x h => by rw [← hQ0]; exact h
  clear hQ0
  unfold fX9_weighWhatLies
  refine pf_bnv (ya_fX4_setAir (gi s0 1 3) (gi s0 1 4) (gi s0 1 5) s0 ) (fun s_1 p_s_1 => ?_)
  have g_s_1 : FA_ s0 s_1 := (FA_.rf).tr p_s_1
  refine pf_bnv (ya_fX4_weigh (gi s_1 1 9) (gi s_1 1 10) s_1 ) (fun s_2 p_s_2 => ?_)
  have g_s_2 : FA_ s0 s_2 := (g_s_1).tr p_s_2
  exact pf_some (hQ () g_s_2)
set_option maxRecDepth 20000 in
theorem ya_fX9_leaning (a1 : Int32) (a2 : Int32) (s0 : Sg)  : pf_ (fX9_leaning a1 a2 s0) (fun q => FA_ s0 q.2) := by
  generalize hQ0 : (fun q : (Int32 × Sg) => FA_ s0 q.2) = Q
  have hQ : ∀ r {x : Sg}, FA_ s0 x → Q (r, x) := fun r x h => by rw [← hQ0]; exact h
  clear hQ0
  unfold fX9_leaning
  refine pf_if ?_ ?_
  · skip
    refine pf_if ?_ ?_
    · skip
      exact pf_some (hQ _ FA_.rf)
    · skip
      exact pf_some (hQ _ FA_.rf)
  · skip
    exact pf_some (hQ _ FA_.rf)
set_option maxRecDepth 20000 in
theorem ya_fX9_now (a1 : Int32) (s0 : Sg)  : pf_ (fX9_now a1 s0) (fun q => FA_ s0 q.2) := by
  generalize hQ0 : (fun q : (Int32 × Sg) => FA_ s0 q.2) = Q
  have hQ : ∀ r {x : Sg}, FA_ s0 x → Q (r, x) := fun r x h => by rw [← hQ0]; exact h
  clear hQ0
  unfold fX9_now
  refine pf_bnv (ya_fX9_weighWhatLies s0 ) (fun s_1 p_s_1 => ?_)
  have g_s_1 : FA_ s0 s_1 := (FA_.rf).tr p_s_1
  refine pf_if ?_ ?_
  · skip
    exact pf_some (hQ _ g_s_1)
  · skip
    refine pf_if ?_ ?_
    · skip
      exact pf_some (hQ _ g_s_1)
    · skip
      refine pf_if ?_ ?_
      · skip
        exact pf_some (hQ _ g_s_1)
      · skip
        refine pf_if ?_ ?_
        · skip
          refine pf_bnd (ya_fX9_leaning (gi s_1 6 4) (gi s_1 1 2) s_1 ) (fun r_5 s_6 p_s_6 => ?_)
          have g_s_6 : FA_ s0 s_6 := (g_s_1).tr p_s_6
          exact pf_some (hQ _ g_s_6)
        · skip
          refine pf_if ?_ ?_
          · skip
            refine pf_bnd (ya_fX4_isSafe (gr s_1 1 13) s_1 ) (fun r_8 s_9 p_s_9 => ?_)
            have g_s_9 : FA_ s0 s_9 := (g_s_1).tr p_s_9
            refine pf_if ?_ ?_
            · skip
              exact pf_some (hQ _ g_s_9)
            · skip
              exact pf_some (hQ _ g_s_9)
          · skip
            exact pf_some (hQ _ g_s_1)
set_option maxRecDepth 20000 in
theorem ya_fJ6_bitCount_0f7a4 (a1 : Int32) (s0 : Sg)  : pf_ (fJ6_bitCount_0f7a4 a1 s0) (fun q => FA_ s0 q.2) := by
  generalize hQ0 : (fun q : (Int32 × Sg) => FA_ s0 q.2) = Q
  have hQ : ∀ r {x : Sg}, FA_ s0 x → Q (r, x) := fun r x h => by rw [← hQ0]; exact h
  clear hQ0
  unfold fJ6_bitCount_0f7a4
  refine pf_bv (fun v_1 e_v_1 => ?_)
  clear e_v_1
  refine pf_bv (fun v_2 e_v_2 => ?_)
  clear e_v_2
  refine pf_bv (fun v_3 e_v_3 => ?_)
  clear e_v_3
  refine pf_bv (fun v_4 e_v_4 => ?_)
  clear e_v_4
  refine pf_bv (fun v_5 e_v_5 => ?_)
  clear e_v_5
  exact pf_some (hQ _ FA_.rf)
set_option maxRecDepth 20000 in
theorem ya_fX9_isLoadable (a1 : Int32) (a2 : Int32) (s0 : Sg)  : pf_ (fX9_isLoadable a1 a2 s0) (fun q => FA_ s0 q.2) := by
  generalize hQ0 : (fun q : (Bool × Sg) => FA_ s0 q.2) = Q
  have hQ : ∀ r {x : Sg}, FA_ s0 x → Q (r, x) := fun r x h => by rw [← hQ0]; exact h
  clear hQ0
  unfold fX9_isLoadable
  refine pf_bv (fun v_1 e_v_1 => ?_)
  clear e_v_1
  refine pf_bv (fun v_2 e_v_2 => ?_)
  clear e_v_2
  refine pf_if ?_ ?_
  · skip
    refine pf_if ?_ ?_
    · skip
      refine pf_bnd (ya_fJ6_bitCount_0f7a4 a1 s0 ) (fun r_3 s_4 p_s_4 => ?_)
      have g_s_4 : FA_ s0 s_4 := (FA_.rf).tr p_s_4
      refine pf_if ?_ ?_
      · skip
        exact pf_some (hQ _ g_s_4)
      · skip
        exact pf_some (hQ _ g_s_4)
    · skip
      exact pf_some (hQ _ FA_.rf)
  · skip
    exact pf_some (hQ _ FA_.rf)
set_option maxRecDepth 20000 in
theorem ya_fX1_addToParts (a1 : Int32) (a2 : Int32) (a3 : Int32) (s0 : Sg)  : pf_ (fX1_addToParts a1 a2 a3 s0) (fun q => FA_ s0 q) := by
  generalize hQ0 : (fun q : (Sg) => FA_ s0 q) = Q
  have hQ : ∀ (_ : Unit) {x : Sg}, FA_ s0 x → Q x := fun _ x h => by rw [← hQ0]; exact h
  clear hQ0
  unfold fX1_addToParts
  refine pf_lo2 (fun (_ : Int32) s_2 => FA_ s0 s_2) ?_ FU 0 s0 FA_.rf
  intro rec3 x4_1 s_2 g_s_2 hr0_
  have hrec3 : ∀ (x4_1 : Int32) (s_2 : Sg), FA_ s0 s_2 → pf_ (rec3 x4_1 s_2) Q := fun x4_1 s_2 z_s_2 => hr0_ x4_1 s_2 z_s_2
  clear hr0_
  unfold fX1_addToParts_3_b
  refine pf_if ?_ ?_
  · skip
    exact pf_some (hQ () g_s_2)
  · skip
    refine pf_chk (fun _ => ?_)
    refine pf_jn (fun k_7 => ∀ (y_4 : Int32) (y_5 : Int32) (y_6 : Int32), pf_ (k_7 y_4 y_5 y_6) Q) ?_ (fun k_7 hk_7 => ?_)
    · intro y_4 y_5 y_6
      try dsimp only
      refine pf_chk (fun _ => ?_)
      refine pf_bv (fun s_9 e_s_9 => ?_)
      have g_s_9 : FA_ s0 s_9 := by rw [e_s_9]; exact FA_.si g_s_2 rfl
      clear e_s_9
      refine pf_chk (fun _ => ?_)
      refine pf_jn (fun k_14 => ∀ (y_11 : Int32) (y_12 : Int32) (y_13 : Int32), pf_ (k_14 y_11 y_12 y_13) Q) ?_ (fun k_14 hk_14 => ?_)
      · intro y_11 y_12 y_13
        try dsimp only
        refine pf_chk (fun _ => ?_)
        refine pf_bv (fun s_16 e_s_16 => ?_)
        have g_s_16 : FA_ s0 s_16 := by rw [e_s_16]; exact FA_.si g_s_9 rfl
        clear e_s_16
        refine pf_bv (fun v_17 e_v_17 => ?_)
        clear e_v_17
        exact hrec3 v_17 s_16 g_s_16
      refine pf_if ?_ ?_
      · skip
        exact hk_14 (a1 + x4_1) (gi s_9 23 (ix x4_1)) a3 
      · skip
        exact hk_14 (a1 + x4_1) (gi s_9 23 (ix x4_1)) 0 
    refine pf_if ?_ ?_
    · skip
      exact hk_7 (a1 + x4_1) (gi s_2 22 (ix x4_1)) a3 
    · skip
      exact hk_7 (a1 + x4_1) (gi s_2 22 (ix x4_1)) 0 
set_option maxRecDepth 20000 in
theorem ya_fX1_prepare (a3 : Int32) (a4 : Int32) (s0 : Sg)  : pf_ (fX1_prepare a3 a4 s0) (fun q => FA_ s0 q) := by
  generalize hQ0 : (fun q : (Sg) => FA_ s0 q) = Q
  have hQ : ∀ (_ : Unit) {x : Sg}, FA_ s0 x → Q x := fun _ x h => by rw [← hQ0]; exact h
  clear hQ0
  unfold fX1_prepare
  refine pf_bv (fun s_1 e_s_1 => ?_)
  have g_s_1 : FA_ s0 s_1 := by rw [e_s_1]; exact FA_.si FA_.rf rfl
  clear e_s_1
  refine pf_bv (fun s_2 e_s_2 => ?_)
  have g_s_2 : FA_ s0 s_2 := by rw [e_s_2]; exact FA_.si g_s_1 rfl
  clear e_s_2
  refine pf_bv (fun s_3 e_s_3 => ?_)
  have g_s_3 : FA_ s0 s_3 := by rw [e_s_3]; exact FA_.si g_s_2 rfl
  clear e_s_3
  refine pf_jn (fun k_5 => ∀ (s_4 : Sg), FA_ s0 s_4 → pf_ (k_5 s_4) Q) ?_ (fun k_5 hk_5 => ?_)
  · intro s_4 g_s_4
    try dsimp only
    refine pf_lo2 (fun (_ : Int32) s_7 => FA_ s0 s_7) ?_ FU 1 s_4 g_s_4
    intro rec116 x5_6 s_7 g_s_7 hr0_
    have hrec116 : ∀ (x5_6 : Int32) (s_7 : Sg), FA_ s0 s_7 → pf_ (rec116 x5_6 s_7) Q := fun x5_6 s_7 z_s_7 => hr0_ x5_6 s_7 z_s_7
    clear hr0_
    unfold fX1_prepare_116_b
    refine pf_if ?_ ?_
    · skip
      exact pf_some (hQ () g_s_7)
    · skip
      refine pf_chk (fun _ => ?_)
      refine pf_bnv (ya_fX4_hang (gi s_7 22 (ix x5_6)) (gi s_7 23 (ix x5_6)) s_7 ) (fun s_9 p_s_9 => ?_)
      have g_s_9 : FA_ s0 s_9 := (g_s_7).tr p_s_9
      refine pf_bnd (ya_fX4_isSafe (gr s_9 1 13) s_9 ) (fun r_10 s_11 p_s_11 => ?_)
      have g_s_11 : FA_ s0 s_11 := (g_s_9).tr p_s_11
      refine pf_jn (fun k_14 => ∀ (y_12 : Int32) (y_13 : Int32), pf_ (k_14 y_12 y_13) Q) ?_ (fun k_14 hk_14 => ?_)
      · intro y_12 y_13
        try dsimp only
        refine pf_chk (fun _ => ?_)
        refine pf_bv (fun s_16 e_s_16 => ?_)
        have g_s_16 : FA_ s0 s_16 := by rw [e_s_16]; exact FA_.si g_s_11 rfl
        clear e_s_16
        refine pf_bv (fun v_17 e_v_17 => ?_)
        clear e_v_17
        exact hrec116 v_17 s_16 g_s_16
      refine pf_if ?_ ?_
      · skip
        exact hk_14 x5_6 1000000000 
      · skip
        exact hk_14 x5_6 (iabs (gi s_11 6 4)) 
  refine pf_lo2 (fun (_ : Int32) s_19 => FA_ s0 s_19) ?_ FU 0 s_3 g_s_3
  intro rec28 x5_18 s_19 g_s_19 hr0_
  have hrec28 : ∀ (x5_18 : Int32) (s_19 : Sg), FA_ s0 s_19 → pf_ (rec28 x5_18 s_19) Q := fun x5_18 s_19 z_s_19 => hr0_ x5_18 s_19 z_s_19
  clear hr0_
  unfold fX1_prepare_28_b
  refine pf_if ?_ ?_
  · skip
    exact hk_5 s_19 g_s_19
  · skip
    refine pf_if ?_ ?_
    · skip
      exact hk_5 s_19 g_s_19
    · skip
      refine pf_jn (fun k_21 => ∀ (s_20 : Sg), FA_ s0 s_20 → pf_ (k_21 s_20) Q) ?_ (fun k_21 hk_21 => ?_)
      · intro s_20 g_s_20
        try dsimp only
        refine pf_bv (fun v_22 e_v_22 => ?_)
        clear e_v_22
        exact hrec28 v_22 s_20 g_s_20
      refine pf_if ?_ ?_
      · skip
        refine pf_bv (fun v_23 e_v_23 => ?_)
        clear e_v_23
        refine pf_chk (fun _ => ?_)
        refine pf_bv (fun s_25 e_s_25 => ?_)
        have g_s_25 : FA_ s0 s_25 := by rw [e_s_25]; exact FA_.si g_s_19 rfl
        clear e_s_25
        refine pf_bnd (ya_fX4_borneOf x5_18 v_23 s_25 ) (fun r_26 s_27 p_s_27 => ?_)
        have g_s_27 : FA_ s0 s_27 := (g_s_25).tr p_s_27
        refine pf_bnv (ya_fX1_addToParts (1 <<< ((gi s_25 7 1) &&& 31)) v_23 r_26 s_27 ) (fun s_28 p_s_28 => ?_)
        have g_s_28 : FA_ s0 s_28 := (g_s_27).tr p_s_28
        refine pf_bv (fun s_29 e_s_29 => ?_)
        have g_s_29 : FA_ s0 s_29 := by rw [e_s_29]; exact FA_.si g_s_28 rfl
        clear e_s_29
        exact hk_21 s_29 g_s_29
      · skip
        exact hk_21 s_19 g_s_19
set_option maxRecDepth 20000 in
theorem ya_fX1_count (s0 : Sg)  : pf_ (fX1_count s0) (fun q => FA_ s0 q.2) := by
  generalize hQ0 : (fun q : (Int32 × Sg) => FA_ s0 q.2) = Q
  have hQ : ∀ r {x : Sg}, FA_ s0 x → Q (r, x) := fun r x h => by rw [← hQ0]; exact h
  clear hQ0
  unfold fX1_count
  refine pf_bv (fun s_1 e_s_1 => ?_)
  have g_s_1 : FA_ s0 s_1 := by rw [e_s_1]; exact FA_.si FA_.rf rfl
  clear e_s_1
  refine pf_bv (fun v_2 e_v_2 => ?_)
  clear e_v_2
  refine pf_jn (fun k_4 => ∀ (s_3 : Sg), FA_ s0 s_3 → pf_ (k_4 s_3) Q) ?_ (fun k_4 hk_4 => ?_)
  · intro s_3 g_s_3
    try dsimp only
    refine pf_chk (fun _ => ?_)
    exact pf_some (hQ _ g_s_3)
  refine pf_lo2 (fun (_ : Int32) s_7 => FA_ s0 s_7) ?_ FU 1 s_1 g_s_1
  intro rec18 x2_6 s_7 g_s_7 hr0_
  have hrec18 : ∀ (x2_6 : Int32) (s_7 : Sg), FA_ s0 s_7 → pf_ (rec18 x2_6 s_7) Q := fun x2_6 s_7 z_s_7 => hr0_ x2_6 s_7 z_s_7
  clear hr0_
  unfold fX1_count_18_b
  refine pf_if ?_ ?_
  · skip
    exact hk_4 s_7 g_s_7
  · skip
    refine pf_jn (fun k_9 => ∀ (x3_8 : Int32), pf_ (k_9 x3_8) Q) ?_ (fun k_9 hk_9 => ?_)
    · intro x3_8
      try dsimp only
      refine pf_chk (fun _ => ?_)
      refine pf_bv (fun s_11 e_s_11 => ?_)
      have g_s_11 : FA_ s0 s_11 := by rw [e_s_11]; exact FA_.si g_s_7 rfl
      clear e_s_11
      refine pf_bv (fun v_12 e_v_12 => ?_)
      clear e_v_12
      exact hrec18 v_12 s_11 g_s_11
    refine pf_lo2 (fun (_ : Int32) (_ : Int32) => True) ?_ FU 0 0 trivial
    intro rec28 x3_13 x4_14 _ hr0_
    have hrec28 : ∀ (x3_13 : Int32) (x4_14 : Int32), pf_ (rec28 x3_13 x4_14) Q := fun x3_13 x4_14 => hr0_ x3_13 x4_14 trivial
    clear hr0_
    unfold fX1_count_28_b
    refine pf_if ?_ ?_
    · skip
      exact hk_9 x3_13 
    · skip
      refine pf_chk (fun _ => ?_)
      refine pf_if ?_ ?_
      · skip
        exact hk_9 x3_13 
      · skip
        refine pf_jn (fun k_18 => ∀ (y_16 : Int32) (y_17 : Int32), pf_ (k_18 y_16 y_17) Q) ?_ (fun k_18 hk_18 => ?_)
        · intro y_16 y_17
          try dsimp only
          refine pf_bv (fun v_19 e_v_19 => ?_)
          clear e_v_19
          refine pf_bv (fun v_20 e_v_20 => ?_)
          clear e_v_20
          exact hrec28 v_19 v_20 
        refine pf_if ?_ ?_
        · skip
          refine pf_chk (fun _ => ?_)
          exact hk_18 x3_13 (gi s_7 25 (ix (x2_6 - (1 <<< (x4_14 &&& 31))))) 
        · skip
          exact hk_18 x3_13 0 
set_option maxRecDepth 20000 in
theorem ya_fX9_loadings (a1 : Int32) (a2 : Int32) (s0 : Sg)  : pf_ (fX9_loadings a1 a2 s0) (fun q => FA_ s0 q.2) := by
  generalize hQ0 : (fun q : (Int64 × Sg) => FA_ s0 q.2) = Q
  have hQ : ∀ r {x : Sg}, FA_ s0 x → Q (r, x) := fun r x h => by rw [← hQ0]; exact h
  clear hQ0
  unfold fX9_loadings
  refine pf_bnd (ya_fX9_isLoadable a1 a2 s0 ) (fun r_1 s_2 p_s_2 => ?_)
  have g_s_2 : FA_ s0 s_2 := (FA_.rf).tr p_s_2
  refine pf_if ?_ ?_
  · skip
    exact pf_some (hQ _ g_s_2)
  · skip
    refine pf_bnv (ya_fX9_weighWhatLies s_2 ) (fun s_3 p_s_3 => ?_)
    have g_s_3 : FA_ s0 s_3 := (g_s_2).tr p_s_3
    refine pf_bnv (ya_fX1_prepare a1 a2 s_3 ) (fun s_4 p_s_4 => ?_)
    have g_s_4 : FA_ s0 s_4 := (g_s_3).tr p_s_4
    refine pf_bnd (ya_fX1_count s_4 ) (fun r_5 s_6 p_s_6 => ?_)
    have g_s_6 : FA_ s0 s_6 := (g_s_4).tr p_s_6
    exact pf_some (hQ _ g_s_6)
set_option maxRecDepth 20000 in
theorem ya_fX1_turnFrom (a1 : Int32) (s0 : Sg)  : pf_ (fX1_turnFrom a1 s0) (fun q => FA_ s0 q.2) := by
  generalize hQ0 : (fun q : (Int32 × Sg) => FA_ s0 q.2) = Q
  have hQ : ∀ r {x : Sg}, FA_ s0 x → Q (r, x) := fun r x h => by rw [← hQ0]; exact h
  clear hQ0
  unfold fX1_turnFrom
  refine pf_chk (fun _ => ?_)
  exact pf_some (hQ _ FA_.rf)
set_option maxRecDepth 20000 in
theorem ya_fX1_leastTurn (s0 : Sg)  : pf_ (fX1_leastTurn s0) (fun q => FA_ s0 q.2) := by
  generalize hQ0 : (fun q : (Int32 × Sg) => FA_ s0 q.2) = Q
  have hQ : ∀ r {x : Sg}, FA_ s0 x → Q (r, x) := fun r x h => by rw [← hQ0]; exact h
  clear hQ0
  unfold fX1_leastTurn
  refine pf_bv (fun v_1 e_v_1 => ?_)
  clear e_v_1
  refine pf_chk (fun _ => ?_)
  refine pf_bv (fun s_3 e_s_3 => ?_)
  have g_s_3 : FA_ s0 s_3 := by rw [e_s_3]; exact FA_.si FA_.rf rfl
  clear e_s_3
  refine pf_bv (fun v_4 e_v_4 => ?_)
  clear e_v_4
  refine pf_jn (fun k_6 => ∀ (s_5 : Sg), FA_ s0 s_5 → pf_ (k_6 s_5) Q) ?_ (fun k_6 hk_6 => ?_)
  · intro s_5 g_s_5
    try dsimp only
    refine pf_if ?_ ?_
    · skip
      exact pf_some (hQ _ g_s_5)
    · skip
      exact pf_some (hQ _ g_s_5)
  refine pf_lo2 (fun (_ : Int32) s_8 => FA_ s0 s_8) ?_ FU v_4 s_3 g_s_3
  intro rec20 x2_7 s_8 g_s_8 hr0_
  have hrec20 : ∀ (x2_7 : Int32) (s_8 : Sg), FA_ s0 s_8 → pf_ (rec20 x2_7 s_8) Q := fun x2_7 s_8 z_s_8 => hr0_ x2_7 s_8 z_s_8
  clear hr0_
  unfold fX1_leastTurn_20_b
  refine pf_if ?_ ?_
  · skip
    exact hk_6 s_8 g_s_8
  · skip
    refine pf_jn (fun k_11 => ∀ (x3_9 : Int32) (s_10 : Sg), FA_ s0 s_10 → pf_ (k_11 x3_9 s_10) Q) ?_ (fun k_11 hk_11 => ?_)
    · intro x3_9 s_10 g_s_10
      try dsimp only
      refine pf_chk (fun _ => ?_)
      refine pf_bv (fun s_13 e_s_13 => ?_)
      have g_s_13 : FA_ s0 s_13 := by rw [e_s_13]; exact FA_.si g_s_10 rfl
      clear e_s_13
      refine pf_bv (fun v_14 e_v_14 => ?_)
      clear e_v_14
      exact hrec20 v_14 s_13 g_s_13
    refine pf_lo3 (fun (_ : Int32) (_ : Int32) s_17 => FA_ s0 s_17) ?_ FU 1000000000 0 s_8 g_s_8
    intro rec30 x3_15 x4_16 s_17 g_s_17 hr0_
    have hrec30 : ∀ (x3_15 : Int32) (x4_16 : Int32) (s_17 : Sg), FA_ s0 s_17 → pf_ (rec30 x3_15 x4_16 s_17) Q := fun x3_15 x4_16 s_17 z_s_17 => hr0_ x3_15 x4_16 s_17 z_s_17
    clear hr0_
    unfold fX1_leastTurn_30_b
    refine pf_if ?_ ?_
    · skip
      exact hk_11 x3_15 s_17 g_s_17
    · skip
      refine pf_jn (fun k_20 => ∀ (x3_18 : Int32) (s_19 : Sg), FA_ s0 s_19 → pf_ (k_20 x3_18 s_19) Q) ?_ (fun k_20 hk_20 => ?_)
      · intro x3_18 s_19 g_s_19
        try dsimp only
        refine pf_bv (fun v_21 e_v_21 => ?_)
        clear e_v_21
        exact hrec30 x3_18 v_21 s_19 g_s_19
      refine pf_if ?_ ?_
      · skip
        refine pf_bnd (ya_fX1_turnFrom (x2_7 + (1 <<< (x4_16 &&& 31))) s_17 ) (fun r_22 s_23 p_s_23 => ?_)
        have g_s_23 : FA_ s0 s_23 := (g_s_17).tr p_s_23
        refine pf_bv (fun v_24 e_v_24 => ?_)
        clear e_v_24
        exact hk_20 v_24 s_23 g_s_23
      · skip
        exact hk_20 x3_15 s_17 g_s_17
set_option maxRecDepth 20000 in
theorem ya_fX1_nextMember (a1 : Int32) (a2 : Int32) (s0 : Sg)  : pf_ (fX1_nextMember a1 a2 s0) (fun q => FA_ s0 q.2) := by
  generalize hQ0 : (fun q : (Int32 × Sg) => FA_ s0 q.2) = Q
  have hQ : ∀ r {x : Sg}, FA_ s0 x → Q (r, x) := fun r x h => by rw [← hQ0]; exact h
  clear hQ0
  unfold fX1_nextMember
  refine pf_lo2 (fun (_ : Int32) s_2 => FA_ s0 s_2) ?_ FU 0 s0 FA_.rf
  intro rec2 x3_1 s_2 g_s_2 hr0_
  have hrec2 : ∀ (x3_1 : Int32) (s_2 : Sg), FA_ s0 s_2 → pf_ (rec2 x3_1 s_2) Q := fun x3_1 s_2 z_s_2 => hr0_ x3_1 s_2 z_s_2
  clear hr0_
  unfold fX1_nextMember_2_b
  refine pf_if ?_ ?_
  · skip
    exact pf_some (hQ _ g_s_2)
  · skip
    refine pf_jn (fun k_4 => ∀ (s_3 : Sg), FA_ s0 s_3 → pf_ (k_4 s_3) Q) ?_ (fun k_4 hk_4 => ?_)
    · intro s_3 g_s_3
      try dsimp only
      refine pf_bv (fun v_5 e_v_5 => ?_)
      clear e_v_5
      exact hrec2 v_5 s_3 g_s_3
    refine pf_if ?_ ?_
    · skip
      refine pf_bnd (ya_fX1_turnFrom (a1 + (1 <<< (x3_1 &&& 31))) s_2 ) (fun r_6 s_7 p_s_7 => ?_)
      have g_s_7 : FA_ s0 s_7 := (g_s_2).tr p_s_7
      refine pf_if ?_ ?_
      · skip
        exact hk_4 s_7 g_s_7
      · skip
        exact pf_some (hQ _ g_s_7)
    · skip
      exact hk_4 s_2 g_s_2
set_option maxRecDepth 20000 in
theorem ya_fX1_gentleThing (a1 : Int32) (a2 : Int32) (s0 : Sg)  : pf_ (fX1_gentleThing a1 a2 s0) (fun q => FA_ s0 q.2) := by
  generalize hQ0 : (fun q : (Int32 × Sg) => FA_ s0 q.2) = Q
  have hQ : ∀ r {x : Sg}, FA_ s0 x → Q (r, x) := fun r x h => by rw [← hQ0]; exact h
  clear hQ0
  unfold fX1_gentleThing
  refine pf_lo4 (fun (_ : Int32) (_ : Int32) (_ : Int32) s_4 => FA_ s0 s_4) ?_ FU 0 (-1) 0 s0 FA_.rf
  intro rec8 x3_1 x4_2 x5_3 s_4 g_s_4 hr0_
  have hrec8 : ∀ (x3_1 : Int32) (x4_2 : Int32) (x5_3 : Int32) (s_4 : Sg), FA_ s0 s_4 → pf_ (rec8 x3_1 x4_2 x5_3 s_4) Q := fun x3_1 x4_2 x5_3 s_4 z_s_4 => hr0_ x3_1 x4_2 x5_3 s_4 z_s_4
  clear hr0_
  unfold fX1_gentleThing_8_b
  refine pf_if ?_ ?_
  · skip
    exact pf_some (hQ _ g_s_4)
  · skip
    refine pf_bnd (ya_fX1_nextMember x3_1 a2 s_4 ) (fun r_5 s_6 p_s_6 => ?_)
    have g_s_6 : FA_ s0 s_6 := (g_s_4).tr p_s_6
    refine pf_if ?_ ?_
    · skip
      exact pf_some (hQ _ g_s_6)
    · skip
      refine pf_chk (fun _ => ?_)
      refine pf_bv (fun v_8 e_v_8 => ?_)
      clear e_v_8
      refine pf_bv (fun v_9 e_v_9 => ?_)
      clear e_v_9
      refine pf_bv (fun v_10 e_v_10 => ?_)
      clear e_v_10
      exact hrec8 v_9 v_8 v_10 s_6 g_s_6
set_option maxRecDepth 20000 in
theorem ya_fX9_gentle (a1 : Int32) (a2 : Int32) (a3 : Int32) (s0 : Sg)  : pf_ (fX9_gentle a1 a2 a3 s0) (fun q => FA_ s0 q.2) := by
  generalize hQ0 : (fun q : (Int32 × Sg) => FA_ s0 q.2) = Q
  have hQ : ∀ r {x : Sg}, FA_ s0 x → Q (r, x) := fun r x h => by rw [← hQ0]; exact h
  clear hQ0
  unfold fX9_gentle
  refine pf_bnd (ya_fX9_isLoadable a1 a2 s0 ) (fun r_1 s_2 p_s_2 => ?_)
  have g_s_2 : FA_ s0 s_2 := (FA_.rf).tr p_s_2
  refine pf_if ?_ ?_
  · skip
    exact pf_some (hQ _ g_s_2)
  · skip
    refine pf_bnd (ya_fJ6_bitCount_0f7a4 a1 s_2 ) (fun r_3 s_4 p_s_4 => ?_)
    have g_s_4 : FA_ s0 s_4 := (g_s_2).tr p_s_4
    refine pf_bnd (ya_fX9_within a3 (-1) (r_3 - 1) s_4 ) (fun r_5 s_6 p_s_6 => ?_)
    have g_s_6 : FA_ s0 s_6 := (g_s_4).tr p_s_6
    refine pf_if ?_ ?_
    · skip
      exact pf_some (hQ _ g_s_6)
    · skip
      refine pf_bnv (ya_fX9_weighWhatLies s_6 ) (fun s_7 p_s_7 => ?_)
      have g_s_7 : FA_ s0 s_7 := (g_s_6).tr p_s_7
      refine pf_bnv (ya_fX1_prepare a1 a2 s_7 ) (fun s_8 p_s_8 => ?_)
      have g_s_8 : FA_ s0 s_8 := (g_s_7).tr p_s_8
      refine pf_bnd (ya_fX1_leastTurn s_8 ) (fun r_9 s_10 p_s_10 => ?_)
      have g_s_10 : FA_ s0 s_10 := (g_s_8).tr p_s_10
      refine pf_if ?_ ?_
      · skip
        exact pf_some (hQ _ g_s_10)
      · skip
        refine pf_if ?_ ?_
        · skip
          exact pf_some (hQ _ g_s_10)
        · skip
          refine pf_bnd (ya_fX1_gentleThing a3 r_9 s_10 ) (fun r_11 s_12 p_s_12 => ?_)
          have g_s_12 : FA_ s0 s_12 := (g_s_10).tr p_s_12
          exact pf_some (hQ _ g_s_12)
set_option maxRecDepth 20000 in
theorem ya_fX9_borneAt (a1 : Nat) (a2 : Int32) (s0 : Sg)  : pf_ (fX9_borneAt a1 a2 s0) (fun q => FA_ s0 q.2) := by
  generalize hQ0 : (fun q : (Int32 × Sg) => FA_ s0 q.2) = Q
  have hQ : ∀ r {x : Sg}, FA_ s0 x → Q (r, x) := fun r x h => by rw [← hQ0]; exact h
  clear hQ0
  unfold fX9_borneAt
  refine pf_bnv (ya_fX4_setAir (gi s0 a1 3) (gi s0 a1 4) (gi s0 a1 5) s0 ) (fun s_1 p_s_1 => ?_)
  have g_s_1 : FA_ s0 s_1 := (FA_.rf).tr p_s_1
  refine pf_bnd (ya_fX4_borne (gr s_1 1 13) 12 a2 0 (gi s_1 a1 6) s_1 ) (fun r_2 s_3 p_s_3 => ?_)
  have g_s_3 : FA_ s0 s_3 := (g_s_1).tr p_s_3
  exact pf_some (hQ _ g_s_3)
set_option maxRecDepth 20000 in
theorem ya_fX3_agrees (q0 : Nat) (a1 : Int32) (a2 : Int32) (s0 : Sg)  : pf_ (fX3_agrees q0 a1 a2 s0) (fun q => FA_ s0 q.2) := by
  generalize hQ0 : (fun q : (Bool × Sg) => FA_ s0 q.2) = Q
  have hQ : ∀ r {x : Sg}, FA_ s0 x → Q (r, x) := fun r x h => by rw [← hQ0]; exact h
  clear hQ0
  unfold fX3_agrees
  refine pf_jn (fun k_2 => ∀ (y_1 : Int32), pf_ (k_2 y_1) Q) ?_ (fun k_2 hk_2 => ?_)
  · intro y_1
    try dsimp only
    refine pf_jn (fun k_4 => ∀ (y_3 : Int32), pf_ (k_4 y_3) Q) ?_ (fun k_4 hk_4 => ?_)
    · intro y_3
      try dsimp only
      refine pf_bv (fun v_5 e_v_5 => ?_)
      clear e_v_5
      refine pf_bnd (ya_fX9_leaning v_5 (gi s0 q0 2) s0 ) (fun r_6 s_7 p_s_7 => ?_)
      have g_s_7 : FA_ s0 s_7 := (FA_.rf).tr p_s_7
      refine pf_if ?_ ?_
      · skip
        exact pf_some (hQ _ g_s_7)
      · skip
        exact pf_some (hQ _ g_s_7)
    refine pf_if ?_ ?_
    · skip
      exact hk_4 ((gi s0 q0 9) + (gi s0 q0 10)) 
    · skip
      exact hk_4 (gi s0 q0 9) 
  refine pf_if ?_ ?_
  · skip
    exact hk_2 ((gi s0 q0 8) + (gi s0 q0 10)) 
  · skip
    exact hk_2 (gi s0 q0 8) 
set_option maxRecDepth 20000 in
theorem ya_fX9_fitsReadings (a1 : Int32) (s0 : Sg)  : pf_ (fX9_fitsReadings a1 s0) (fun q => FA_ s0 q.2) := by
  generalize hQ0 : (fun q : (Bool × Sg) => FA_ s0 q.2) = Q
  have hQ : ∀ r {x : Sg}, FA_ s0 x → Q (r, x) := fun r x h => by rw [← hQ0]; exact h
  clear hQ0
  unfold fX9_fitsReadings
  refine pf_lo2 (fun (_ : Int32) s_2 => FA_ s0 s_2) ?_ FU 0 s0 FA_.rf
  intro rec2 x2_1 s_2 g_s_2 hr0_
  have hrec2 : ∀ (x2_1 : Int32) (s_2 : Sg), FA_ s0 s_2 → pf_ (rec2 x2_1 s_2) Q := fun x2_1 s_2 z_s_2 => hr0_ x2_1 s_2 z_s_2
  clear hr0_
  unfold fX9_fitsReadings_2_b
  refine pf_if ?_ ?_
  · skip
    exact pf_some (hQ _ g_s_2)
  · skip
    refine pf_chk (fun _ => ?_)
    refine pf_bv (fun q_4 e_q_4 => ?_)
    refine pf_chk (fun h_ => ?_)
    have c_17_ := rd_rng h_
    refine pf_bnd (ya_fX9_borneAt q_4 a1 s_2 ) (fun r_6 s_7 p_s_7 => ?_)
    have g_s_7 : FA_ s0 s_7 := (g_s_2).tr p_s_7
    refine pf_bv (fun s_8 e_s_8 => ?_)
    have g_s_8 : FA_ s0 s_8 := by rw [e_s_8]; exact FA_.si g_s_7 (pa_big (by omega))
    clear e_s_8
    refine pf_bnd (ya_fX3_agrees q_4 (gi s_8 q_4 0) (gi s_8 q_4 1) s_8 ) (fun r_9 s_10 p_s_10 => ?_)
    have g_s_10 : FA_ s0 s_10 := (g_s_8).tr p_s_10
    refine pf_if ?_ ?_
    · skip
      exact pf_some (hQ _ g_s_10)
    · skip
      refine pf_bv (fun v_11 e_v_11 => ?_)
      clear e_v_11
      exact hrec2 v_11 s_10 g_s_10
set_option maxRecDepth 20000 in
theorem ya_fX9_span (a1 : Int32) (s0 : Sg)  : pf_ (fX9_span a1 s0) (fun q => FA_ s0 q.2) := by
  generalize hQ0 : (fun q : (Int32 × Sg) => FA_ s0 q.2) = Q
  have hQ : ∀ r {x : Sg}, FA_ s0 x → Q (r, x) := fun r x h => by rw [← hQ0]; exact h
  clear hQ0
  unfold fX9_span
  refine pf_bnd (ya_fX9_within a1 0 2 s0 ) (fun r_1 s_2 p_s_2 => ?_)
  have g_s_2 : FA_ s0 s_2 := (FA_.rf).tr p_s_2
  refine pf_if ?_ ?_
  · skip
    exact pf_some (hQ _ g_s_2)
  · skip
    refine pf_jn (fun k_7 => ∀ (x2_3 : Int32) (x3_4 : Int32) (x4_5 : Int32) (s_6 : Sg), FA_ s0 s_6 → pf_ (k_7 x2_3 x3_4 x4_5 s_6) Q) ?_ (fun k_7 hk_7 => ?_)
    · intro x2_3 x3_4 x4_5 s_6 g_s_6
      try dsimp only
      refine pf_if ?_ ?_
      · skip
        exact pf_some (hQ _ g_s_6)
      · skip
        refine pf_if ?_ ?_
        · skip
          exact pf_some (hQ _ g_s_6)
        · skip
          exact pf_some (hQ _ g_s_6)
    refine pf_lo5 (fun (_ : Int32) (_ : Int32) (_ : Int32) (_ : Int32) s_12 => FA_ s0 s_12) ?_ FU 0 (-1) (-1) 1 s_2 g_s_2
    intro rec21 x2_8 x3_9 x4_10 x5_11 s_12 g_s_12 hr0_
    have hrec21 : ∀ (x2_8 : Int32) (x3_9 : Int32) (x4_10 : Int32) (x5_11 : Int32) (s_12 : Sg), FA_ s0 s_12 → pf_ (rec21 x2_8 x3_9 x4_10 x5_11 s_12) Q := fun x2_8 x3_9 x4_10 x5_11 s_12 z_s_12 => hr0_ x2_8 x3_9 x4_10 x5_11 s_12 z_s_12
    clear hr0_
    unfold fX9_span_21_b
    refine pf_if ?_ ?_
    · skip
      exact hk_7 x2_8 x3_9 x4_10 s_12 g_s_12
    · skip
      refine pf_bnd (ya_fX9_fitsReadings x5_11 s_12 ) (fun r_13 s_14 p_s_14 => ?_)
      have g_s_14 : FA_ s0 s_14 := (g_s_12).tr p_s_14
      refine pf_jn (fun k_18 => ∀ (x2_15 : Int32) (x3_16 : Int32) (x4_17 : Int32), pf_ (k_18 x2_15 x3_16 x4_17) Q) ?_ (fun k_18 hk_18 => ?_)
      · intro x2_15 x3_16 x4_17
        try dsimp only
        refine pf_bv (fun v_19 e_v_19 => ?_)
        clear e_v_19
        exact hrec21 x2_15 x3_16 x4_17 v_19 s_14 g_s_14
      refine pf_if ?_ ?_
      · skip
        exact hk_18 x2_8 x3_9 x4_10 
      · skip
        refine pf_bv (fun v_20 e_v_20 => ?_)
        clear e_v_20
        refine pf_jn (fun k_22 => ∀ (y_21 : Int32), pf_ (k_22 y_21) Q) ?_ (fun k_22 hk_22 => ?_)
        · intro y_21
          try dsimp only
          exact hk_18 v_20 y_21 x5_11 
        refine pf_if ?_ ?_
        · skip
          exact hk_22 x5_11 
        · skip
          exact hk_22 x3_9 
set_option maxRecDepth 20000 in
theorem ya_fX9_bearUnknown (a1 : Int32) (s0 : Sg)  : pf_ (fX9_bearUnknown a1 s0) (fun q => FA_ s0 q) := by
  generalize hQ0 : (fun q : (Sg) => FA_ s0 q) = Q
  have hQ : ∀ (_ : Unit) {x : Sg}, FA_ s0 x → Q x := fun _ x h => by rw [← hQ0]; exact h
  clear hQ0
  unfold fX9_bearUnknown
  refine pf_lo2 (fun (_ : Int32) s_2 => FA_ s0 s_2) ?_ FU 0 s0 FA_.rf
  intro rec2 x2_1 s_2 g_s_2 hr0_
  have hrec2 : ∀ (x2_1 : Int32) (s_2 : Sg), FA_ s0 s_2 → pf_ (rec2 x2_1 s_2) Q := fun x2_1 s_2 z_s_2 => hr0_ x2_1 s_2 z_s_2
  clear hr0_
  unfold fX9_bearUnknown_2_b
  refine pf_if ?_ ?_
  · skip
    exact pf_some (hQ () g_s_2)
  · skip
    refine pf_chk (fun _ => ?_)
    refine pf_bv (fun q_4 e_q_4 => ?_)
    refine pf_chk (fun h_ => ?_)
    have c_17_ := rd_rng h_
    refine pf_bnd (ya_fX9_borneAt q_4 a1 s_2 ) (fun r_6 s_7 p_s_7 => ?_)
    have g_s_7 : FA_ s0 s_7 := (g_s_2).tr p_s_7
    refine pf_bv (fun s_8 e_s_8 => ?_)
    have g_s_8 : FA_ s0 s_8 := by rw [e_s_8]; exact FA_.si g_s_7 (pa_big (by omega))
    clear e_s_8
    refine pf_bv (fun v_9 e_v_9 => ?_)
    clear e_v_9
    exact hrec2 v_9 s_8 g_s_8
set_option maxRecDepth 20000 in
theorem ya_fX9_armsFitReadings (a1 : Int32) (a2 : Int32) (s0 : Sg)  : pf_ (fX9_armsFitReadings a1 a2 s0) (fun q => FA_ s0 q.2) := by
  generalize hQ0 : (fun q : (Bool × Sg) => FA_ s0 q.2) = Q
  have hQ : ∀ r {x : Sg}, FA_ s0 x → Q (r, x) := fun r x h => by rw [← hQ0]; exact h
  clear hQ0
  unfold fX9_armsFitReadings
  refine pf_lo2 (fun (_ : Int32) s_2 => FA_ s0 s_2) ?_ FU 0 s0 FA_.rf
  intro rec2 x3_1 s_2 g_s_2 hr0_
  have hrec2 : ∀ (x3_1 : Int32) (s_2 : Sg), FA_ s0 s_2 → pf_ (rec2 x3_1 s_2) Q := fun x3_1 s_2 z_s_2 => hr0_ x3_1 s_2 z_s_2
  clear hr0_
  unfold fX9_armsFitReadings_2_b
  refine pf_if ?_ ?_
  · skip
    exact pf_some (hQ _ g_s_2)
  · skip
    refine pf_chk (fun _ => ?_)
    refine pf_bv (fun q_4 e_q_4 => ?_)
    refine pf_chk (fun h_ => ?_)
    have c_17_ := rd_rng h_
    refine pf_bnd (ya_fX3_agrees q_4 a1 a2 s_2 ) (fun r_6 s_7 p_s_7 => ?_)
    have g_s_7 : FA_ s0 s_7 := (g_s_2).tr p_s_7
    refine pf_if ?_ ?_
    · skip
      exact pf_some (hQ _ g_s_7)
    · skip
      refine pf_bv (fun v_8 e_v_8 => ?_)
      clear e_v_8
      exact hrec2 v_8 s_7 g_s_7
set_option maxRecDepth 20000 in
theorem ya_fX9_bent (a1 : Int32) (a2 : Int32) (s0 : Sg)  : pf_ (fX9_bent a1 a2 s0) (fun q => FA_ s0 q.2) := by
  generalize hQ0 : (fun q : (Int32 × Sg) => FA_ s0 q.2) = Q
  have hQ : ∀ r {x : Sg}, FA_ s0 x → Q (r, x) := fun r x h => by rw [← hQ0]; exact h
  clear hQ0
  unfold fX9_bent
  refine pf_bnd (ya_fX9_within a1 1 999 s0 ) (fun r_1 s_2 p_s_2 => ?_)
  have g_s_2 : FA_ s0 s_2 := (FA_.rf).tr p_s_2
  refine pf_if ?_ ?_
  · skip
    exact pf_some (hQ _ g_s_2)
  · skip
    refine pf_bnd (ya_fX9_within a2 0 1 s_2 ) (fun r_3 s_4 p_s_4 => ?_)
    have g_s_4 : FA_ s0 s_4 := (g_s_2).tr p_s_4
    refine pf_if ?_ ?_
    · skip
      exact pf_some (hQ _ g_s_4)
    · skip
      refine pf_bnv (ya_fX9_bearUnknown a1 s_4 ) (fun s_5 p_s_5 => ?_)
      have g_s_5 : FA_ s0 s_5 := (g_s_4).tr p_s_5
      refine pf_jn (fun k_9 => ∀ (x3_6 : Int32) (x4_7 : Int32) (s_8 : Sg), FA_ s0 s_8 → pf_ (k_9 x3_6 x4_7 s_8) Q) ?_ (fun k_9 hk_9 => ?_)
      · intro x3_6 x4_7 s_8 g_s_8
        try dsimp only
        refine pf_if ?_ ?_
        · skip
          exact pf_some (hQ _ g_s_8)
        · skip
          exact pf_some (hQ _ g_s_8)
      refine pf_lo4 (fun (_ : Int32) (_ : Int32) (_ : Int32) s_13 => FA_ s0 s_13) ?_ FU 0 (-1) 1 s_5 g_s_5
      intro rec35 x3_10 x4_11 x5_12 s_13 g_s_13 hr0_
      have hrec35 : ∀ (x3_10 : Int32) (x4_11 : Int32) (x5_12 : Int32) (s_13 : Sg), FA_ s0 s_13 → pf_ (rec35 x3_10 x4_11 x5_12 s_13) Q := fun x3_10 x4_11 x5_12 s_13 z_s_13 => hr0_ x3_10 x4_11 x5_12 s_13 z_s_13
      clear hr0_
      unfold fX9_bent_35_b
      refine pf_if ?_ ?_
      · skip
        exact hk_9 x3_10 x4_11 s_13 g_s_13
      · skip
        refine pf_jn (fun k_17 => ∀ (x3_14 : Int32) (x4_15 : Int32) (s_16 : Sg), FA_ s0 s_16 → pf_ (k_17 x3_14 x4_15 s_16) Q) ?_ (fun k_17 hk_17 => ?_)
        · intro x3_14 x4_15 s_16 g_s_16
          try dsimp only
          refine pf_bv (fun v_18 e_v_18 => ?_)
          clear e_v_18
          exact hrec35 x3_14 x4_15 v_18 s_16 g_s_16
        refine pf_lo4 (fun (_ : Int32) (_ : Int32) (_ : Int32) s_22 => FA_ s0 s_22) ?_ FU x3_10 x4_11 1 s_13 g_s_13
        intro rec45 x3_19 x4_20 x6_21 s_22 g_s_22 hr0_
        have hrec45 : ∀ (x3_19 : Int32) (x4_20 : Int32) (x6_21 : Int32) (s_22 : Sg), FA_ s0 s_22 → pf_ (rec45 x3_19 x4_20 x6_21 s_22) Q := fun x3_19 x4_20 x6_21 s_22 z_s_22 => hr0_ x3_19 x4_20 x6_21 s_22 z_s_22
        clear hr0_
        unfold fX9_bent_45_b
        refine pf_if ?_ ?_
        · skip
          exact hk_17 x3_19 x4_20 s_22 g_s_22
        · skip
          refine pf_bnd (ya_fX9_armsFitReadings x5_12 x6_21 s_22 ) (fun r_23 s_24 p_s_24 => ?_)
          have g_s_24 : FA_ s0 s_24 := (g_s_22).tr p_s_24
          refine pf_jn (fun k_27 => ∀ (x3_25 : Int32) (x4_26 : Int32), pf_ (k_27 x3_25 x4_26) Q) ?_ (fun k_27 hk_27 => ?_)
          · intro x3_25 x4_26
            try dsimp only
            refine pf_bv (fun v_28 e_v_28 => ?_)
            clear e_v_28
            exact hrec45 x3_25 x4_26 v_28 s_24 g_s_24
          refine pf_if ?_ ?_
          · skip
            exact hk_27 x3_19 x4_20 
          · skip
            refine pf_bv (fun v_29 e_v_29 => ?_)
            clear e_v_29
            refine pf_jn (fun k_31 => ∀ (y_30 : Int32), pf_ (k_31 y_30) Q) ?_ (fun k_31 hk_31 => ?_)
            · intro y_30
              try dsimp only
              exact hk_27 v_29 y_30 
            refine pf_if ?_ ?_
            · skip
              exact hk_31 ((100 * x5_12) + x6_21) 
            · skip
              exact hk_31 x4_20 
set_option maxRecDepth 20000 in
theorem ya_fX0_addSums (s0 : Sg)  : pf_ (fX0_addSums s0) (fun q => FA_ s0 q) := by
  generalize hQ0 : (fun q : (Sg) => FA_ s0 q) = Q
  have hQ : ∀ (_ : Unit) {x : Sg}, FA_ s0 x → Q x := fun _ x h => by rw [← hQ0]; exact h
  clear hQ0
  unfold fX0_addSums
  refine pf_lo2 (fun (_ : Int32) s_2 => FA_ s0 s_2) ?_ FU 0 s0 FA_.rf
  intro rec2 x2_1 s_2 g_s_2 hr0_
  have hrec2 : ∀ (x2_1 : Int32) (s_2 : Sg), FA_ s0 s_2 → pf_ (rec2 x2_1 s_2) Q := fun x2_1 s_2 z_s_2 => hr0_ x2_1 s_2 z_s_2
  clear hr0_
  unfold fX0_addSums_2_b
  refine pf_if ?_ ?_
  · skip
    exact pf_some (hQ () g_s_2)
  · skip
    refine pf_jn (fun k_4 => ∀ (s_3 : Sg), FA_ s0 s_3 → pf_ (k_4 s_3) Q) ?_ (fun k_4 hk_4 => ?_)
    · intro s_3 g_s_3
      try dsimp only
      refine pf_bv (fun v_5 e_v_5 => ?_)
      clear e_v_5
      exact hrec2 v_5 s_3 g_s_3
    refine pf_lo2 (fun (_ : Int32) s_7 => FA_ s0 s_7) ?_ FU 0 s_2 g_s_2
    intro rec12 x3_6 s_7 g_s_7 hr0_
    have hrec12 : ∀ (x3_6 : Int32) (s_7 : Sg), FA_ s0 s_7 → pf_ (rec12 x3_6 s_7) Q := fun x3_6 s_7 z_s_7 => hr0_ x3_6 s_7 z_s_7
    clear hr0_
    unfold fX0_addSums_12_b
    refine pf_if ?_ ?_
    · skip
      exact hk_4 s_7 g_s_7
    · skip
      refine pf_chk (fun _ => ?_)
      refine pf_chk (fun _ => ?_)
      refine pf_chk (fun _ => ?_)
      refine pf_bv (fun s_11 e_s_11 => ?_)
      have g_s_11 : FA_ s0 s_11 := by rw [e_s_11]; exact FA_.si g_s_7 rfl
      clear e_s_11
      refine pf_bv (fun v_12 e_v_12 => ?_)
      clear e_v_12
      exact hrec12 v_12 s_11 g_s_11
set_option maxRecDepth 20000 in
theorem ya_fX0_partBeside (a1 : Int32) (a2 : Int32) (s0 : Sg)  : pf_ (fX0_partBeside a1 a2 s0) (fun q => FA_ s0 q.2) := by
  generalize hQ0 : (fun q : (Int32 × Sg) => FA_ s0 q.2) = Q
  have hQ : ∀ r {x : Sg}, FA_ s0 x → Q (r, x) := fun r x h => by rw [← hQ0]; exact h
  clear hQ0
  unfold fX0_partBeside
  refine pf_chk (fun _ => ?_)
  refine pf_bv (fun v_2 e_v_2 => ?_)
  clear e_v_2
  refine pf_if ?_ ?_
  · skip
    exact pf_some (hQ _ FA_.rf)
  · skip
    refine pf_if ?_ ?_
    · skip
      refine pf_lo2 (fun (_ : Int32) (_ : Int32) => True) ?_ FU 0 0 trivial
      intro rec27 x4_3 x5_4 _ hr0_
      have hrec27 : ∀ (x4_3 : Int32) (x5_4 : Int32), pf_ (rec27 x4_3 x5_4) Q := fun x4_3 x5_4 => hr0_ x4_3 x5_4 trivial
      clear hr0_
      unfold fX0_partBeside_27_b
      refine pf_if ?_ ?_
      · skip
        exact pf_some (hQ _ FA_.rf)
      · skip
        refine pf_chk (fun _ => ?_)
        refine pf_if ?_ ?_
        · skip
          exact pf_some (hQ _ FA_.rf)
        · skip
          refine pf_bv (fun v_6 e_v_6 => ?_)
          clear e_v_6
          refine pf_if ?_ ?_
          · skip
            exact pf_some (hQ _ FA_.rf)
          · skip
            refine pf_bv (fun v_7 e_v_7 => ?_)
            clear e_v_7
            exact hrec27 v_6 v_7 
    · skip
      exact pf_some (hQ _ FA_.rf)
set_option maxRecDepth 20000 in
theorem ya_fX0_find (a2 : Int32) (s0 : Sg)  : pf_ (fX0_find a2 s0) (fun q => FA_ s0 q.2) := by
  generalize hQ0 : (fun q : (Bool × Sg) => FA_ s0 q.2) = Q
  have hQ : ∀ r {x : Sg}, FA_ s0 x → Q (r, x) := fun r x h => by rw [← hQ0]; exact h
  clear hQ0
  unfold fX0_find
  refine pf_bnv (ya_fX0_addSums s0 ) (fun s_1 p_s_1 => ?_)
  have g_s_1 : FA_ s0 s_1 := (FA_.rf).tr p_s_1
  refine pf_jn (fun k_4 => ∀ (x3_2 : Int32) (s_3 : Sg), FA_ s0 s_3 → pf_ (k_4 x3_2 s_3) Q) ?_ (fun k_4 hk_4 => ?_)
  · intro x3_2 s_3 g_s_3
    try dsimp only
    refine pf_if ?_ ?_
    · skip
      exact pf_some (hQ _ g_s_3)
    · skip
      exact pf_some (hQ _ g_s_3)
  refine pf_lo3 (fun (_ : Int32) (_ : Int32) s_7 => FA_ s0 s_7) ?_ FU 13 1 s_1 g_s_1
  intro rec11 x3_5 x4_6 s_7 g_s_7 hr0_
  have hrec11 : ∀ (x3_5 : Int32) (x4_6 : Int32) (s_7 : Sg), FA_ s0 s_7 → pf_ (rec11 x3_5 x4_6 s_7) Q := fun x3_5 x4_6 s_7 z_s_7 => hr0_ x3_5 x4_6 s_7 z_s_7
  clear hr0_
  unfold fX0_find_11_b
  refine pf_if ?_ ?_
  · skip
    exact hk_4 x3_5 s_7 g_s_7
  · skip
    refine pf_bnd (ya_fJ6_bitCount_0f7a4 x4_6 s_7 ) (fun r_8 s_9 p_s_9 => ?_)
    have g_s_9 : FA_ s0 s_9 := (g_s_7).tr p_s_9
    refine pf_jn (fun k_12 => ∀ (y_10 : Int32) (s_11 : Sg), FA_ s0 s_11 → pf_ (k_12 y_10 s_11) Q) ?_ (fun k_12 hk_12 => ?_)
    · intro y_10 s_11 g_s_11
      try dsimp only
      refine pf_jn (fun k_15 => ∀ (x3_13 : Int32) (s_14 : Sg), FA_ s0 s_14 → pf_ (k_15 x3_13 s_14) Q) ?_ (fun k_15 hk_15 => ?_)
      · intro x3_13 s_14 g_s_14
        try dsimp only
        refine pf_bv (fun v_16 e_v_16 => ?_)
        clear e_v_16
        exact hrec11 x3_13 v_16 s_14 g_s_14
      refine pf_if ?_ ?_
      · skip
        exact hk_15 x3_5 s_11 g_s_11
      · skip
        refine pf_bv (fun s_17 e_s_17 => ?_)
        have g_s_17 : FA_ s0 s_17 := by rw [e_s_17]; exact FA_.si g_s_11 rfl
        clear e_s_17
        refine pf_bv (fun s_18 e_s_18 => ?_)
        have g_s_18 : FA_ s0 s_18 := by rw [e_s_18]; exact FA_.si g_s_17 rfl
        clear e_s_18
        exact hk_15 r_8 s_18 g_s_18
    refine pf_if ?_ ?_
    · skip
      exact hk_12 (-1) s_9 g_s_9
    · skip
      refine pf_bnd (ya_fX0_partBeside x4_6 a2 s_9 ) (fun r_19 s_20 p_s_20 => ?_)
      have g_s_20 : FA_ s0 s_20 := (g_s_9).tr p_s_20
      exact hk_12 r_19 s_20 g_s_20
set_option maxRecDepth 20000 in
theorem ya_fX9_balanced (a1 : Int32) (a2 : Int32) (s0 : Sg)  : pf_ (fX9_balanced a1 a2 s0) (fun q => FA_ s0 q.2) := by
  generalize hQ0 : (fun q : (Int32 × Sg) => FA_ s0 q.2) = Q
  have hQ : ∀ r {x : Sg}, FA_ s0 x → Q (r, x) := fun r x h => by rw [← hQ0]; exact h
  clear hQ0
  unfold fX9_balanced
  refine pf_bnd (ya_fX9_within a1 1 999 s0 ) (fun r_1 s_2 p_s_2 => ?_)
  have g_s_2 : FA_ s0 s_2 := (FA_.rf).tr p_s_2
  refine pf_if ?_ ?_
  · skip
    exact pf_some (hQ _ g_s_2)
  · skip
    refine pf_bnd (ya_fX9_within a2 0 2 s_2 ) (fun r_3 s_4 p_s_4 => ?_)
    have g_s_4 : FA_ s0 s_4 := (g_s_2).tr p_s_4
    refine pf_if ?_ ?_
    · skip
      exact pf_some (hQ _ g_s_4)
    · skip
      refine pf_bnd (ya_fX0_find a1 s_4 ) (fun r_5 s_6 p_s_6 => ?_)
      have g_s_6 : FA_ s0 s_6 := (g_s_4).tr p_s_6
      refine pf_if ?_ ?_
      · skip
        exact pf_some (hQ _ g_s_6)
      · skip
        refine pf_if ?_ ?_
        · skip
          refine pf_bnd (ya_fJ6_bitCount_0f7a4 (gi s_6 8 1) s_6 ) (fun r_7 s_8 p_s_8 => ?_)
          have g_s_8 : FA_ s0 s_8 := (g_s_6).tr p_s_8
          exact pf_some (hQ _ g_s_8)
        · skip
          refine pf_if ?_ ?_
          · skip
            exact pf_some (hQ _ g_s_6)
          · skip
            exact pf_some (hQ _ g_s_6)
set_option maxRecDepth 20000 in
theorem ya_fX9_weights (a1 : Int32) (a2 : Int32) (s0 : Sg)  : pf_ (fX9_weights a1 a2 s0) (fun q => FA_ s0 q.2) := by
  generalize hQ0 : (fun q : (Int32 × Sg) => FA_ s0 q.2) = Q
  have hQ : ∀ r {x : Sg}, FA_ s0 x → Q (r, x) := fun r x h => by rw [← hQ0]; exact h
  clear hQ0
  unfold fX9_weights
  refine pf_bnd (ya_fX9_within a1 1 40 s0 ) (fun r_1 s_2 p_s_2 => ?_)
  have g_s_2 : FA_ s0 s_2 := (FA_.rf).tr p_s_2
  refine pf_if ?_ ?_
  · skip
    exact pf_some (hQ _ g_s_2)
  · skip
    refine pf_bnd (ya_fX9_within a2 (-1) 3 s_2 ) (fun r_3 s_4 p_s_4 => ?_)
    have g_s_4 : FA_ s0 s_4 := (g_s_2).tr p_s_4
    refine pf_if ?_ ?_
    · skip
      exact pf_some (hQ _ g_s_4)
    · skip
      refine pf_bv (fun v_5 e_v_5 => ?_)
      clear e_v_5
      refine pf_jn (fun k_7 => ∀ (x4_6 : Int32), pf_ (k_7 x4_6) Q) ?_ (fun k_7 hk_7 => ?_)
      · intro x4_6
        try dsimp only
        refine pf_if ?_ ?_
        · skip
          exact pf_some (hQ _ g_s_4)
        · skip
          refine pf_if ?_ ?_
          · skip
            exact pf_some (hQ _ g_s_4)
          · skip
            refine pf_chk (fun _ => ?_)
            exact pf_some (hQ _ g_s_4)
      refine pf_lo2 (fun (_ : Int32) (_ : Int32) => True) ?_ FU 0 0 trivial
      intro rec33 x4_9 x5_10 _ hr0_
      have hrec33 : ∀ (x4_9 : Int32) (x5_10 : Int32), pf_ (rec33 x4_9 x5_10) Q := fun x4_9 x5_10 => hr0_ x4_9 x5_10 trivial
      clear hr0_
      unfold fX9_weights_33_b
      refine pf_if ?_ ?_
      · skip
        exact hk_7 x4_9 
      · skip
        refine pf_chk (fun _ => ?_)
        refine pf_jn (fun k_14 => ∀ (y_12 : Int32) (y_13 : Bool), pf_ (k_14 y_12 y_13) Q) ?_ (fun k_14 hk_14 => ?_)
        · intro y_12 y_13
          try dsimp only
          refine pf_bv (fun v_15 e_v_15 => ?_)
          clear e_v_15
          refine pf_bv (fun v_16 e_v_16 => ?_)
          clear e_v_16
          exact hrec33 v_15 v_16 
        refine pf_if ?_ ?_
        · skip
          exact hk_14 x4_9 false 
        · skip
          exact hk_14 x4_9 true 
set_option maxRecDepth 20000 in
theorem ya_fX9_rest (a1 : Int32) (a2 : Int32) (a3 : Int32) (s0 : Sg)  : pf_ (fX9_rest a1 a2 a3 s0) (fun q => FA_ s0 q.2) := by
  generalize hQ0 : (fun q : (Int32 × Sg) => FA_ s0 q.2) = Q
  have hQ : ∀ r {x : Sg}, FA_ s0 x → Q (r, x) := fun r x h => by rw [← hQ0]; exact h
  clear hQ0
  unfold fX9_rest
  refine pf_bnd (ya_fX9_within a1 0 9999 s0 ) (fun r_1 s_2 p_s_2 => ?_)
  have g_s_2 : FA_ s0 s_2 := (FA_.rf).tr p_s_2
  refine pf_if ?_ ?_
  · skip
    exact pf_some (hQ _ g_s_2)
  · skip
    refine pf_bnd (ya_fX9_within a2 1 99 s_2 ) (fun r_3 s_4 p_s_4 => ?_)
    have g_s_4 : FA_ s0 s_4 := (g_s_2).tr p_s_4
    refine pf_if ?_ ?_
    · skip
      exact pf_some (hQ _ g_s_4)
    · skip
      refine pf_bnd (ya_fX9_within a3 0 1 s_4 ) (fun r_5 s_6 p_s_6 => ?_)
      have g_s_6 : FA_ s0 s_6 := (g_s_4).tr p_s_6
      refine pf_if ?_ ?_
      · skip
        exact pf_some (hQ _ g_s_6)
      · skip
        refine pf_bv (fun v_7 e_v_7 => ?_)
        clear e_v_7
        refine pf_jn (fun k_11 => ∀ (x5_8 : Int32) (x7_9 : Int32) (s_10 : Sg), FA_ s0 s_10 → pf_ (k_11 x5_8 x7_9 s_10) Q) ?_ (fun k_11 hk_11 => ?_)
        · intro x5_8 x7_9 s_10 g_s_10
          try dsimp only
          refine pf_if ?_ ?_
          · skip
            exact pf_some (hQ _ g_s_10)
          · skip
            exact pf_some (hQ _ g_s_10)
        refine pf_lo6 (fun (_ : Int32) (_ : Int32) (_ : Int32) (_ : Int32) (_ : Int32) s_17 => FA_ s0 s_17) ?_ FU v_7 0 0 0 0 s_6 g_s_6
        intro rec53 x4_12 x5_13 x6_14 x7_15 x8_16 s_17 g_s_17 hr0_
        have hrec53 : ∀ (x4_12 : Int32) (x5_13 : Int32) (x6_14 : Int32) (x7_15 : Int32) (x8_16 : Int32) (s_17 : Sg), FA_ s0 s_17 → pf_ (rec53 x4_12 x5_13 x6_14 x7_15 x8_16 s_17) Q := fun x4_12 x5_13 x6_14 x7_15 x8_16 s_17 z_s_17 => hr0_ x4_12 x5_13 x6_14 x7_15 x8_16 s_17 z_s_17
        clear hr0_
        unfold fX9_rest_53_b
        refine pf_if ?_ ?_
        · skip
          exact hk_11 x5_13 x7_15 s_17 g_s_17
        · skip
          refine pf_bnv (ya_fX4_setAir (((gi s_17 1 3) + x8_16) - ((gi s_17 1 3) + x8_16) / 24 * 24) (gi s_17 1 4) ((x4_12 - x4_12 / 19 * 19) - 9) s_17 ) (fun s_18 p_s_18 => ?_)
          have g_s_18 : FA_ s0 s_18 := (g_s_17).tr p_s_18
          refine pf_bnv (ya_fX4_weigh (gi s_18 1 9) (gi s_18 1 10) s_18 ) (fun s_19 p_s_19 => ?_)
          have g_s_19 : FA_ s0 s_19 := (g_s_18).tr p_s_19
          refine pf_bnd (ya_fX9_leaning (gi s_19 6 4) (gi s_19 1 2) s_19 ) (fun r_20 s_21 p_s_21 => ?_)
          have g_s_21 : FA_ s0 s_21 := (g_s_19).tr p_s_21
          refine pf_jn (fun k_23 => ∀ (y_22 : Bool), pf_ (k_23 y_22) Q) ?_ (fun k_23 hk_23 => ?_)
          · intro y_22
            try dsimp only
            refine pf_jn (fun k_26 => ∀ (y_24 : Int32) (y_25 : Bool), pf_ (k_26 y_24 y_25) Q) ?_ (fun k_26 hk_26 => ?_)
            · intro y_24 y_25
              try dsimp only
              refine pf_bv (fun v_27 e_v_27 => ?_)
              clear e_v_27
              refine pf_jn (fun k_29 => ∀ (y_28 : Int32), pf_ (k_29 y_28) Q) ?_ (fun k_29 hk_29 => ?_)
              · intro y_28
                try dsimp only
                refine pf_bv (fun v_30 e_v_30 => ?_)
                clear e_v_30
                refine pf_bv (fun v_31 e_v_31 => ?_)
                clear e_v_31
                refine pf_bv (fun v_32 e_v_32 => ?_)
                clear e_v_32
                exact hrec53 v_31 v_27 y_28 v_30 v_32 s_21 g_s_21
              refine pf_if ?_ ?_
              · skip
                exact hk_29 0 
              · skip
                exact hk_29 (x6_14 + 1) 
            refine pf_if ?_ ?_
            · skip
              exact hk_26 x5_13 false 
            · skip
              exact hk_26 x5_13 true 
          refine pf_if ?_ ?_
          · skip
            exact hk_23 true 
          · skip
            exact hk_23 false 
set_option maxRecDepth 20000 in
theorem ya_fX9_about (a1 : Int32) (s0 : Sg)  : pf_ (fX9_about a1 s0) (fun q => FA_ s0 q.2) := by
  generalize hQ0 : (fun q : (Int32 × Sg) => FA_ s0 q.2) = Q
  have hQ : ∀ r {x : Sg}, FA_ s0 x → Q (r, x) := fun r x h => by rw [← hQ0]; exact h
  clear hQ0
  unfold fX9_about
  refine pf_if ?_ ?_
  · skip
    exact pf_some (hQ _ FA_.rf)
  · skip
    refine pf_if ?_ ?_
    · skip
      exact pf_some (hQ _ FA_.rf)
    · skip
      refine pf_if ?_ ?_
      · skip
        exact pf_some (hQ _ FA_.rf)
      · skip
        refine pf_if ?_ ?_
        · skip
          exact pf_some (hQ _ FA_.rf)
        · skip
          refine pf_if ?_ ?_
          · skip
            exact pf_some (hQ _ FA_.rf)
          · skip
            refine pf_if ?_ ?_
            · skip
              exact pf_some (hQ _ FA_.rf)
            · skip
              refine pf_if ?_ ?_
              · skip
                exact pf_some (hQ _ FA_.rf)
              · skip
                refine pf_if ?_ ?_
                · skip
                  exact pf_some (hQ _ FA_.rf)
                · skip
                  refine pf_if ?_ ?_
                  · skip
                    exact pf_some (hQ _ FA_.rf)
                  · skip
                    refine pf_if ?_ ?_
                    · skip
                      exact pf_some (hQ _ FA_.rf)
                    · skip
                      refine pf_if ?_ ?_
                      · skip
                        exact pf_some (hQ _ FA_.rf)
                      · skip
                        refine pf_if ?_ ?_
                        · skip
                          exact pf_some (hQ _ FA_.rf)
                        · skip
                          refine pf_if ?_ ?_
                          · skip
                            exact pf_some (hQ _ FA_.rf)
                          · skip
                            refine pf_if ?_ ?_
                            · skip
                              exact pf_some (hQ _ FA_.rf)
                            · skip
                              exact pf_some (hQ _ FA_.rf)
set_option maxRecDepth 20000 in
theorem ya_fX8_copyWorld_r (q0 : Nat) (s0 : Sg) (h_q0 : 48 ≤ q0) : pf_ (fX8_copyWorld_r q0 s0) (fun q => FA_ s0 q) := by
  generalize hQ0 : (fun q : (Sg) => FA_ s0 q) = Q
  have hQ : ∀ (_ : Unit) {x : Sg}, FA_ s0 x → Q x := fun _ x h => by rw [← hQ0]; exact h
  clear hQ0
  unfold fX8_copyWorld_r
  refine pf_bv (fun s_1 e_s_1 => ?_)
  have g_s_1 : FA_ s0 s_1 := by rw [e_s_1]; exact FA_.si FA_.rf (pa_big (by omega))
  clear e_s_1
  refine pf_bv (fun s_2 e_s_2 => ?_)
  have g_s_2 : FA_ s0 s_2 := by rw [e_s_2]; exact FA_.si g_s_1 (pa_big (by omega))
  clear e_s_2
  refine pf_bv (fun s_3 e_s_3 => ?_)
  have g_s_3 : FA_ s0 s_3 := by rw [e_s_3]; exact FA_.si g_s_2 (pa_big (by omega))
  clear e_s_3
  refine pf_bv (fun s_4 e_s_4 => ?_)
  have g_s_4 : FA_ s0 s_4 := by rw [e_s_4]; exact FA_.si g_s_3 (pa_big (by omega))
  clear e_s_4
  refine pf_bv (fun s_5 e_s_5 => ?_)
  have g_s_5 : FA_ s0 s_5 := by rw [e_s_5]; exact FA_.si g_s_4 (pa_big (by omega))
  clear e_s_5
  refine pf_bv (fun s_6 e_s_6 => ?_)
  have g_s_6 : FA_ s0 s_6 := by rw [e_s_6]; exact FA_.si g_s_5 (pa_big (by omega))
  clear e_s_6
  exact pf_some (hQ () g_s_6)
