set_option maxRecDepth 100000 in
theorem yt_fX10_name (a1 : Int32) (a2 : Int32) (a3 : Int32) (s0 : Sg)  : pf_ (fX10_name a1 a2 a3 s0) (fun q => FT_ s0 q) := by
  generalize hQ0 : (fun q : (Sg) => FT_ s0 q) = Q
  have hQ : ∀ (_ : Unit) {x : Sg}, FT_ s0 x → Q x := fun _ x h => by rw [← hQ0]; exact h
  clear hQ0
  unfold fX10_name
  refine pf_bv (fun s_1 e_s_1 => ?_)
  have g_s_1 : FT_ s0 s_1 := by rw [e_s_1]; exact FT_.si FT_.rf rfl
  clear e_s_1
  refine pf_bv (fun s_2 e_s_2 => ?_)
  have g_s_2 : FT_ s0 s_2 := by rw [e_s_2]; exact FT_.si g_s_1 rfl
  clear e_s_2
  refine pf_bv (fun s_3 e_s_3 => ?_)
  have g_s_3 : FT_ s0 s_3 := by rw [e_s_3]; exact FT_.si g_s_2 rfl
  clear e_s_3
  exact pf_some (hQ () g_s_3)
set_option maxRecDepth 100000 in
theorem yt_fX10_nameNow (s0 : Sg)  : pf_ (fX10_nameNow s0) (fun q => FT_ s0 q) := by
  generalize hQ0 : (fun q : (Sg) => FT_ s0 q) = Q
  have hQ : ∀ (_ : Unit) {x : Sg}, FT_ s0 x → Q x := fun _ x h => by rw [← hQ0]; exact h
  clear hQ0
  unfold fX10_nameNow
  refine pf_bnv (yt_fX10_name (gi s0 28 (ix 4)) (gi s0 28 (ix 5)) (gi s0 28 (ix 6)) s0 ) (fun s_1 p_s_1 => ?_)
  have g_s_1 : FT_ s0 s_1 := (FT_.rf).tr p_s_1
  exact pf_some (hQ () g_s_1)
set_option maxRecDepth 100000 in
theorem yt_fX10_clauseOf (a1 : Int32) (s0 : Sg)  : pf_ (fX10_clauseOf a1 s0) (fun q => FT_ s0 q.2) := by
  generalize hQ0 : (fun q : (Int32 × Sg) => FT_ s0 q.2) = Q
  have hQ : ∀ r {x : Sg}, FT_ s0 x → Q (r, x) := fun r x h => by rw [← hQ0]; exact h
  clear hQ0
  unfold fX10_clauseOf
  refine pf_lo1 (fun (_ : Int32) => True) ?_ FU 0 trivial
  intro rec2 x2_1 _ hr0_
  have hrec2 : ∀ (x2_1 : Int32), pf_ (rec2 x2_1) Q := fun x2_1 => hr0_ x2_1 trivial
  clear hr0_
  unfold fX10_clauseOf_2_b
  refine pf_if ?_ ?_
  · skip
    exact pf_some (hQ _ FT_.rf)
  · skip
    refine pf_chk (fun _ => ?_)
    refine pf_if ?_ ?_
    · skip
      exact pf_some (hQ _ FT_.rf)
    · skip
      refine pf_chk (fun _ => ?_)
      refine pf_if ?_ ?_
      · skip
        exact pf_some (hQ _ FT_.rf)
      · skip
        refine pf_bv (fun v_4 e_v_4 => ?_)
        clear e_v_4
        exact hrec2 v_4 
set_option maxRecDepth 100000 in
theorem yt_fX10_isAsked (a1 : Int32) (a2 : Int64) (a3 : Int64) (s0 : Sg)  : pf_ (fX10_isAsked a1 a2 a3 s0) (fun q => FT_ s0 q.2) := by
  generalize hQ0 : (fun q : (Bool × Sg) => FT_ s0 q.2) = Q
  have hQ : ∀ r {x : Sg}, FT_ s0 x → Q (r, x) := fun r x h => by rw [← hQ0]; exact h
  clear hQ0
  unfold fX10_isAsked
  refine pf_if ?_ ?_
  · skip
    refine pf_if ?_ ?_
    · skip
      exact pf_some (hQ _ FT_.rf)
    · skip
      exact pf_some (hQ _ FT_.rf)
  · skip
    refine pf_if ?_ ?_
    · skip
      refine pf_if ?_ ?_
      · skip
        exact pf_some (hQ _ FT_.rf)
      · skip
        exact pf_some (hQ _ FT_.rf)
    · skip
      refine pf_if ?_ ?_
      · skip
        refine pf_if ?_ ?_
        · skip
          exact pf_some (hQ _ FT_.rf)
        · skip
          exact pf_some (hQ _ FT_.rf)
      · skip
        refine pf_if ?_ ?_
        · skip
          refine pf_if ?_ ?_
          · skip
            exact pf_some (hQ _ FT_.rf)
          · skip
            exact pf_some (hQ _ FT_.rf)
        · skip
          refine pf_if ?_ ?_
          · skip
            refine pf_if ?_ ?_
            · skip
              exact pf_some (hQ _ FT_.rf)
            · skip
              exact pf_some (hQ _ FT_.rf)
          · skip
            refine pf_if ?_ ?_
            · skip
              exact pf_some (hQ _ FT_.rf)
            · skip
              exact pf_some (hQ _ FT_.rf)
set_option maxRecDepth 100000 in
theorem yt_fX10_clip (a1 : Int64) (s0 : Sg)  : pf_ (fX10_clip a1 s0) (fun q => FT_ s0 q.2) := by
  generalize hQ0 : (fun q : (Int64 × Sg) => FT_ s0 q.2) = Q
  have hQ : ∀ r {x : Sg}, FT_ s0 x → Q (r, x) := fun r x h => by rw [← hQ0]; exact h
  clear hQ0
  unfold fX10_clip
  refine pf_if ?_ ?_
  · skip
    refine pf_if ?_ ?_
    · skip
      exact pf_some (hQ _ FT_.rf)
    · skip
      exact pf_some (hQ _ FT_.rf)
  · skip
    exact pf_some (hQ _ FT_.rf)
set_option maxRecDepth 100000 in
theorem yt_fX10_two (a1 : Int32) (a2 : Int64) (a3 : Int64) (s0 : Sg)  : pf_ (fX10_two a1 a2 a3 s0) (fun q => FT_ s0 q.2) := by
  generalize hQ0 : (fun q : (Int64 × Sg) => FT_ s0 q.2) = Q
  have hQ : ∀ r {x : Sg}, FT_ s0 x → Q (r, x) := fun r x h => by rw [← hQ0]; exact h
  clear hQ0
  unfold fX10_two
  refine pf_if ?_ ?_
  · skip
    refine pf_bnd (yt_fX10_clip (a2 + a3) s0 ) (fun r_1 s_2 p_s_2 => ?_)
    have g_s_2 : FT_ s0 s_2 := (FT_.rf).tr p_s_2
    exact pf_some (hQ _ g_s_2)
  · skip
    refine pf_if ?_ ?_
    · skip
      refine pf_bnd (yt_fX10_clip (a2 - a3) s0 ) (fun r_4 s_5 p_s_5 => ?_)
      have g_s_5 : FT_ s0 s_5 := (FT_.rf).tr p_s_5
      exact pf_some (hQ _ g_s_5)
    · skip
      refine pf_if ?_ ?_
      · skip
        refine pf_bnd (yt_fX10_clip (a2 * a3) s0 ) (fun r_7 s_8 p_s_8 => ?_)
        have g_s_8 : FT_ s0 s_8 := (FT_.rf).tr p_s_8
        exact pf_some (hQ _ g_s_8)
      · skip
        refine pf_if ?_ ?_
        · skip
          exact pf_some (hQ _ FT_.rf)
        · skip
          refine pf_chk (fun _ => ?_)
          refine pf_bnd (yt_fX10_clip (a2 / a3) s0 ) (fun r_13 s_14 p_s_14 => ?_)
          have g_s_14 : FT_ s0 s_14 := (FT_.rf).tr p_s_14
          exact pf_some (hQ _ g_s_14)
set_option maxRecDepth 100000 in
theorem yt_fX10_work (a1 : Int32) (s0 : Sg)  : pf_ (fX10_work a1 s0) (fun q => FT_ s0 q) := by
  generalize hQ0 : (fun q : (Sg) => FT_ s0 q) = Q
  have hQ : ∀ (_ : Unit) {x : Sg}, FT_ s0 x → Q x := fun _ x h => by rw [← hQ0]; exact h
  clear hQ0
  unfold fX10_work
  refine pf_bv (fun v_1 e_v_1 => ?_)
  clear e_v_1
  refine pf_bv (fun v_2 e_v_2 => ?_)
  clear e_v_2
  refine pf_chk (fun _ => ?_)
  refine pf_bv (fun v_4 e_v_4 => ?_)
  clear e_v_4
  refine pf_lo4 (fun (_ : Int32) (_ : Int32) (_ : Int32) s_8 => FT_ s0 s_8) ?_ FU 0 0 v_4 s0 FT_.rf
  intro rec49 x4_5 x5_6 x6_7 s_8 g_s_8 hr0_
  have hrec49 : ∀ (x4_5 : Int32) (x5_6 : Int32) (x6_7 : Int32) (s_8 : Sg), FT_ s0 s_8 → pf_ (rec49 x4_5 x5_6 x6_7 s_8) Q := fun x4_5 x5_6 x6_7 s_8 z_s_8 => hr0_ x4_5 x5_6 x6_7 s_8 z_s_8
  clear hr0_
  unfold fX10_work_49_b
  refine pf_chk (fun _ => ?_)
  refine pf_if ?_ ?_
  · skip
    exact pf_some (hQ () g_s_8)
  · skip
    refine pf_chk (fun _ => ?_)
    refine pf_bv (fun v_11 e_v_11 => ?_)
    clear e_v_11
    refine pf_chk (fun _ => ?_)
    refine pf_bv (fun v_13 e_v_13 => ?_)
    clear e_v_13
    refine pf_jn (fun k_17 => ∀ (x4_14 : Int32) (x5_15 : Int32) (s_16 : Sg), FT_ s0 s_16 → pf_ (k_17 x4_14 x5_15 s_16) Q) ?_ (fun k_17 hk_17 => ?_)
    · intro x4_14 x5_15 s_16 g_s_16
      try dsimp only
      refine pf_bv (fun v_18 e_v_18 => ?_)
      clear e_v_18
      exact hrec49 x4_14 x5_15 v_18 s_16 g_s_16
    refine pf_if ?_ ?_
    · skip
      refine pf_if ?_ ?_
      · skip
        refine pf_chk (fun _ => ?_)
        refine pf_bv (fun s_54 e_s_54 => ?_)
        have g_s_54 : FT_ s0 s_54 := by rw [e_s_54]; exact FT_.sl g_s_8
        clear e_s_54
        exact hk_17 x4_5 x5_6 s_54 g_s_54
      · skip
        refine pf_if ?_ ?_
        · skip
          refine pf_if ?_ ?_
          · skip
            refine pf_if ?_ ?_
            · skip
              refine pf_chk (fun _ => ?_)
              refine pf_jn (fun k_36 => ∀ (y_34 : Int32) (y_35 : Bool), pf_ (k_36 y_34 y_35) Q) ?_ (fun k_36 hk_36 => ?_)
              · intro y_34 y_35
                try dsimp only
                refine pf_chk (fun _ => ?_)
                refine pf_bv (fun s_38 e_s_38 => ?_)
                have g_s_38 : FT_ s0 s_38 := by rw [e_s_38]; exact FT_.si g_s_8 rfl
                clear e_s_38
                exact hk_17 x4_5 x5_6 s_38 g_s_38
              refine pf_if ?_ ?_
              · skip
                exact hk_36 (x5_6 - 1) true 
              · skip
                exact hk_36 (x5_6 - 1) false 
            · skip
              refine pf_bv (fun v_19 e_v_19 => ?_)
              clear e_v_19
              refine pf_jn (fun k_22 => ∀ (y_20 : Int32) (y_21 : Bool), pf_ (k_22 y_20 y_21) Q) ?_ (fun k_22 hk_22 => ?_)
              · intro y_20 y_21
                try dsimp only
                refine pf_chk (fun _ => ?_)
                refine pf_bv (fun s_24 e_s_24 => ?_)
                have g_s_24 : FT_ s0 s_24 := by rw [e_s_24]; exact FT_.si g_s_8 rfl
                clear e_s_24
                exact hk_17 x4_5 v_19 s_24 g_s_24
              refine pf_if ?_ ?_
              · skip
                refine pf_chk (fun _ => ?_)
                refine pf_jn (fun k_31 => ∀ (y_30 : Int32), pf_ (k_31 y_30) Q) ?_ (fun k_31 hk_31 => ?_)
                · intro y_30
                  try dsimp only
                  exact hk_22 y_30 false 
                refine pf_if ?_ ?_
                · skip
                  exact hk_31 (v_19 - 1) 
                · skip
                  refine pf_chk (fun _ => ?_)
                  refine pf_if ?_ ?_
                  · skip
                    exact hk_31 (v_19 - 1) 
                  · skip
                    exact hk_22 (v_19 - 1) true 
              · skip
                refine pf_chk (fun _ => ?_)
                refine pf_jn (fun k_27 => ∀ (y_26 : Int32), pf_ (k_27 y_26) Q) ?_ (fun k_27 hk_27 => ?_)
                · intro y_26
                  try dsimp only
                  exact hk_22 y_26 true 
                refine pf_if ?_ ?_
                · skip
                  refine pf_chk (fun _ => ?_)
                  refine pf_if ?_ ?_
                  · skip
                    exact hk_22 (v_19 - 1) false 
                  · skip
                    exact hk_27 (v_19 - 1) 
                · skip
                  exact hk_27 (v_19 - 1) 
          · skip
            refine pf_bv (fun v_39 e_v_39 => ?_)
            clear e_v_39
            refine pf_chk (fun _ => ?_)
            refine pf_chk (fun _ => ?_)
            refine pf_bnd (yt_fX10_isAsked v_11 (gl s_8 34 (ix v_39)) (gl s_8 34 (ix (v_39 + 1))) s_8 ) (fun r_42 s_43 p_s_43 => ?_)
            have g_s_43 : FT_ s0 s_43 := (g_s_8).tr p_s_43
            refine pf_chk (fun _ => ?_)
            refine pf_bv (fun s_45 e_s_45 => ?_)
            have g_s_45 : FT_ s0 s_45 := by rw [e_s_45]; exact FT_.si g_s_43 rfl
            clear e_s_45
            refine pf_bv (fun v_46 e_v_46 => ?_)
            clear e_v_46
            exact hk_17 v_39 v_46 s_45 g_s_45
        · skip
          refine pf_bv (fun v_47 e_v_47 => ?_)
          clear e_v_47
          refine pf_chk (fun _ => ?_)
          refine pf_chk (fun _ => ?_)
          refine pf_bnd (yt_fX10_two v_11 (gl s_8 34 (ix (v_47 - 1))) (gl s_8 34 (ix v_47)) s_8 ) (fun r_50 s_51 p_s_51 => ?_)
          have g_s_51 : FT_ s0 s_51 := (g_s_8).tr p_s_51
          refine pf_bv (fun s_52 e_s_52 => ?_)
          have g_s_52 : FT_ s0 s_52 := by rw [e_s_52]; exact FT_.sl g_s_51
          clear e_s_52
          exact hk_17 v_47 x5_6 s_52 g_s_52
    · skip
      refine pf_jn (fun k_57 => ∀ (y_55 : Int32) (y_56 : Int64), pf_ (k_57 y_55 y_56) Q) ?_ (fun k_57 hk_57 => ?_)
      · intro y_55 y_56
        try dsimp only
        refine pf_chk (fun _ => ?_)
        refine pf_bv (fun s_59 e_s_59 => ?_)
        have g_s_59 : FT_ s0 s_59 := by rw [e_s_59]; exact FT_.sl g_s_8
        clear e_s_59
        refine pf_bv (fun v_60 e_v_60 => ?_)
        clear e_v_60
        exact hk_17 v_60 x5_6 s_59 g_s_59
      refine pf_if ?_ ?_
      · skip
        exact hk_57 x4_5 (Int32.toInt64 v_13) 
      · skip
        refine pf_chk (fun _ => ?_)
        exact hk_57 x4_5 (Int32.toInt64 (gi s_8 33 (ix v_13))) 
set_option maxRecDepth 100000 in
theorem yt_fX10_held (a1 : Int64) (a2 : Int32) (a3 : Int32) (s0 : Sg)  : pf_ (fX10_held a1 a2 a3 s0) (fun q => FT_ s0 q.2) := by
  generalize hQ0 : (fun q : (Int32 × Sg) => FT_ s0 q.2) = Q
  have hQ : ∀ r {x : Sg}, FT_ s0 x → Q (r, x) := fun r x h => by rw [← hQ0]; exact h
  clear hQ0
  unfold fX10_held
  refine pf_if ?_ ?_
  · skip
    refine pf_if ?_ ?_
    · skip
      exact pf_some (hQ _ FT_.rf)
    · skip
      exact pf_some (hQ _ FT_.rf)
  · skip
    exact pf_some (hQ _ FT_.rf)
set_option maxRecDepth 100000 in
theorem yt_fX10_borne (a1 : Int32) (a2 : Int32) (a3 : Int32) (a4 : Int32) (s0 : Sg)  : pf_ (fX10_borne a1 a2 a3 a4 s0) (fun q => FT_ s0 q.2) := by
  generalize hQ0 : (fun q : (Int32 × Sg) => FT_ s0 q.2) = Q
  have hQ : ∀ r {x : Sg}, FT_ s0 x → Q (r, x) := fun r x h => by rw [← hQ0]; exact h
  clear hQ0
  unfold fX10_borne
  refine pf_bnd (yt_fX10_clauseOf 0 s0 ) (fun r_1 s_2 p_s_2 => ?_)
  have g_s_2 : FT_ s0 s_2 := (FT_.rf).tr p_s_2
  refine pf_if ?_ ?_
  · skip
    refine pf_bv (fun s_3 e_s_3 => ?_)
    have g_s_3 : FT_ s0 s_3 := by rw [e_s_3]; exact FT_.si g_s_2 rfl
    clear e_s_3
    refine pf_bv (fun s_4 e_s_4 => ?_)
    have g_s_4 : FT_ s0 s_4 := by rw [e_s_4]; exact FT_.si g_s_3 rfl
    clear e_s_4
    refine pf_bv (fun s_5 e_s_5 => ?_)
    have g_s_5 : FT_ s0 s_5 := by rw [e_s_5]; exact FT_.si g_s_4 rfl
    clear e_s_5
    refine pf_bv (fun s_6 e_s_6 => ?_)
    have g_s_6 : FT_ s0 s_6 := by rw [e_s_6]; exact FT_.si g_s_5 rfl
    clear e_s_6
    refine pf_bnv (yt_fX10_work r_1 s_6 ) (fun s_7 p_s_7 => ?_)
    have g_s_7 : FT_ s0 s_7 := (g_s_6).tr p_s_7
    refine pf_bnd (yt_fX10_held (gl s_7 34 (ix 0)) 0 9999 s_7 ) (fun r_8 s_9 p_s_9 => ?_)
    have g_s_9 : FT_ s0 s_9 := (g_s_7).tr p_s_9
    exact pf_some (hQ _ g_s_9)
  · skip
    exact pf_some (hQ _ g_s_2)
set_option maxRecDepth 100000 in
theorem yt_fX10_bears (a1 : Int32) (a2 : Int32) (s0 : Sg)  : pf_ (fX10_bears a1 a2 s0) (fun q => FT_ s0 q.2) := by
  generalize hQ0 : (fun q : (Int32 × Sg) => FT_ s0 q.2) = Q
  have hQ : ∀ r {x : Sg}, FT_ s0 x → Q (r, x) := fun r x h => by rw [← hQ0]; exact h
  clear hQ0
  unfold fX10_bears
  refine pf_bnd (yt_fX10_thingAt a1 s0 ) (fun r_1 s_2 p_s_2 => ?_)
  have g_s_2 : FT_ s0 s_2 := (FT_.rf).tr p_s_2
  refine pf_chk (fun _ => ?_)
  refine pf_bnd (yt_fX10_thingAt a1 s_2 ) (fun r_4 s_5 p_s_5 => ?_)
  have g_s_5 : FT_ s0 s_5 := (g_s_2).tr p_s_5
  refine pf_chk (fun _ => ?_)
  refine pf_bnd (yt_fX10_borne a1 (gi s_2 28 (ix r_1)) (gi s_5 28 (ix (r_4 + 1))) a2 s_5 ) (fun r_7 s_8 p_s_8 => ?_)
  have g_s_8 : FT_ s0 s_8 := (g_s_5).tr p_s_8
  exact pf_some (hQ _ g_s_8)
set_option maxRecDepth 100000 in
theorem yt_fX10_load (a1 : Int32) (s0 : Sg)  : pf_ (fX10_load a1 s0) (fun q => FT_ s0 q.2) := by
  generalize hQ0 : (fun q : (Int32 × Sg) => FT_ s0 q.2) = Q
  have hQ : ∀ r {x : Sg}, FT_ s0 x → Q (r, x) := fun r x h => by rw [← hQ0]; exact h
  clear hQ0
  unfold fX10_load
  refine pf_lo3 (fun (_ : Int32) (_ : Int32) s_3 => FT_ s0 s_3) ?_ FU 0 0 s0 FT_.rf
  intro rec4 x2_1 x3_2 s_3 g_s_3 hr0_
  have hrec4 : ∀ (x2_1 : Int32) (x3_2 : Int32) (s_3 : Sg), FT_ s0 s_3 → pf_ (rec4 x2_1 x3_2 s_3) Q := fun x2_1 x3_2 s_3 z_s_3 => hr0_ x2_1 x3_2 s_3 z_s_3
  clear hr0_
  unfold fX10_load_4_b
  refine pf_if ?_ ?_
  · skip
    exact pf_some (hQ _ g_s_3)
  · skip
    refine pf_bnd (yt_fX10_panOf x3_2 s_3 ) (fun r_4 s_5 p_s_5 => ?_)
    have g_s_5 : FT_ s0 s_5 := (g_s_3).tr p_s_5
    refine pf_jn (fun k_9 => ∀ (y_6 : Int32) (y_7 : Int32) (s_8 : Sg), FT_ s0 s_8 → pf_ (k_9 y_6 y_7 s_8) Q) ?_ (fun k_9 hk_9 => ?_)
    · intro y_6 y_7 s_8 g_s_8
      try dsimp only
      refine pf_bv (fun v_10 e_v_10 => ?_)
      clear e_v_10
      refine pf_bv (fun v_11 e_v_11 => ?_)
      clear e_v_11
      exact hrec4 v_10 v_11 s_8 g_s_8
    refine pf_if ?_ ?_
    · skip
      refine pf_bnd (yt_fX10_bears x3_2 a1 s_5 ) (fun r_12 s_13 p_s_13 => ?_)
      have g_s_13 : FT_ s0 s_13 := (g_s_5).tr p_s_13
      exact hk_9 x2_1 r_12 s_13 g_s_13
    · skip
      exact hk_9 x2_1 0 s_5 g_s_5
set_option maxRecDepth 100000 in
theorem yt_fX10_moment (a1 : Int32) (a2 : Int32) (s0 : Sg)  : pf_ (fX10_moment a1 a2 s0) (fun q => FT_ s0 q.2) := by
  generalize hQ0 : (fun q : (Int32 × Sg) => FT_ s0 q.2) = Q
  have hQ : ∀ r {x : Sg}, FT_ s0 x → Q (r, x) := fun r x h => by rw [← hQ0]; exact h
  clear hQ0
  unfold fX10_moment
  exact pf_some (hQ _ FT_.rf)
set_option maxRecDepth 100000 in
theorem yt_fX10_without (a1 : Int32) (s0 : Sg)  : pf_ (fX10_without a1 s0) (fun q => FT_ s0 q.2) := by
  generalize hQ0 : (fun q : (Int32 × Sg) => FT_ s0 q.2) = Q
  have hQ : ∀ r {x : Sg}, FT_ s0 x → Q (r, x) := fun r x h => by rw [← hQ0]; exact h
  clear hQ0
  unfold fX10_without
  refine pf_if ?_ ?_
  · skip
    exact pf_some (hQ _ FT_.rf)
  · skip
    exact pf_some (hQ _ FT_.rf)
set_option maxRecDepth 100000 in
theorem yt_fX10_isSafe (a1 : Int32) (a2 : Int32) (s0 : Sg)  : pf_ (fX10_isSafe a1 a2 s0) (fun q => FT_ s0 q.2) := by
  generalize hQ0 : (fun q : (Bool × Sg) => FT_ s0 q.2) = Q
  have hQ : ∀ r {x : Sg}, FT_ s0 x → Q (r, x) := fun r x h => by rw [← hQ0]; exact h
  clear hQ0
  unfold fX10_isSafe
  refine pf_bnd (yt_fX10_clauseOf 1 s0 ) (fun r_1 s_2 p_s_2 => ?_)
  have g_s_2 : FT_ s0 s_2 := (FT_.rf).tr p_s_2
  refine pf_if ?_ ?_
  · skip
    refine pf_bv (fun s_3 e_s_3 => ?_)
    have g_s_3 : FT_ s0 s_3 := by rw [e_s_3]; exact FT_.si g_s_2 rfl
    clear e_s_3
    refine pf_bv (fun s_4 e_s_4 => ?_)
    have g_s_4 : FT_ s0 s_4 := by rw [e_s_4]; exact FT_.si g_s_3 rfl
    clear e_s_4
    refine pf_bnd (yt_fX10_moment a1 a2 s_4 ) (fun r_5 s_6 p_s_6 => ?_)
    have g_s_6 : FT_ s0 s_6 := (g_s_4).tr p_s_6
    refine pf_bv (fun s_7 e_s_7 => ?_)
    have g_s_7 : FT_ s0 s_7 := by rw [e_s_7]; exact FT_.si g_s_6 rfl
    clear e_s_7
    refine pf_bnd (yt_fX10_without (gi s_7 33 (ix 9)) s_7 ) (fun r_8 s_9 p_s_9 => ?_)
    have g_s_9 : FT_ s0 s_9 := (g_s_7).tr p_s_9
    refine pf_bv (fun s_10 e_s_10 => ?_)
    have g_s_10 : FT_ s0 s_10 := by rw [e_s_10]; exact FT_.si g_s_9 rfl
    clear e_s_10
    refine pf_bnv (yt_fX10_work r_1 s_10 ) (fun s_11 p_s_11 => ?_)
    have g_s_11 : FT_ s0 s_11 := (g_s_10).tr p_s_11
    refine pf_chk (fun _ => ?_)
    exact pf_some (hQ _ g_s_11)
  · skip
    exact pf_some (hQ _ g_s_2)
set_option maxRecDepth 100000 in
theorem yt_fX10_isSafeNow (s0 : Sg)  : pf_ (fX10_isSafeNow s0) (fun q => FT_ s0 q.2) := by
  generalize hQ0 : (fun q : (Bool × Sg) => FT_ s0 q.2) = Q
  have hQ : ∀ r {x : Sg}, FT_ s0 x → Q (r, x) := fun r x h => by rw [← hQ0]; exact h
  clear hQ0
  unfold fX10_isSafeNow
  refine pf_bnv (yt_fX10_nameNow s0 ) (fun s_1 p_s_1 => ?_)
  have g_s_1 : FT_ s0 s_1 := (FT_.rf).tr p_s_1
  refine pf_bnd (yt_fX10_load 0 s_1 ) (fun r_2 s_3 p_s_3 => ?_)
  have g_s_3 : FT_ s0 s_3 := (g_s_1).tr p_s_3
  refine pf_bnd (yt_fX10_load 1 s_3 ) (fun r_4 s_5 p_s_5 => ?_)
  have g_s_5 : FT_ s0 s_5 := (g_s_3).tr p_s_5
  refine pf_bnd (yt_fX10_isSafe r_2 r_4 s_5 ) (fun r_6 s_7 p_s_7 => ?_)
  have g_s_7 : FT_ s0 s_7 := (g_s_5).tr p_s_7
  exact pf_some (hQ _ g_s_7)
set_option maxRecDepth 100000 in
theorem yt_fX10_keep (s0 : Sg)  : pf_ (fX10_keep s0) (fun q => FT_ s0 q) := by
  generalize hQ0 : (fun q : (Sg) => FT_ s0 q) = Q
  have hQ : ∀ (_ : Unit) {x : Sg}, FT_ s0 x → Q x := fun _ x h => by rw [← hQ0]; exact h
  clear hQ0
  unfold fX10_keep
  refine pf_jn (fun k_2 => ∀ (s_1 : Sg), FT_ s0 s_1 → pf_ (k_2 s_1) Q) ?_ (fun k_2 hk_2 => ?_)
  · intro s_1 g_s_1
    try dsimp only
    refine pf_bv (fun v_3 e_v_3 => ?_)
    clear e_v_3
    refine pf_chk (fun _ => ?_)
    refine pf_bv (fun s_5 e_s_5 => ?_)
    have g_s_5 : FT_ s0 s_5 := by rw [e_s_5]; exact FT_.si g_s_1 rfl
    clear e_s_5
    refine pf_chk (fun _ => ?_)
    refine pf_bv (fun s_7 e_s_7 => ?_)
    have g_s_7 : FT_ s0 s_7 := by rw [e_s_7]; exact FT_.si g_s_5 rfl
    clear e_s_7
    refine pf_jn (fun k_9 => ∀ (s_8 : Sg), FT_ s0 s_8 → pf_ (k_9 s_8) Q) ?_ (fun k_9 hk_9 => ?_)
    · intro s_8 g_s_8
      try dsimp only
      refine pf_bv (fun s_10 e_s_10 => ?_)
      have g_s_10 : FT_ s0 s_10 := by rw [e_s_10]; exact FT_.si g_s_8 rfl
      clear e_s_10
      exact pf_some (hQ () g_s_10)
    refine pf_lo2 (fun (_ : Int32) s_12 => FT_ s0 s_12) ?_ FU 0 s_7 g_s_7
    intro rec101 x2_11 s_12 g_s_12 hr0_
    have hrec101 : ∀ (x2_11 : Int32) (s_12 : Sg), FT_ s0 s_12 → pf_ (rec101 x2_11 s_12) Q := fun x2_11 s_12 z_s_12 => hr0_ x2_11 s_12 z_s_12
    clear hr0_
    unfold fX10_keep_101_b
    refine pf_if ?_ ?_
    · skip
      exact hk_9 s_12 g_s_12
    · skip
      refine pf_bnd (yt_fX10_panOf x2_11 s_12 ) (fun r_13 s_14 p_s_14 => ?_)
      have g_s_14 : FT_ s0 s_14 := (g_s_12).tr p_s_14
      refine pf_chk (fun _ => ?_)
      refine pf_bv (fun s_16 e_s_16 => ?_)
      have g_s_16 : FT_ s0 s_16 := by rw [e_s_16]; exact FT_.si g_s_14 rfl
      clear e_s_16
      refine pf_bv (fun v_17 e_v_17 => ?_)
      clear e_v_17
      exact hrec101 v_17 s_16 g_s_16
  refine pf_if ?_ ?_
  · skip
    refine pf_jn (fun k_19 => ∀ (s_18 : Sg), FT_ s0 s_18 → pf_ (k_19 s_18) Q) ?_ (fun k_19 hk_19 => ?_)
    · intro s_18 g_s_18
      try dsimp only
      refine pf_bv (fun s_20 e_s_20 => ?_)
      have g_s_20 : FT_ s0 s_20 := by rw [e_s_20]; exact FT_.si g_s_18 rfl
      clear e_s_20
      exact hk_2 s_20 g_s_20
    refine pf_lo2 (fun (_ : Int32) s_22 => FT_ s0 s_22) ?_ FU 0 s0 FT_.rf
    intro rec14 x1_21 s_22 g_s_22 hr0_
    have hrec14 : ∀ (x1_21 : Int32) (s_22 : Sg), FT_ s0 s_22 → pf_ (rec14 x1_21 s_22) Q := fun x1_21 s_22 z_s_22 => hr0_ x1_21 s_22 z_s_22
    clear hr0_
    unfold fX10_keep_14_b
    refine pf_if ?_ ?_
    · skip
      exact hk_19 s_22 g_s_22
    · skip
      refine pf_chk (fun _ => ?_)
      refine pf_chk (fun _ => ?_)
      refine pf_bv (fun s_25 e_s_25 => ?_)
      have g_s_25 : FT_ s0 s_25 := by rw [e_s_25]; exact FT_.si g_s_22 rfl
      clear e_s_25
      refine pf_bv (fun v_26 e_v_26 => ?_)
      clear e_v_26
      exact hrec14 v_26 s_25 g_s_25
  · skip
    exact hk_2 s0 FT_.rf
set_option maxRecDepth 100000 in
theorem yt_fX10_lays (a1 : Int32) (a2 : Int32) (s0 : Sg)  : pf_ (fX10_lays a1 a2 s0) (fun q => FT_ s0 q.2) := by
  generalize hQ0 : (fun q : (Bool × Sg) => FT_ s0 q.2) = Q
  have hQ : ∀ r {x : Sg}, FT_ s0 x → Q (r, x) := fun r x h => by rw [← hQ0]; exact h
  clear hQ0
  unfold fX10_lays
  refine pf_bnd (yt_fX10_panOf a1 s0 ) (fun r_1 s_2 p_s_2 => ?_)
  have g_s_2 : FT_ s0 s_2 := (FT_.rf).tr p_s_2
  refine pf_bnd (yt_fX10_thingAt a1 s_2 ) (fun r_3 s_4 p_s_4 => ?_)
  have g_s_4 : FT_ s0 s_4 := (g_s_2).tr p_s_4
  refine pf_chk (fun _ => ?_)
  refine pf_bv (fun s_6 e_s_6 => ?_)
  have g_s_6 : FT_ s0 s_6 := by rw [e_s_6]; exact FT_.si g_s_4 rfl
  clear e_s_6
  refine pf_bnd (yt_fX10_isSafeNow s_6 ) (fun r_7 s_8 p_s_8 => ?_)
  have g_s_8 : FT_ s0 s_8 := (g_s_6).tr p_s_8
  refine pf_bnd (yt_fX10_thingAt a1 s_8 ) (fun r_9 s_10 p_s_10 => ?_)
  have g_s_10 : FT_ s0 s_10 := (g_s_8).tr p_s_10
  refine pf_chk (fun _ => ?_)
  refine pf_bv (fun s_12 e_s_12 => ?_)
  have g_s_12 : FT_ s0 s_12 := by rw [e_s_12]; exact FT_.si g_s_10 rfl
  clear e_s_12
  refine pf_if ?_ ?_
  · skip
    exact pf_some (hQ _ g_s_12)
  · skip
    refine pf_bnv (yt_fX10_keep s_12 ) (fun s_13 p_s_13 => ?_)
    have g_s_13 : FT_ s0 s_13 := (g_s_12).tr p_s_13
    refine pf_bnd (yt_fX10_thingAt a1 s_13 ) (fun r_14 s_15 p_s_15 => ?_)
    have g_s_15 : FT_ s0 s_15 := (g_s_13).tr p_s_15
    refine pf_chk (fun _ => ?_)
    refine pf_bv (fun s_17 e_s_17 => ?_)
    have g_s_17 : FT_ s0 s_17 := by rw [e_s_17]; exact FT_.si g_s_15 rfl
    clear e_s_17
    exact pf_some (hQ _ g_s_17)
set_option maxRecDepth 100000 in
theorem yt_fX10_put (a1 : Int32) (a2 : Int32) (s0 : Sg)  : pf_ (fX10_put a1 a2 s0) (fun q => FT_ s0 q.2) := by
  generalize hQ0 : (fun q : (Int32 × Sg) => FT_ s0 q.2) = Q
  have hQ : ∀ r {x : Sg}, FT_ s0 x → Q (r, x) := fun r x h => by rw [← hQ0]; exact h
  clear hQ0
  unfold fX10_put
  refine pf_bnd (yt_fX10_isThing a1 s0 ) (fun r_1 s_2 p_s_2 => ?_)
  have g_s_2 : FT_ s0 s_2 := (FT_.rf).tr p_s_2
  refine pf_if ?_ ?_
  · skip
    exact pf_some (hQ _ g_s_2)
  · skip
    refine pf_bnd (yt_fX10_isIn a2 0 1 s_2 ) (fun r_3 s_4 p_s_4 => ?_)
    have g_s_4 : FT_ s0 s_4 := (g_s_2).tr p_s_4
    refine pf_if ?_ ?_
    · skip
      exact pf_some (hQ _ g_s_4)
    · skip
      refine pf_bnd (yt_fX10_panOf a1 s_4 ) (fun r_5 s_6 p_s_6 => ?_)
      have g_s_6 : FT_ s0 s_6 := (g_s_4).tr p_s_6
      refine pf_if ?_ ?_
      · skip
        exact pf_some (hQ _ g_s_6)
      · skip
        refine pf_bnd (yt_fX10_lays a1 a2 s_6 ) (fun r_7 s_8 p_s_8 => ?_)
        have g_s_8 : FT_ s0 s_8 := (g_s_6).tr p_s_8
        refine pf_if ?_ ?_
        · skip
          exact pf_some (hQ _ g_s_8)
        · skip
          refine pf_bnv (yt_fX10_nameNow s_8 ) (fun s_9 p_s_9 => ?_)
          have g_s_9 : FT_ s0 s_9 := (g_s_8).tr p_s_9
          refine pf_bnd (yt_fX10_load a2 s_9 ) (fun r_10 s_11 p_s_11 => ?_)
          have g_s_11 : FT_ s0 s_11 := (g_s_9).tr p_s_11
          exact pf_some (hQ _ g_s_11)
set_option maxRecDepth 100000 in
theorem yt_fX10_take (a1 : Int32) (s0 : Sg)  : pf_ (fX10_take a1 s0) (fun q => FT_ s0 q.2) := by
  generalize hQ0 : (fun q : (Int32 × Sg) => FT_ s0 q.2) = Q
  have hQ : ∀ r {x : Sg}, FT_ s0 x → Q (r, x) := fun r x h => by rw [← hQ0]; exact h
  clear hQ0
  unfold fX10_take
  refine pf_bnd (yt_fX10_isThing a1 s0 ) (fun r_1 s_2 p_s_2 => ?_)
  have g_s_2 : FT_ s0 s_2 := (FT_.rf).tr p_s_2
  refine pf_if ?_ ?_
  · skip
    exact pf_some (hQ _ g_s_2)
  · skip
    refine pf_bnd (yt_fX10_panOf a1 s_2 ) (fun r_3 s_4 p_s_4 => ?_)
    have g_s_4 : FT_ s0 s_4 := (g_s_2).tr p_s_4
    refine pf_if ?_ ?_
    · skip
      refine pf_bnd (yt_fX10_panOf a1 s_4 ) (fun r_5 s_6 p_s_6 => ?_)
      have g_s_6 : FT_ s0 s_6 := (g_s_4).tr p_s_6
      refine pf_bnd (yt_fX10_lays a1 (-1) s_6 ) (fun r_7 s_8 p_s_8 => ?_)
      have g_s_8 : FT_ s0 s_8 := (g_s_6).tr p_s_8
      refine pf_if ?_ ?_
      · skip
        exact pf_some (hQ _ g_s_8)
      · skip
        exact pf_some (hQ _ g_s_8)
    · skip
      exact pf_some (hQ _ g_s_4)
set_option maxRecDepth 100000 in
theorem yt_fX10_pass (a1 : Int32) (s0 : Sg)  : pf_ (fX10_pass a1 s0) (fun q => FT_ s0 q.2) := by
  generalize hQ0 : (fun q : (Int32 × Sg) => FT_ s0 q.2) = Q
  have hQ : ∀ r {x : Sg}, FT_ s0 x → Q (r, x) := fun r x h => by rw [← hQ0]; exact h
  clear hQ0
  unfold fX10_pass
  refine pf_bnd (yt_fX10_isIn a1 0 99 s0 ) (fun r_1 s_2 p_s_2 => ?_)
  have g_s_2 : FT_ s0 s_2 := (FT_.rf).tr p_s_2
  refine pf_if ?_ ?_
  · skip
    exact pf_some (hQ _ g_s_2)
  · skip
    refine pf_bnv (yt_fX10_keep s_2 ) (fun s_3 p_s_3 => ?_)
    have g_s_3 : FT_ s0 s_3 := (g_s_2).tr p_s_3
    refine pf_bv (fun s_4 e_s_4 => ?_)
    have g_s_4 : FT_ s0 s_4 := by rw [e_s_4]; exact FT_.si g_s_3 rfl
    clear e_s_4
    exact pf_some (hQ _ g_s_4)
set_option maxRecDepth 100000 in
theorem yt_fX10_isPlayed (a1 : Int32) (s0 : Sg)  : pf_ (fX10_isPlayed a1 s0) (fun q => FT_ s0 q.2) := by
  generalize hQ0 : (fun q : (Bool × Sg) => FT_ s0 q.2) = Q
  have hQ : ∀ r {x : Sg}, FT_ s0 x → Q (r, x) := fun r x h => by rw [← hQ0]; exact h
  clear hQ0
  unfold fX10_isPlayed
  refine pf_chk (fun _ => ?_)
  refine pf_if ?_ ?_
  · skip
    refine pf_chk (fun _ => ?_)
    refine pf_chk (fun _ => ?_)
    refine pf_bnd (yt_fX10_put (gi s0 30 (ix (a1 + 1))) (gi s0 30 (ix (a1 + 2))) s0 ) (fun r_4 s_5 p_s_5 => ?_)
    have g_s_5 : FT_ s0 s_5 := (FT_.rf).tr p_s_5
    refine pf_if ?_ ?_
    · skip
      exact pf_some (hQ _ g_s_5)
    · skip
      exact pf_some (hQ _ g_s_5)
  · skip
    refine pf_if ?_ ?_
    · skip
      refine pf_chk (fun _ => ?_)
      refine pf_bnd (yt_fX10_take (gi s0 30 (ix (a1 + 1))) s0 ) (fun r_8 s_9 p_s_9 => ?_)
      have g_s_9 : FT_ s0 s_9 := (FT_.rf).tr p_s_9
      refine pf_if ?_ ?_
      · skip
        exact pf_some (hQ _ g_s_9)
      · skip
        exact pf_some (hQ _ g_s_9)
    · skip
      refine pf_if ?_ ?_
      · skip
        refine pf_chk (fun _ => ?_)
        refine pf_bnd (yt_fX10_pass (gi s0 30 (ix (a1 + 1))) s0 ) (fun r_12 s_13 p_s_13 => ?_)
        have g_s_13 : FT_ s0 s_13 := (FT_.rf).tr p_s_13
        refine pf_if ?_ ?_
        · skip
          exact pf_some (hQ _ g_s_13)
        · skip
          exact pf_some (hQ _ g_s_13)
      · skip
        exact pf_some (hQ _ FT_.rf)
set_option maxRecDepth 100000 in
theorem yt_fX10_played (a1 : Int32) (s0 : Sg)  : pf_ (fX10_played a1 s0) (fun q => FT_ s0 q.2) := by
  generalize hQ0 : (fun q : (Int32 × Sg) => FT_ s0 q.2) = Q
  have hQ : ∀ r {x : Sg}, FT_ s0 x → Q (r, x) := fun r x h => by rw [← hQ0]; exact h
  clear hQ0
  unfold fX10_played
  refine pf_bnd (yt_fX10_isIn a1 0 ((gi s0 28 (ix 7)) - 1) s0 ) (fun r_1 s_2 p_s_2 => ?_)
  have g_s_2 : FT_ s0 s_2 := (FT_.rf).tr p_s_2
  refine pf_if ?_ ?_
  · skip
    exact pf_some (hQ _ g_s_2)
  · skip
    refine pf_lo2 (fun (_ : Int32) s_4 => FT_ s0 s_4) ?_ FU 0 s_2 g_s_2
    intro rec22 x2_3 s_4 g_s_4 hr0_
    have hrec22 : ∀ (x2_3 : Int32) (s_4 : Sg), FT_ s0 s_4 → pf_ (rec22 x2_3 s_4) Q := fun x2_3 s_4 z_s_4 => hr0_ x2_3 s_4 z_s_4
    clear hr0_
    unfold fX10_played_22_b
    refine pf_chk (fun _ => ?_)
    refine pf_if ?_ ?_
    · skip
      exact pf_some (hQ _ g_s_4)
    · skip
      refine pf_bnd (yt_fX10_isPlayed (((680 * a1) + 1) + (3 * x2_3)) s_4 ) (fun r_6 s_7 p_s_7 => ?_)
      have g_s_7 : FT_ s0 s_7 := (g_s_4).tr p_s_7
      refine pf_if ?_ ?_
      · skip
        exact pf_some (hQ _ g_s_7)
      · skip
        refine pf_bv (fun v_8 e_v_8 => ?_)
        clear e_v_8
        exact hrec22 v_8 s_7 g_s_7
set_option maxRecDepth 100000 in
theorem yt_fX10_undo (s0 : Sg)  : pf_ (fX10_undo s0) (fun q => FT_ s0 q.2) := by
  generalize hQ0 : (fun q : (Int32 × Sg) => FT_ s0 q.2) = Q
  have hQ : ∀ r {x : Sg}, FT_ s0 x → Q (r, x) := fun r x h => by rw [← hQ0]; exact h
  clear hQ0
  unfold fX10_undo
  refine pf_if ?_ ?_
  · skip
    exact pf_some (hQ _ FT_.rf)
  · skip
    refine pf_bv (fun s_1 e_s_1 => ?_)
    have g_s_1 : FT_ s0 s_1 := by rw [e_s_1]; exact FT_.si FT_.rf rfl
    clear e_s_1
    refine pf_bv (fun v_2 e_v_2 => ?_)
    clear e_v_2
    refine pf_chk (fun _ => ?_)
    refine pf_bv (fun s_4 e_s_4 => ?_)
    have g_s_4 : FT_ s0 s_4 := by rw [e_s_4]; exact FT_.si g_s_1 rfl
    clear e_s_4
    refine pf_jn (fun k_6 => ∀ (s_5 : Sg), FT_ s0 s_5 → pf_ (k_6 s_5) Q) ?_ (fun k_6 hk_6 => ?_)
    · intro s_5 g_s_5
      try dsimp only
      exact pf_some (hQ _ g_s_5)
    refine pf_lo2 (fun (_ : Int32) s_8 => FT_ s0 s_8) ?_ FU 0 s_4 g_s_4
    intro rec52 x2_7 s_8 g_s_8 hr0_
    have hrec52 : ∀ (x2_7 : Int32) (s_8 : Sg), FT_ s0 s_8 → pf_ (rec52 x2_7 s_8) Q := fun x2_7 s_8 z_s_8 => hr0_ x2_7 s_8 z_s_8
    clear hr0_
    unfold fX10_undo_52_b
    refine pf_chk (fun _ => ?_)
    refine pf_if ?_ ?_
    · skip
      exact hk_6 s_8 g_s_8
    · skip
      refine pf_bnd (yt_fX10_thingAt x2_7 s_8 ) (fun r_10 s_11 p_s_11 => ?_)
      have g_s_11 : FT_ s0 s_11 := (g_s_8).tr p_s_11
      refine pf_chk (fun _ => ?_)
      refine pf_chk (fun _ => ?_)
      refine pf_bv (fun s_14 e_s_14 => ?_)
      have g_s_14 : FT_ s0 s_14 := by rw [e_s_14]; exact FT_.si g_s_11 rfl
      clear e_s_14
      refine pf_bv (fun v_15 e_v_15 => ?_)
      clear e_v_15
      exact hrec52 v_15 s_14 g_s_14
set_option maxRecDepth 100000 in
theorem yt_fX10_of (a1 : Int32) (a2 : Int32) (s0 : Sg)  : pf_ (fX10_of a1 a2 s0) (fun q => FT_ s0 q.2) := by
  generalize hQ0 : (fun q : (Int32 × Sg) => FT_ s0 q.2) = Q
  have hQ : ∀ r {x : Sg}, FT_ s0 x → Q (r, x) := fun r x h => by rw [← hQ0]; exact h
  clear hQ0
  unfold fX10_of
  refine pf_bnd (yt_fX10_isThing a1 s0 ) (fun r_1 s_2 p_s_2 => ?_)
  have g_s_2 : FT_ s0 s_2 := (FT_.rf).tr p_s_2
  refine pf_if ?_ ?_
  · skip
    exact pf_some (hQ _ g_s_2)
  · skip
    refine pf_bnd (yt_fX10_isIn a2 0 4 s_2 ) (fun r_3 s_4 p_s_4 => ?_)
    have g_s_4 : FT_ s0 s_4 := (g_s_2).tr p_s_4
    refine pf_if ?_ ?_
    · skip
      exact pf_some (hQ _ g_s_4)
    · skip
      refine pf_bnv (yt_fX10_nameNow s_4 ) (fun s_5 p_s_5 => ?_)
      have g_s_5 : FT_ s0 s_5 := (g_s_4).tr p_s_5
      refine pf_if ?_ ?_
      · skip
        refine pf_bnd (yt_fX10_bears a1 (a2 - 3) s_5 ) (fun r_8 s_9 p_s_9 => ?_)
        have g_s_9 : FT_ s0 s_9 := (g_s_5).tr p_s_9
        exact pf_some (hQ _ g_s_9)
      · skip
        refine pf_bnd (yt_fX10_thingAt a1 s_5 ) (fun r_10 s_11 p_s_11 => ?_)
        have g_s_11 : FT_ s0 s_11 := (g_s_5).tr p_s_11
        refine pf_chk (fun _ => ?_)
        exact pf_some (hQ _ g_s_11)
set_option maxRecDepth 100000 in
theorem yt_fX10_beamBy (a1 : Int32) (a2 : Int32) (s0 : Sg)  : pf_ (fX10_beamBy a1 a2 s0) (fun q => FT_ s0 q.2) := by
  generalize hQ0 : (fun q : (Int32 × Sg) => FT_ s0 q.2) = Q
  have hQ : ∀ r {x : Sg}, FT_ s0 x → Q (r, x) := fun r x h => by rw [← hQ0]; exact h
  clear hQ0
  unfold fX10_beamBy
  refine pf_bnd (yt_fX10_without a1 s0 ) (fun r_1 s_2 p_s_2 => ?_)
  have g_s_2 : FT_ s0 s_2 := (FT_.rf).tr p_s_2
  refine pf_if ?_ ?_
  · skip
    refine pf_if ?_ ?_
    · skip
      exact pf_some (hQ _ g_s_2)
    · skip
      exact pf_some (hQ _ g_s_2)
  · skip
    exact pf_some (hQ _ g_s_2)
set_option maxRecDepth 100000 in
theorem yt_fX10_now (a1 : Int32) (s0 : Sg)  : pf_ (fX10_now a1 s0) (fun q => FT_ s0 q.2) := by
  generalize hQ0 : (fun q : (Int32 × Sg) => FT_ s0 q.2) = Q
  have hQ : ∀ r {x : Sg}, FT_ s0 x → Q (r, x) := fun r x h => by rw [← hQ0]; exact h
  clear hQ0
  unfold fX10_now
  refine pf_bnv (yt_fX10_nameNow s0 ) (fun s_1 p_s_1 => ?_)
  have g_s_1 : FT_ s0 s_1 := (FT_.rf).tr p_s_1
  refine pf_bnd (yt_fX10_load 0 s_1 ) (fun r_2 s_3 p_s_3 => ?_)
  have g_s_3 : FT_ s0 s_3 := (g_s_1).tr p_s_3
  refine pf_bnd (yt_fX10_load 1 s_3 ) (fun r_4 s_5 p_s_5 => ?_)
  have g_s_5 : FT_ s0 s_5 := (g_s_3).tr p_s_5
  refine pf_if ?_ ?_
  · skip
    exact pf_some (hQ _ g_s_5)
  · skip
    refine pf_if ?_ ?_
    · skip
      exact pf_some (hQ _ g_s_5)
    · skip
      refine pf_if ?_ ?_
      · skip
        refine pf_bnd (yt_fX10_moment r_2 r_4 s_5 ) (fun r_8 s_9 p_s_9 => ?_)
        have g_s_9 : FT_ s0 s_9 := (g_s_5).tr p_s_9
        exact pf_some (hQ _ g_s_9)
      · skip
        refine pf_if ?_ ?_
        · skip
          refine pf_bnd (yt_fX10_moment r_2 r_4 s_5 ) (fun r_11 s_12 p_s_12 => ?_)
          have g_s_12 : FT_ s0 s_12 := (g_s_5).tr p_s_12
          refine pf_bnd (yt_fX10_beamBy r_11 (gi s_12 28 (ix 3)) s_12 ) (fun r_13 s_14 p_s_14 => ?_)
          have g_s_14 : FT_ s0 s_14 := (g_s_12).tr p_s_14
          exact pf_some (hQ _ g_s_14)
        · skip
          refine pf_if ?_ ?_
          · skip
            refine pf_bnd (yt_fX10_isSafe r_2 r_4 s_5 ) (fun r_16 s_17 p_s_17 => ?_)
            have g_s_17 : FT_ s0 s_17 := (g_s_5).tr p_s_17
            refine pf_if ?_ ?_
            · skip
              exact pf_some (hQ _ g_s_17)
            · skip
              exact pf_some (hQ _ g_s_17)
          · skip
            exact pf_some (hQ _ g_s_5)
set_option maxRecDepth 100000 in
theorem yt_fX10_bits (a1 : Int32) (s0 : Sg)  : pf_ (fX10_bits a1 s0) (fun q => FT_ s0 q.2) := by
  generalize hQ0 : (fun q : (Int32 × Sg) => FT_ s0 q.2) = Q
  have hQ : ∀ r {x : Sg}, FT_ s0 x → Q (r, x) := fun r x h => by rw [← hQ0]; exact h
  clear hQ0
  unfold fX10_bits
  refine pf_lo2 (fun (_ : Int32) (_ : Int32) => True) ?_ FU 0 0 trivial
  intro rec4 x1_1 x2_2 _ hr0_
  have hrec4 : ∀ (x1_1 : Int32) (x2_2 : Int32), pf_ (rec4 x1_1 x2_2) Q := fun x1_1 x2_2 => hr0_ x1_1 x2_2 trivial
  clear hr0_
  unfold fX10_bits_4_b
  refine pf_if ?_ ?_
  · skip
    exact pf_some (hQ _ FT_.rf)
  · skip
    refine pf_bv (fun v_3 e_v_3 => ?_)
    clear e_v_3
    refine pf_bv (fun v_4 e_v_4 => ?_)
    clear e_v_4
    exact hrec4 v_3 v_4 
set_option maxRecDepth 100000 in
theorem yt_fX10_has (a1 : Int32) (a2 : Int32) (s0 : Sg)  : pf_ (fX10_has a1 a2 s0) (fun q => FT_ s0 q.2) := by
  generalize hQ0 : (fun q : (Bool × Sg) => FT_ s0 q.2) = Q
  have hQ : ∀ r {x : Sg}, FT_ s0 x → Q (r, x) := fun r x h => by rw [← hQ0]; exact h
  clear hQ0
  unfold fX10_has
  refine pf_if ?_ ?_
  · skip
    exact pf_some (hQ _ FT_.rf)
  · skip
    exact pf_some (hQ _ FT_.rf)
set_option maxRecDepth 100000 in
theorem yt_fX10_areAsked (a1 : Int32) (a2 : Int32) (s0 : Sg)  : pf_ (fX10_areAsked a1 a2 s0) (fun q => FT_ s0 q.2) := by
  generalize hQ0 : (fun q : (Bool × Sg) => FT_ s0 q.2) = Q
  have hQ : ∀ r {x : Sg}, FT_ s0 x → Q (r, x) := fun r x h => by rw [← hQ0]; exact h
  clear hQ0
  unfold fX10_areAsked
  refine pf_bnd (yt_fX10_isIn a1 0 ((1 <<< ((gi s0 28 (ix 0)) &&& 31)) - 1) s0 ) (fun r_1 s_2 p_s_2 => ?_)
  have g_s_2 : FT_ s0 s_2 := (FT_.rf).tr p_s_2
  refine pf_if ?_ ?_
  · skip
    exact pf_some (hQ _ g_s_2)
  · skip
    refine pf_bnd (yt_fX10_isIn a2 0 4095 s_2 ) (fun r_3 s_4 p_s_4 => ?_)
    have g_s_4 : FT_ s0 s_4 := (g_s_2).tr p_s_4
    refine pf_if ?_ ?_
    · skip
      exact pf_some (hQ _ g_s_4)
    · skip
      refine pf_if ?_ ?_
      · skip
        refine pf_bnd (yt_fX10_bits a1 s_4 ) (fun r_5 s_6 p_s_6 => ?_)
        have g_s_6 : FT_ s0 s_6 := (g_s_4).tr p_s_6
        refine pf_if ?_ ?_
        · skip
          refine pf_lo2 (fun (_ : Int32) s_8 => FT_ s0 s_8) ?_ FU 0 s_6 g_s_6
          intro rec50 x3_7 s_8 g_s_8 hr0_
          have hrec50 : ∀ (x3_7 : Int32) (s_8 : Sg), FT_ s0 s_8 → pf_ (rec50 x3_7 s_8) Q := fun x3_7 s_8 z_s_8 => hr0_ x3_7 s_8 z_s_8
          clear hr0_
          unfold fX10_areAsked_50_b
          refine pf_if ?_ ?_
          · skip
            exact pf_some (hQ _ g_s_8)
          · skip
            refine pf_bnd (yt_fX10_has a1 x3_7 s_8 ) (fun r_9 s_10 p_s_10 => ?_)
            have g_s_10 : FT_ s0 s_10 := (g_s_8).tr p_s_10
            refine pf_jn (fun k_12 => ∀ (s_11 : Sg), FT_ s0 s_11 → pf_ (k_12 s_11) Q) ?_ (fun k_12 hk_12 => ?_)
            · intro s_11 g_s_11
              try dsimp only
              refine pf_bv (fun v_13 e_v_13 => ?_)
              clear e_v_13
              exact hrec50 v_13 s_11 g_s_11
            refine pf_if ?_ ?_
            · skip
              exact hk_12 s_10 g_s_10
            · skip
              refine pf_bnd (yt_fX10_panOf x3_7 s_10 ) (fun r_14 s_15 p_s_15 => ?_)
              have g_s_15 : FT_ s0 s_15 := (g_s_10).tr p_s_15
              refine pf_if ?_ ?_
              · skip
                exact hk_12 s_15 g_s_15
              · skip
                exact pf_some (hQ _ g_s_15)
        · skip
          exact pf_some (hQ _ g_s_6)
      · skip
        exact pf_some (hQ _ g_s_4)
set_option maxRecDepth 100000 in
theorem yt_fX10_findLoads (a1 : Int32) (a2 : Int32) (s0 : Sg)  : pf_ (fX10_findLoads a1 a2 s0) (fun q => FT_ s0 q) := by
  generalize hQ0 : (fun q : (Sg) => FT_ s0 q) = Q
  have hQ : ∀ (_ : Unit) {x : Sg}, FT_ s0 x → Q x := fun _ x h => by rw [← hQ0]; exact h
  clear hQ0
  unfold fX10_findLoads
  refine pf_bnv (yt_fX10_nameNow s0 ) (fun s_1 p_s_1 => ?_)
  have g_s_1 : FT_ s0 s_1 := (FT_.rf).tr p_s_1
  refine pf_bnd (yt_fX10_load 0 s_1 ) (fun r_2 s_3 p_s_3 => ?_)
  have g_s_3 : FT_ s0 s_3 := (g_s_1).tr p_s_3
  refine pf_bnd (yt_fX10_load 1 s_3 ) (fun r_4 s_5 p_s_5 => ?_)
  have g_s_5 : FT_ s0 s_5 := (g_s_3).tr p_s_5
  refine pf_bv (fun s_6 e_s_6 => ?_)
  have g_s_6 : FT_ s0 s_6 := by rw [e_s_6]; exact FT_.si g_s_5 rfl
  clear e_s_6
  refine pf_jn (fun k_8 => ∀ (s_7 : Sg), FT_ s0 s_7 → pf_ (k_8 s_7) Q) ?_ (fun k_8 hk_8 => ?_)
  · intro s_7 g_s_7
    try dsimp only
    refine pf_lo2 (fun (_ : Int32) s_10 => FT_ s0 s_10) ?_ FU 0 s_7 g_s_7
    intro rec107 x5_9 s_10 g_s_10 hr0_
    have hrec107 : ∀ (x5_9 : Int32) (s_10 : Sg), FT_ s0 s_10 → pf_ (rec107 x5_9 s_10) Q := fun x5_9 s_10 z_s_10 => hr0_ x5_9 s_10 z_s_10
    clear hr0_
    unfold fX10_findLoads_107_b
    refine pf_if ?_ ?_
    · skip
      exact pf_some (hQ () g_s_10)
    · skip
      refine pf_jn (fun k_14 => ∀ (x6_11 : Int32) (x7_12 : Int32) (s_13 : Sg), FT_ s0 s_13 → pf_ (k_14 x6_11 x7_12 s_13) Q) ?_ (fun k_14 hk_14 => ?_)
      · intro x6_11 x7_12 s_13 g_s_13
        try dsimp only
        refine pf_bnd (yt_fX10_isSafe x6_11 x7_12 s_13 ) (fun r_15 s_16 p_s_16 => ?_)
        have g_s_16 : FT_ s0 s_16 := (g_s_13).tr p_s_16
        refine pf_chk (fun _ => ?_)
        refine pf_bv (fun s_18 e_s_18 => ?_)
        have g_s_18 : FT_ s0 s_18 := by rw [e_s_18]; exact FT_.si g_s_16 rfl
        clear e_s_18
        refine pf_bnd (yt_fX10_moment x6_11 x7_12 s_18 ) (fun r_19 s_20 p_s_20 => ?_)
        have g_s_20 : FT_ s0 s_20 := (g_s_18).tr p_s_20
        refine pf_bnd (yt_fX10_without r_19 s_20 ) (fun r_21 s_22 p_s_22 => ?_)
        have g_s_22 : FT_ s0 s_22 := (g_s_20).tr p_s_22
        refine pf_bv (fun s_23 e_s_23 => ?_)
        have g_s_23 : FT_ s0 s_23 := by rw [e_s_23]; exact FT_.si g_s_22 rfl
        clear e_s_23
        refine pf_bv (fun v_24 e_v_24 => ?_)
        clear e_v_24
        exact hrec107 v_24 s_23 g_s_23
      refine pf_lo4 (fun (_ : Int32) (_ : Int32) (_ : Int32) s_28 => FT_ s0 s_28) ?_ FU r_2 r_4 0 s_10 g_s_10
      intro rec128 x6_25 x7_26 x8_27 s_28 g_s_28 hr0_
      have hrec128 : ∀ (x6_25 : Int32) (x7_26 : Int32) (x8_27 : Int32) (s_28 : Sg), FT_ s0 s_28 → pf_ (rec128 x6_25 x7_26 x8_27 s_28) Q := fun x6_25 x7_26 x8_27 s_28 z_s_28 => hr0_ x6_25 x7_26 x8_27 s_28 z_s_28
      clear hr0_
      unfold fX10_findLoads_128_b
      refine pf_if ?_ ?_
      · skip
        exact hk_14 x6_25 x7_26 s_28 g_s_28
      · skip
        refine pf_bnd (yt_fX10_has x5_9 x8_27 s_28 ) (fun r_29 s_30 p_s_30 => ?_)
        have g_s_30 : FT_ s0 s_30 := (g_s_28).tr p_s_30
        refine pf_jn (fun k_34 => ∀ (x6_31 : Int32) (x7_32 : Int32) (s_33 : Sg), FT_ s0 s_33 → pf_ (k_34 x6_31 x7_32 s_33) Q) ?_ (fun k_34 hk_34 => ?_)
        · intro x6_31 x7_32 s_33 g_s_33
          try dsimp only
          refine pf_bv (fun v_35 e_v_35 => ?_)
          clear e_v_35
          exact hrec128 x6_31 x7_32 v_35 s_33 g_s_33
        refine pf_if ?_ ?_
        · skip
          exact hk_34 x6_25 x7_26 s_30 g_s_30
        · skip
          refine pf_chk (fun _ => ?_)
          refine pf_bnd (yt_fX10_has a2 (gi s_30 36 (ix x8_27)) s_30 ) (fun r_37 s_38 p_s_38 => ?_)
          have g_s_38 : FT_ s0 s_38 := (g_s_30).tr p_s_38
          refine pf_jn (fun k_41 => ∀ (y_39 : Int32) (y_40 : Int32), pf_ (k_41 y_39 y_40) Q) ?_ (fun k_41 hk_41 => ?_)
          · intro y_39 y_40
            try dsimp only
            refine pf_bv (fun v_42 e_v_42 => ?_)
            clear e_v_42
            refine pf_chk (fun _ => ?_)
            refine pf_bnd (yt_fX10_has a2 (gi s_38 36 (ix x8_27)) s_38 ) (fun r_44 s_45 p_s_45 => ?_)
            have g_s_45 : FT_ s0 s_45 := (g_s_38).tr p_s_45
            refine pf_jn (fun k_48 => ∀ (y_46 : Int32) (y_47 : Int32), pf_ (k_48 y_46 y_47) Q) ?_ (fun k_48 hk_48 => ?_)
            · intro y_46 y_47
              try dsimp only
              refine pf_bv (fun v_49 e_v_49 => ?_)
              clear e_v_49
              exact hk_34 v_42 v_49 s_45 g_s_45
            refine pf_if ?_ ?_
            · skip
              exact hk_48 x7_26 0 
            · skip
              exact hk_48 x7_26 (gi s_45 37 (ix x8_27)) 
          refine pf_if ?_ ?_
          · skip
            exact hk_41 x6_25 (gi s_38 37 (ix x8_27)) 
          · skip
            exact hk_41 x6_25 0 
  refine pf_lo2 (fun (_ : Int32) s_51 => FT_ s0 s_51) ?_ FU 0 s_6 g_s_6
  intro rec25 x5_50 s_51 g_s_51 hr0_
  have hrec25 : ∀ (x5_50 : Int32) (s_51 : Sg), FT_ s0 s_51 → pf_ (rec25 x5_50 s_51) Q := fun x5_50 s_51 z_s_51 => hr0_ x5_50 s_51 z_s_51
  clear hr0_
  unfold fX10_findLoads_25_b
  refine pf_if ?_ ?_
  · skip
    exact hk_8 s_51 g_s_51
  · skip
    refine pf_bnd (yt_fX10_has a1 x5_50 s_51 ) (fun r_52 s_53 p_s_53 => ?_)
    have g_s_53 : FT_ s0 s_53 := (g_s_51).tr p_s_53
    refine pf_jn (fun k_55 => ∀ (s_54 : Sg), FT_ s0 s_54 → pf_ (k_55 s_54) Q) ?_ (fun k_55 hk_55 => ?_)
    · intro s_54 g_s_54
      try dsimp only
      refine pf_bv (fun v_56 e_v_56 => ?_)
      clear e_v_56
      exact hrec25 v_56 s_54 g_s_54
    refine pf_if ?_ ?_
    · skip
      exact hk_55 s_53 g_s_53
    · skip
      refine pf_chk (fun _ => ?_)
      refine pf_bv (fun s_58 e_s_58 => ?_)
      have g_s_58 : FT_ s0 s_58 := by rw [e_s_58]; exact FT_.si g_s_53 rfl
      clear e_s_58
      refine pf_bnd (yt_fX10_has a2 x5_50 s_58 ) (fun r_59 s_60 p_s_60 => ?_)
      have g_s_60 : FT_ s0 s_60 := (g_s_58).tr p_s_60
      refine pf_jn (fun k_64 => ∀ (y_61 : Int32) (y_62 : Int32) (y_63 : Bool), pf_ (k_64 y_61 y_62 y_63) Q) ?_ (fun k_64 hk_64 => ?_)
      · intro y_61 y_62 y_63
        try dsimp only
        refine pf_bnd (yt_fX10_bears y_62 (b2i y_63) s_60 ) (fun r_65 s_66 p_s_66 => ?_)
        have g_s_66 : FT_ s0 s_66 := (g_s_60).tr p_s_66
        refine pf_chk (fun _ => ?_)
        refine pf_bv (fun s_68 e_s_68 => ?_)
        have g_s_68 : FT_ s0 s_68 := by rw [e_s_68]; exact FT_.si g_s_66 rfl
        clear e_s_68
        refine pf_bv (fun s_69 e_s_69 => ?_)
        have g_s_69 : FT_ s0 s_69 := by rw [e_s_69]; exact FT_.si g_s_68 rfl
        clear e_s_69
        exact hk_55 s_69 g_s_69
      refine pf_if ?_ ?_
      · skip
        exact hk_64 (gi s_58 27 29) x5_50 false 
      · skip
        exact hk_64 (gi s_58 27 29) x5_50 true 
set_option maxRecDepth 100000 in
theorem yt_fX10_loadings (a1 : Int32) (a2 : Int32) (s0 : Sg)  : pf_ (fX10_loadings a1 a2 s0) (fun q => FT_ s0 q.2) := by
  generalize hQ0 : (fun q : (Int64 × Sg) => FT_ s0 q.2) = Q
  have hQ : ∀ r {x : Sg}, FT_ s0 x → Q (r, x) := fun r x h => by rw [← hQ0]; exact h
  clear hQ0
  unfold fX10_loadings
  refine pf_bnd (yt_fX10_areAsked a1 a2 s0 ) (fun r_1 s_2 p_s_2 => ?_)
  have g_s_2 : FT_ s0 s_2 := (FT_.rf).tr p_s_2
  refine pf_if ?_ ?_
  · skip
    exact pf_some (hQ _ g_s_2)
  · skip
    refine pf_bnv (yt_fX10_findLoads a1 a2 s_2 ) (fun s_3 p_s_3 => ?_)
    have g_s_3 : FT_ s0 s_3 := (g_s_2).tr p_s_3
    refine pf_jn (fun k_5 => ∀ (s_4 : Sg), FT_ s0 s_4 → pf_ (k_5 s_4) Q) ?_ (fun k_5 hk_5 => ?_)
    · intro s_4 g_s_4
      try dsimp only
      refine pf_chk (fun _ => ?_)
      exact pf_some (hQ _ g_s_4)
    refine pf_lo2 (fun (_ : Int32) s_8 => FT_ s0 s_8) ?_ FU 0 s_3 g_s_3
    intro rec21 x3_7 s_8 g_s_8 hr0_
    have hrec21 : ∀ (x3_7 : Int32) (s_8 : Sg), FT_ s0 s_8 → pf_ (rec21 x3_7 s_8) Q := fun x3_7 s_8 z_s_8 => hr0_ x3_7 s_8 z_s_8
    clear hr0_
    unfold fX10_loadings_21_b
    refine pf_if ?_ ?_
    · skip
      exact hk_5 s_8 g_s_8
    · skip
      refine pf_jn (fun k_11 => ∀ (y_9 : Int32) (y_10 : Int64), pf_ (k_11 y_9 y_10) Q) ?_ (fun k_11 hk_11 => ?_)
      · intro y_9 y_10
        try dsimp only
        refine pf_chk (fun _ => ?_)
        refine pf_bv (fun s_13 e_s_13 => ?_)
        have g_s_13 : FT_ s0 s_13 := by rw [e_s_13]; exact FT_.sl g_s_8
        clear e_s_13
        refine pf_jn (fun k_15 => ∀ (s_14 : Sg), FT_ s0 s_14 → pf_ (k_15 s_14) Q) ?_ (fun k_15 hk_15 => ?_)
        · intro s_14 g_s_14
          try dsimp only
          refine pf_bv (fun v_16 e_v_16 => ?_)
          clear e_v_16
          exact hrec21 v_16 s_14 g_s_14
        refine pf_lo2 (fun (_ : Int32) s_18 => FT_ s0 s_18) ?_ FU 0 s_13 g_s_13
        intro rec49 x4_17 s_18 g_s_18 hr0_
        have hrec49 : ∀ (x4_17 : Int32) (s_18 : Sg), FT_ s0 s_18 → pf_ (rec49 x4_17 s_18) Q := fun x4_17 s_18 z_s_18 => hr0_ x4_17 s_18 z_s_18
        clear hr0_
        unfold fX10_loadings_49_b
        refine pf_if ?_ ?_
        · skip
          exact hk_15 s_18 g_s_18
        · skip
          refine pf_bnd (yt_fX10_has x3_7 x4_17 s_18 ) (fun r_19 s_20 p_s_20 => ?_)
          have g_s_20 : FT_ s0 s_20 := (g_s_18).tr p_s_20
          refine pf_jn (fun k_22 => ∀ (s_21 : Sg), FT_ s0 s_21 → pf_ (k_22 s_21) Q) ?_ (fun k_22 hk_22 => ?_)
          · intro s_21 g_s_21
            try dsimp only
            refine pf_bv (fun v_23 e_v_23 => ?_)
            clear e_v_23
            exact hrec49 v_23 s_21 g_s_21
          refine pf_if ?_ ?_
          · skip
            exact hk_22 s_20 g_s_20
          · skip
            refine pf_chk (fun _ => ?_)
            refine pf_if ?_ ?_
            · skip
              exact hk_22 s_20 g_s_20
            · skip
              refine pf_chk (fun _ => ?_)
              refine pf_bv (fun s_26 e_s_26 => ?_)
              have g_s_26 : FT_ s0 s_26 := by rw [e_s_26]; exact FT_.sl g_s_20
              clear e_s_26
              exact hk_22 s_26 g_s_26
      refine pf_if ?_ ?_
      · skip
        exact hk_11 x3_7 1 
      · skip
        exact hk_11 x3_7 0 
set_option maxRecDepth 100000 in
theorem yt_fX10_by_ (a1 : Int32) (a2 : Int32) (s0 : Sg)  : pf_ (fX10_by_ a1 a2 s0) (fun q => FT_ s0 q.2) := by
  generalize hQ0 : (fun q : (Int32 × Sg) => FT_ s0 q.2) = Q
  have hQ : ∀ r {x : Sg}, FT_ s0 x → Q (r, x) := fun r x h => by rw [← hQ0]; exact h
  clear hQ0
  unfold fX10_by_
  refine pf_bv (fun v_1 e_v_1 => ?_)
  clear e_v_1
  refine pf_chk (fun _ => ?_)
  refine pf_if ?_ ?_
  · skip
    exact pf_some (hQ _ FT_.rf)
  · skip
    refine pf_if ?_ ?_
    · skip
      exact pf_some (hQ _ FT_.rf)
    · skip
      exact pf_some (hQ _ FT_.rf)
set_option maxRecDepth 100000 in
theorem yt_fX10_findLeft (s0 : Sg)  : pf_ (fX10_findLeft s0) (fun q => FT_ s0 q) := by
  generalize hQ0 : (fun q : (Sg) => FT_ s0 q) = Q
  have hQ : ∀ (_ : Unit) {x : Sg}, FT_ s0 x → Q x := fun _ x h => by rw [← hQ0]; exact h
  clear hQ0
  unfold fX10_findLeft
  refine pf_bv (fun v_1 e_v_1 => ?_)
  clear e_v_1
  refine pf_lo2 (fun (_ : Int32) s_3 => FT_ s0 s_3) ?_ FU v_1 s0 FT_.rf
  intro rec11 x2_2 s_3 g_s_3 hr0_
  have hrec11 : ∀ (x2_2 : Int32) (s_3 : Sg), FT_ s0 s_3 → pf_ (rec11 x2_2 s_3) Q := fun x2_2 s_3 z_s_3 => hr0_ x2_2 s_3 z_s_3
  clear hr0_
  unfold fX10_findLeft_11_b
  refine pf_if ?_ ?_
  · skip
    exact pf_some (hQ () g_s_3)
  · skip
    refine pf_jn (fun k_6 => ∀ (y_4 : Int32) (y_5 : Int32), pf_ (k_6 y_4 y_5) Q) ?_ (fun k_6 hk_6 => ?_)
    · intro y_4 y_5
      try dsimp only
      refine pf_chk (fun _ => ?_)
      refine pf_bv (fun s_8 e_s_8 => ?_)
      have g_s_8 : FT_ s0 s_8 := by rw [e_s_8]; exact FT_.si g_s_3 rfl
      clear e_s_8
      refine pf_jn (fun k_10 => ∀ (s_9 : Sg), FT_ s0 s_9 → pf_ (k_10 s_9) Q) ?_ (fun k_10 hk_10 => ?_)
      · intro s_9 g_s_9
        try dsimp only
        refine pf_bv (fun v_11 e_v_11 => ?_)
        clear e_v_11
        exact hrec11 v_11 s_9 g_s_9
      refine pf_lo2 (fun (_ : Int32) s_13 => FT_ s0 s_13) ?_ FU 0 s_8 g_s_8
      intro rec35 x3_12 s_13 g_s_13 hr0_
      have hrec35 : ∀ (x3_12 : Int32) (s_13 : Sg), FT_ s0 s_13 → pf_ (rec35 x3_12 s_13) Q := fun x3_12 s_13 z_s_13 => hr0_ x3_12 s_13 z_s_13
      clear hr0_
      unfold fX10_findLeft_35_b
      refine pf_if ?_ ?_
      · skip
        exact hk_10 s_13 g_s_13
      · skip
        refine pf_bnd (yt_fX10_has x2_2 x3_12 s_13 ) (fun r_14 s_15 p_s_15 => ?_)
        have g_s_15 : FT_ s0 s_15 := (g_s_13).tr p_s_15
        refine pf_jn (fun k_17 => ∀ (s_16 : Sg), FT_ s0 s_16 → pf_ (k_17 s_16) Q) ?_ (fun k_17 hk_17 => ?_)
        · intro s_16 g_s_16
          try dsimp only
          refine pf_bv (fun v_18 e_v_18 => ?_)
          clear e_v_18
          exact hrec35 v_18 s_16 g_s_16
        refine pf_if ?_ ?_
        · skip
          refine pf_bnd (yt_fX10_by_ x2_2 x3_12 s_15 ) (fun r_19 s_20 p_s_20 => ?_)
          have g_s_20 : FT_ s0 s_20 := (g_s_15).tr p_s_20
          refine pf_chk (fun _ => ?_)
          refine pf_if ?_ ?_
          · skip
            exact hk_17 s_20 g_s_20
          · skip
            refine pf_bnd (yt_fX10_by_ x2_2 x3_12 s_20 ) (fun r_22 s_23 p_s_23 => ?_)
            have g_s_23 : FT_ s0 s_23 := (g_s_20).tr p_s_23
            refine pf_bv (fun s_24 e_s_24 => ?_)
            have g_s_24 : FT_ s0 s_24 := by rw [e_s_24]; exact FT_.si g_s_23 rfl
            clear e_s_24
            exact hk_17 s_24 g_s_24
        · skip
          exact hk_17 s_15 g_s_15
    refine pf_if ?_ ?_
    · skip
      exact hk_6 x2_2 0 
    · skip
      exact hk_6 x2_2 100000000 
set_option maxRecDepth 100000 in
theorem yt_fX10_gentle (a1 : Int32) (a2 : Int32) (a3 : Int32) (s0 : Sg)  : pf_ (fX10_gentle a1 a2 a3 s0) (fun q => FT_ s0 q.2) := by
  generalize hQ0 : (fun q : (Int32 × Sg) => FT_ s0 q.2) = Q
  have hQ : ∀ r {x : Sg}, FT_ s0 x → Q (r, x) := fun r x h => by rw [← hQ0]; exact h
  clear hQ0
  unfold fX10_gentle
  refine pf_bnd (yt_fX10_areAsked a1 a2 s0 ) (fun r_1 s_2 p_s_2 => ?_)
  have g_s_2 : FT_ s0 s_2 := (FT_.rf).tr p_s_2
  refine pf_if ?_ ?_
  · skip
    exact pf_some (hQ _ g_s_2)
  · skip
    refine pf_if ?_ ?_
    · skip
      refine pf_bnv (yt_fX10_findLoads a1 a2 s_2 ) (fun s_3 p_s_3 => ?_)
      have g_s_3 : FT_ s0 s_3 := (g_s_2).tr p_s_3
      refine pf_bnv (yt_fX10_findLeft s_3 ) (fun s_4 p_s_4 => ?_)
      have g_s_4 : FT_ s0 s_4 := (g_s_3).tr p_s_4
      refine pf_if ?_ ?_
      · skip
        exact pf_some (hQ _ g_s_4)
      · skip
        refine pf_if ?_ ?_
        · skip
          refine pf_if ?_ ?_
          · skip
            exact pf_some (hQ _ g_s_4)
          · skip
            refine pf_jn (fun k_7 => ∀ (x5_5 : Int32) (s_6 : Sg), FT_ s0 s_6 → pf_ (k_7 x5_5 s_6) Q) ?_ (fun k_7 hk_7 => ?_)
            · intro x5_5 s_6 g_s_6
              try dsimp only
              refine pf_chk (fun _ => ?_)
              exact pf_some (hQ _ g_s_6)
            refine pf_lo4 (fun (_ : Int32) (_ : Int32) (_ : Int32) s_12 => FT_ s0 s_12) ?_ FU 0 0 0 s_4 g_s_4
            intro rec69 x4_9 x5_10 x6_11 s_12 g_s_12 hr0_
            have hrec69 : ∀ (x4_9 : Int32) (x5_10 : Int32) (x6_11 : Int32) (s_12 : Sg), FT_ s0 s_12 → pf_ (rec69 x4_9 x5_10 x6_11 s_12) Q := fun x4_9 x5_10 x6_11 s_12 z_s_12 => hr0_ x4_9 x5_10 x6_11 s_12 z_s_12
            clear hr0_
            unfold fX10_gentle_69_b
            refine pf_if ?_ ?_
            · skip
              exact hk_7 x5_10 s_12 g_s_12
            · skip
              refine pf_jn (fun k_15 => ∀ (x5_13 : Int32) (s_14 : Sg), FT_ s0 s_14 → pf_ (k_15 x5_13 s_14) Q) ?_ (fun k_15 hk_15 => ?_)
              · intro x5_13 s_14 g_s_14
                try dsimp only
                refine pf_bv (fun v_16 e_v_16 => ?_)
                clear e_v_16
                refine pf_bv (fun v_17 e_v_17 => ?_)
                clear e_v_17
                exact hrec69 v_16 x5_13 v_17 s_14 g_s_14
              refine pf_lo2 (fun (_ : Int32) s_19 => FT_ s0 s_19) ?_ FU 0 s_12 g_s_12
              intro rec78 x5_18 s_19 g_s_19 hr0_
              have hrec78 : ∀ (x5_18 : Int32) (s_19 : Sg), FT_ s0 s_19 → pf_ (rec78 x5_18 s_19) Q := fun x5_18 s_19 z_s_19 => hr0_ x5_18 s_19 z_s_19
              clear hr0_
              unfold fX10_gentle_78_b
              refine pf_bnd (yt_fX10_has x4_9 x5_18 s_19 ) (fun r_20 s_21 p_s_21 => ?_)
              have g_s_21 : FT_ s0 s_21 := (g_s_19).tr p_s_21
              refine pf_jn (fun k_23 => ∀ (s_22 : Sg), FT_ s0 s_22 → pf_ (k_23 s_22) Q) ?_ (fun k_23 hk_23 => ?_)
              · intro s_22 g_s_22
                try dsimp only
                refine pf_bv (fun v_24 e_v_24 => ?_)
                clear e_v_24
                exact hrec78 v_24 s_22 g_s_22
              refine pf_if ?_ ?_
              · skip
                refine pf_bnd (yt_fX10_by_ x4_9 x5_18 s_21 ) (fun r_25 s_26 p_s_26 => ?_)
                have g_s_26 : FT_ s0 s_26 := (g_s_21).tr p_s_26
                refine pf_if ?_ ?_
                · skip
                  exact hk_15 x5_18 s_26 g_s_26
                · skip
                  exact hk_23 s_26 g_s_26
              · skip
                exact hk_23 s_21 g_s_21
        · skip
          exact pf_some (hQ _ g_s_4)
    · skip
      exact pf_some (hQ _ g_s_2)
set_option maxRecDepth 100000 in
theorem yt_fX10_reading (a1 : Int32) (a2 : Int32) (s0 : Sg)  : pf_ (fX10_reading a1 a2 s0) (fun q => FT_ s0 q.2) := by
  generalize hQ0 : (fun q : (Int32 × Sg) => FT_ s0 q.2) = Q
  have hQ : ∀ r {x : Sg}, FT_ s0 x → Q (r, x) := fun r x h => by rw [← hQ0]; exact h
  clear hQ0
  unfold fX10_reading
  refine pf_bnd (yt_fX10_isIn a1 0 1 s0 ) (fun r_1 s_2 p_s_2 => ?_)
  have g_s_2 : FT_ s0 s_2 := (FT_.rf).tr p_s_2
  refine pf_if ?_ ?_
  · skip
    exact pf_some (hQ _ g_s_2)
  · skip
    refine pf_bnd (yt_fX10_isIn a2 0 2 s_2 ) (fun r_3 s_4 p_s_4 => ?_)
    have g_s_4 : FT_ s0 s_4 := (g_s_2).tr p_s_4
    refine pf_if ?_ ?_
    · skip
      exact pf_some (hQ _ g_s_4)
    · skip
      refine pf_if ?_ ?_
      · skip
        exact pf_some (hQ _ g_s_4)
      · skip
        refine pf_bv (fun v_5 e_v_5 => ?_)
        clear e_v_5
        refine pf_chk (fun _ => ?_)
        refine pf_bv (fun s_7 e_s_7 => ?_)
        have g_s_7 : FT_ s0 s_7 := by rw [e_s_7]; exact FT_.si g_s_4 rfl
        clear e_s_7
        refine pf_chk (fun _ => ?_)
        refine pf_bv (fun s_9 e_s_9 => ?_)
        have g_s_9 : FT_ s0 s_9 := by rw [e_s_9]; exact FT_.si g_s_7 rfl
        clear e_s_9
        refine pf_chk (fun _ => ?_)
        refine pf_bv (fun s_11 e_s_11 => ?_)
        have g_s_11 : FT_ s0 s_11 := by rw [e_s_11]; exact FT_.si g_s_9 rfl
        clear e_s_11
        refine pf_chk (fun _ => ?_)
        refine pf_bv (fun s_13 e_s_13 => ?_)
        have g_s_13 : FT_ s0 s_13 := by rw [e_s_13]; exact FT_.si g_s_11 rfl
        clear e_s_13
        refine pf_chk (fun _ => ?_)
        refine pf_bv (fun s_15 e_s_15 => ?_)
        have g_s_15 : FT_ s0 s_15 := by rw [e_s_15]; exact FT_.si g_s_13 rfl
        clear e_s_15
        refine pf_chk (fun _ => ?_)
        refine pf_bv (fun s_17 e_s_17 => ?_)
        have g_s_17 : FT_ s0 s_17 := by rw [e_s_17]; exact FT_.si g_s_15 rfl
        clear e_s_17
        refine pf_chk (fun _ => ?_)
        refine pf_bv (fun s_19 e_s_19 => ?_)
        have g_s_19 : FT_ s0 s_19 := by rw [e_s_19]; exact FT_.si g_s_17 rfl
        clear e_s_19
        refine pf_chk (fun _ => ?_)
        refine pf_bv (fun s_21 e_s_21 => ?_)
        have g_s_21 : FT_ s0 s_21 := by rw [e_s_21]; exact FT_.si g_s_19 rfl
        clear e_s_21
        refine pf_bnv (yt_fX10_nameNow s_21 ) (fun s_22 p_s_22 => ?_)
        have g_s_22 : FT_ s0 s_22 := (g_s_21).tr p_s_22
        refine pf_bnd (yt_fX10_load 0 s_22 ) (fun r_23 s_24 p_s_24 => ?_)
        have g_s_24 : FT_ s0 s_24 := (g_s_22).tr p_s_24
        refine pf_chk (fun _ => ?_)
        refine pf_bv (fun s_26 e_s_26 => ?_)
        have g_s_26 : FT_ s0 s_26 := by rw [e_s_26]; exact FT_.si g_s_24 rfl
        clear e_s_26
        refine pf_bnd (yt_fX10_load 1 s_26 ) (fun r_27 s_28 p_s_28 => ?_)
        have g_s_28 : FT_ s0 s_28 := (g_s_26).tr p_s_28
        refine pf_chk (fun _ => ?_)
        refine pf_bv (fun s_30 e_s_30 => ?_)
        have g_s_30 : FT_ s0 s_30 := by rw [e_s_30]; exact FT_.si g_s_28 rfl
        clear e_s_30
        refine pf_bv (fun s_31 e_s_31 => ?_)
        have g_s_31 : FT_ s0 s_31 := by rw [e_s_31]; exact FT_.si g_s_30 rfl
        clear e_s_31
        exact pf_some (hQ _ g_s_31)
set_option maxRecDepth 100000 in
theorem yt_fX10_forget (s0 : Sg)  : pf_ (fX10_forget s0) (fun q => FT_ s0 q.2) := by
  generalize hQ0 : (fun q : (Int32 × Sg) => FT_ s0 q.2) = Q
  have hQ : ∀ r {x : Sg}, FT_ s0 x → Q (r, x) := fun r x h => by rw [← hQ0]; exact h
  clear hQ0
  unfold fX10_forget
  refine pf_bv (fun v_1 e_v_1 => ?_)
  clear e_v_1
  refine pf_bv (fun s_2 e_s_2 => ?_)
  have g_s_2 : FT_ s0 s_2 := by rw [e_s_2]; exact FT_.si FT_.rf rfl
  clear e_s_2
  exact pf_some (hQ _ g_s_2)
set_option maxRecDepth 100000 in
theorem yt_fX10_borneBy (a1 : Int32) (a2 : Int32) (s0 : Sg)  : pf_ (fX10_borneBy a1 a2 s0) (fun q => FT_ s0 q.2) := by
  generalize hQ0 : (fun q : (Int32 × Sg) => FT_ s0 q.2) = Q
  have hQ : ∀ r {x : Sg}, FT_ s0 x → Q (r, x) := fun r x h => by rw [← hQ0]; exact h
  clear hQ0
  unfold fX10_borneBy
  refine pf_bv (fun v_1 e_v_1 => ?_)
  clear e_v_1
  refine pf_chk (fun _ => ?_)
  refine pf_chk (fun _ => ?_)
  refine pf_chk (fun _ => ?_)
  refine pf_bnv (yt_fX10_name (gi s0 28 (ix (v_1 + 2))) (gi s0 28 (ix (v_1 + 3))) (gi s0 28 (ix (v_1 + 4))) s0 ) (fun s_5 p_s_5 => ?_)
  have g_s_5 : FT_ s0 s_5 := (FT_.rf).tr p_s_5
  refine pf_chk (fun _ => ?_)
  refine pf_bnd (yt_fX10_borne 12 a2 0 (gi s_5 28 (ix v_1)) s_5 ) (fun r_7 s_8 p_s_8 => ?_)
  have g_s_8 : FT_ s0 s_8 := (g_s_5).tr p_s_8
  exact pf_some (hQ _ g_s_8)
set_option maxRecDepth 100000 in
theorem yt_fX10_isRead (a1 : Int32) (a2 : Int32) (a3 : Int32) (a4 : Int32) (s0 : Sg)  : pf_ (fX10_isRead a1 a2 a3 a4 s0) (fun q => FT_ s0 q.2) := by
  generalize hQ0 : (fun q : (Bool × Sg) => FT_ s0 q.2) = Q
  have hQ : ∀ r {x : Sg}, FT_ s0 x → Q (r, x) := fun r x h => by rw [← hQ0]; exact h
  clear hQ0
  unfold fX10_isRead
  refine pf_bv (fun v_1 e_v_1 => ?_)
  clear e_v_1
  refine pf_chk (fun _ => ?_)
  refine pf_chk (fun _ => ?_)
  refine pf_jn (fun k_6 => ∀ (y_4 : Int32) (y_5 : Int32), pf_ (k_6 y_4 y_5) Q) ?_ (fun k_6 hk_6 => ?_)
  · intro y_4 y_5
    try dsimp only
    refine pf_bv (fun v_7 e_v_7 => ?_)
    clear e_v_7
    refine pf_chk (fun _ => ?_)
    refine pf_chk (fun _ => ?_)
    refine pf_jn (fun k_12 => ∀ (y_10 : Int32) (y_11 : Int32), pf_ (k_12 y_10 y_11) Q) ?_ (fun k_12 hk_12 => ?_)
    · intro y_10 y_11
      try dsimp only
      refine pf_bv (fun v_13 e_v_13 => ?_)
      clear e_v_13
      refine pf_chk (fun _ => ?_)
      refine pf_chk (fun _ => ?_)
      refine pf_bnd (yt_fX10_beamBy (((a3 * v_7) - (a4 * v_13)) + (10 * (gi s0 28 (ix (v_1 + 4))))) (gi s0 28 (ix (v_1 + 7))) s0 ) (fun r_16 s_17 p_s_17 => ?_)
      have g_s_17 : FT_ s0 s_17 := (FT_.rf).tr p_s_17
      refine pf_chk (fun _ => ?_)
      refine pf_if ?_ ?_
      · skip
        exact pf_some (hQ _ g_s_17)
      · skip
        exact pf_some (hQ _ g_s_17)
    refine pf_if ?_ ?_
    · skip
      exact hk_12 (gi s0 28 (ix (v_1 + 9))) a2 
    · skip
      exact hk_12 (gi s0 28 (ix (v_1 + 9))) 0 
  refine pf_if ?_ ?_
  · skip
    exact hk_6 (gi s0 28 (ix (v_1 + 8))) a2 
  · skip
    exact hk_6 (gi s0 28 (ix (v_1 + 8))) 0 
set_option maxRecDepth 100000 in
theorem yt_fX10_areRead (a1 : Int32) (s0 : Sg)  : pf_ (fX10_areRead a1 s0) (fun q => FT_ s0 q.2) := by
  generalize hQ0 : (fun q : (Bool × Sg) => FT_ s0 q.2) = Q
  have hQ : ∀ r {x : Sg}, FT_ s0 x → Q (r, x) := fun r x h => by rw [← hQ0]; exact h
  clear hQ0
  unfold fX10_areRead
  refine pf_lo2 (fun (_ : Int32) s_2 => FT_ s0 s_2) ?_ FU 0 s0 FT_.rf
  intro rec2 x2_1 s_2 g_s_2 hr0_
  have hrec2 : ∀ (x2_1 : Int32) (s_2 : Sg), FT_ s0 s_2 → pf_ (rec2 x2_1 s_2) Q := fun x2_1 s_2 z_s_2 => hr0_ x2_1 s_2 z_s_2
  clear hr0_
  unfold fX10_areRead_2_b
  refine pf_if ?_ ?_
  · skip
    exact pf_some (hQ _ g_s_2)
  · skip
    refine pf_bnd (yt_fX10_borneBy x2_1 a1 s_2 ) (fun r_3 s_4 p_s_4 => ?_)
    have g_s_4 : FT_ s0 s_4 := (g_s_2).tr p_s_4
    refine pf_chk (fun _ => ?_)
    refine pf_chk (fun _ => ?_)
    refine pf_bnd (yt_fX10_isRead x2_1 r_3 (gi s_4 28 (ix ((55 + (10 * x2_1)) + 5))) (gi s_4 28 (ix ((55 + (10 * x2_1)) + 6))) s_4 ) (fun r_7 s_8 p_s_8 => ?_)
    have g_s_8 : FT_ s0 s_8 := (g_s_4).tr p_s_8
    refine pf_if ?_ ?_
    · skip
      exact pf_some (hQ _ g_s_8)
    · skip
      refine pf_bv (fun v_9 e_v_9 => ?_)
      clear e_v_9
      exact hrec2 v_9 s_8 g_s_8
set_option maxRecDepth 100000 in
theorem yt_fX10_span (a1 : Int32) (s0 : Sg)  : pf_ (fX10_span a1 s0) (fun q => FT_ s0 q.2) := by
  generalize hQ0 : (fun q : (Int32 × Sg) => FT_ s0 q.2) = Q
  have hQ : ∀ r {x : Sg}, FT_ s0 x → Q (r, x) := fun r x h => by rw [← hQ0]; exact h
  clear hQ0
  unfold fX10_span
  refine pf_bnd (yt_fX10_isIn a1 0 2 s0 ) (fun r_1 s_2 p_s_2 => ?_)
  have g_s_2 : FT_ s0 s_2 := (FT_.rf).tr p_s_2
  refine pf_if ?_ ?_
  · skip
    exact pf_some (hQ _ g_s_2)
  · skip
    refine pf_jn (fun k_7 => ∀ (x2_3 : Int32) (x3_4 : Int32) (x4_5 : Int32) (s_6 : Sg), FT_ s0 s_6 → pf_ (k_7 x2_3 x3_4 x4_5 s_6) Q) ?_ (fun k_7 hk_7 => ?_)
    · intro x2_3 x3_4 x4_5 s_6 g_s_6
      try dsimp only
      refine pf_if ?_ ?_
      · skip
        exact pf_some (hQ _ g_s_6)
      · skip
        refine pf_if ?_ ?_
        · skip
          exact pf_some (hQ _ g_s_6)
        · skip
          exact pf_some (hQ _ g_s_6)
    refine pf_lo5 (fun (_ : Int32) (_ : Int32) (_ : Int32) (_ : Int32) s_12 => FT_ s0 s_12) ?_ FU 0 (-1) (-1) 1 s_2 g_s_2
    intro rec21 x2_8 x3_9 x4_10 x5_11 s_12 g_s_12 hr0_
    have hrec21 : ∀ (x2_8 : Int32) (x3_9 : Int32) (x4_10 : Int32) (x5_11 : Int32) (s_12 : Sg), FT_ s0 s_12 → pf_ (rec21 x2_8 x3_9 x4_10 x5_11 s_12) Q := fun x2_8 x3_9 x4_10 x5_11 s_12 z_s_12 => hr0_ x2_8 x3_9 x4_10 x5_11 s_12 z_s_12
    clear hr0_
    unfold fX10_span_21_b
    refine pf_if ?_ ?_
    · skip
      exact hk_7 x2_8 x3_9 x4_10 s_12 g_s_12
    · skip
      refine pf_bnd (yt_fX10_areRead x5_11 s_12 ) (fun r_13 s_14 p_s_14 => ?_)
      have g_s_14 : FT_ s0 s_14 := (g_s_12).tr p_s_14
      refine pf_jn (fun k_18 => ∀ (x2_15 : Int32) (x3_16 : Int32) (x4_17 : Int32), pf_ (k_18 x2_15 x3_16 x4_17) Q) ?_ (fun k_18 hk_18 => ?_)
      · intro x2_15 x3_16 x4_17
        try dsimp only
        refine pf_bv (fun v_19 e_v_19 => ?_)
        clear e_v_19
        exact hrec21 x2_15 x3_16 x4_17 v_19 s_14 g_s_14
      refine pf_if ?_ ?_
      · skip
        exact hk_18 x2_8 x3_9 x4_10 
      · skip
        refine pf_bv (fun v_20 e_v_20 => ?_)
        clear e_v_20
        refine pf_jn (fun k_22 => ∀ (y_21 : Int32), pf_ (k_22 y_21) Q) ?_ (fun k_22 hk_22 => ?_)
        · intro y_21
          try dsimp only
          exact hk_18 v_20 y_21 x5_11 
        refine pf_if ?_ ?_
        · skip
          exact hk_22 x3_9 
        · skip
          exact hk_22 x5_11 
set_option maxRecDepth 100000 in
theorem yt_fX10_bent (a1 : Int32) (a2 : Int32) (s0 : Sg)  : pf_ (fX10_bent a1 a2 s0) (fun q => FT_ s0 q.2) := by
  generalize hQ0 : (fun q : (Int32 × Sg) => FT_ s0 q.2) = Q
  have hQ : ∀ r {x : Sg}, FT_ s0 x → Q (r, x) := fun r x h => by rw [← hQ0]; exact h
  clear hQ0
  unfold fX10_bent
  refine pf_bnd (yt_fX10_isIn a1 1 999 s0 ) (fun r_1 s_2 p_s_2 => ?_)
  have g_s_2 : FT_ s0 s_2 := (FT_.rf).tr p_s_2
  refine pf_if ?_ ?_
  · skip
    exact pf_some (hQ _ g_s_2)
  · skip
    refine pf_bnd (yt_fX10_isIn a2 0 1 s_2 ) (fun r_3 s_4 p_s_4 => ?_)
    have g_s_4 : FT_ s0 s_4 := (g_s_2).tr p_s_4
    refine pf_if ?_ ?_
    · skip
      exact pf_some (hQ _ g_s_4)
    · skip
      refine pf_jn (fun k_6 => ∀ (s_5 : Sg), FT_ s0 s_5 → pf_ (k_6 s_5) Q) ?_ (fun k_6 hk_6 => ?_)
      · intro s_5 g_s_5
        try dsimp only
        refine pf_jn (fun k_10 => ∀ (x3_7 : Int32) (x4_8 : Int32) (s_9 : Sg), FT_ s0 s_9 → pf_ (k_10 x3_7 x4_8 s_9) Q) ?_ (fun k_10 hk_10 => ?_)
        · intro x3_7 x4_8 s_9 g_s_9
          try dsimp only
          refine pf_if ?_ ?_
          · skip
            exact pf_some (hQ _ g_s_9)
          · skip
            exact pf_some (hQ _ g_s_9)
        refine pf_lo4 (fun (_ : Int32) (_ : Int32) (_ : Int32) s_14 => FT_ s0 s_14) ?_ FU 0 (-1) 1 s_5 g_s_5
        intro rec61 x3_11 x4_12 x5_13 s_14 g_s_14 hr0_
        have hrec61 : ∀ (x3_11 : Int32) (x4_12 : Int32) (x5_13 : Int32) (s_14 : Sg), FT_ s0 s_14 → pf_ (rec61 x3_11 x4_12 x5_13 s_14) Q := fun x3_11 x4_12 x5_13 s_14 z_s_14 => hr0_ x3_11 x4_12 x5_13 s_14 z_s_14
        clear hr0_
        unfold fX10_bent_61_b
        refine pf_if ?_ ?_
        · skip
          exact hk_10 x3_11 x4_12 s_14 g_s_14
        · skip
          refine pf_jn (fun k_18 => ∀ (x3_15 : Int32) (x4_16 : Int32) (s_17 : Sg), FT_ s0 s_17 → pf_ (k_18 x3_15 x4_16 s_17) Q) ?_ (fun k_18 hk_18 => ?_)
          · intro x3_15 x4_16 s_17 g_s_17
            try dsimp only
            refine pf_bv (fun v_19 e_v_19 => ?_)
            clear e_v_19
            exact hrec61 x3_15 x4_16 v_19 s_17 g_s_17
          refine pf_lo4 (fun (_ : Int32) (_ : Int32) (_ : Int32) s_23 => FT_ s0 s_23) ?_ FU x3_11 x4_12 1 s_14 g_s_14
          intro rec71 x3_20 x4_21 x6_22 s_23 g_s_23 hr0_
          have hrec71 : ∀ (x3_20 : Int32) (x4_21 : Int32) (x6_22 : Int32) (s_23 : Sg), FT_ s0 s_23 → pf_ (rec71 x3_20 x4_21 x6_22 s_23) Q := fun x3_20 x4_21 x6_22 s_23 z_s_23 => hr0_ x3_20 x4_21 x6_22 s_23 z_s_23
          clear hr0_
          unfold fX10_bent_71_b
          refine pf_if ?_ ?_
          · skip
            exact hk_18 x3_20 x4_21 s_23 g_s_23
          · skip
            refine pf_jn (fun k_26 => ∀ (x7_24 : Bool) (s_25 : Sg), FT_ s0 s_25 → pf_ (k_26 x7_24 s_25) Q) ?_ (fun k_26 hk_26 => ?_)
            · intro x7_24 s_25 g_s_25
              try dsimp only
              refine pf_jn (fun k_29 => ∀ (x3_27 : Int32) (x4_28 : Int32), pf_ (k_29 x3_27 x4_28) Q) ?_ (fun k_29 hk_29 => ?_)
              · intro x3_27 x4_28
                try dsimp only
                refine pf_bv (fun v_30 e_v_30 => ?_)
                clear e_v_30
                exact hrec71 x3_27 x4_28 v_30 s_25 g_s_25
              refine pf_if ?_ ?_
              · skip
                exact hk_29 x3_20 x4_21 
              · skip
                refine pf_bv (fun v_31 e_v_31 => ?_)
                clear e_v_31
                refine pf_jn (fun k_33 => ∀ (y_32 : Int32), pf_ (k_33 y_32) Q) ?_ (fun k_33 hk_33 => ?_)
                · intro y_32
                  try dsimp only
                  exact hk_29 v_31 y_32 
                refine pf_if ?_ ?_
                · skip
                  exact hk_33 x4_21 
                · skip
                  exact hk_33 ((100 * x5_13) + x6_22) 
            refine pf_lo3 (fun (_ : Bool) (_ : Int32) s_36 => FT_ s0 s_36) ?_ FU true 0 s_23 g_s_23
            intro rec84 x7_34 x8_35 s_36 g_s_36 hr0_
            have hrec84 : ∀ (x7_34 : Bool) (x8_35 : Int32) (s_36 : Sg), FT_ s0 s_36 → pf_ (rec84 x7_34 x8_35 s_36) Q := fun x7_34 x8_35 s_36 z_s_36 => hr0_ x7_34 x8_35 s_36 z_s_36
            clear hr0_
            unfold fX10_bent_84_b
            refine pf_if ?_ ?_
            · skip
              exact hk_26 x7_34 s_36 g_s_36
            · skip
              refine pf_jn (fun k_39 => ∀ (y_37 : Bool) (s_38 : Sg), FT_ s0 s_38 → pf_ (k_39 y_37 s_38) Q) ?_ (fun k_39 hk_39 => ?_)
              · intro y_37 s_38 g_s_38
                try dsimp only
                refine pf_bv (fun v_40 e_v_40 => ?_)
                clear e_v_40
                exact hrec84 y_37 v_40 s_38 g_s_38
              refine pf_jn (fun k_42 => ∀ (s_41 : Sg), FT_ s0 s_41 → pf_ (k_42 s_41) Q) ?_ (fun k_42 hk_42 => ?_)
              · intro s_41 g_s_41
                try dsimp only
                exact hk_39 false s_41 g_s_41
              refine pf_if ?_ ?_
              · skip
                exact hk_42 s_36 g_s_36
              · skip
                refine pf_chk (fun _ => ?_)
                refine pf_bnd (yt_fX10_isRead x8_35 (gi s_36 42 (ix x8_35)) x5_13 x6_22 s_36 ) (fun r_44 s_45 p_s_45 => ?_)
                have g_s_45 : FT_ s0 s_45 := (g_s_36).tr p_s_45
                refine pf_if ?_ ?_
                · skip
                  exact hk_42 s_45 g_s_45
                · skip
                  exact hk_39 true s_45 g_s_45
      refine pf_lo2 (fun (_ : Int32) s_47 => FT_ s0 s_47) ?_ FU 0 s_4 g_s_4
      intro rec24 x3_46 s_47 g_s_47 hr0_
      have hrec24 : ∀ (x3_46 : Int32) (s_47 : Sg), FT_ s0 s_47 → pf_ (rec24 x3_46 s_47) Q := fun x3_46 s_47 z_s_47 => hr0_ x3_46 s_47 z_s_47
      clear hr0_
      unfold fX10_bent_24_b
      refine pf_if ?_ ?_
      · skip
        exact hk_6 s_47 g_s_47
      · skip
        refine pf_bnd (yt_fX10_borneBy x3_46 a1 s_47 ) (fun r_48 s_49 p_s_49 => ?_)
        have g_s_49 : FT_ s0 s_49 := (g_s_47).tr p_s_49
        refine pf_chk (fun _ => ?_)
        refine pf_bv (fun s_51 e_s_51 => ?_)
        have g_s_51 : FT_ s0 s_51 := by rw [e_s_51]; exact FT_.si g_s_49 rfl
        clear e_s_51
        refine pf_bv (fun v_52 e_v_52 => ?_)
        clear e_v_52
        exact hrec24 v_52 s_51 g_s_51
set_option maxRecDepth 100000 in
theorem yt_fX10_tryBalanced (a1 : Int32) (a2 : Int32) (s0 : Sg)  : pf_ (fX10_tryBalanced a1 a2 s0) (fun q => FT_ s0 q) := by
  generalize hQ0 : (fun q : (Sg) => FT_ s0 q) = Q
  have hQ : ∀ (_ : Unit) {x : Sg}, FT_ s0 x → Q x := fun _ x h => by rw [← hQ0]; exact h
  clear hQ0
  unfold fX10_tryBalanced
  refine pf_bnd (yt_fX10_bits a1 s0 ) (fun r_1 s_2 p_s_2 => ?_)
  have g_s_2 : FT_ s0 s_2 := (FT_.rf).tr p_s_2
  refine pf_jn (fun k_4 => ∀ (y_3 : Bool), pf_ (k_4 y_3) Q) ?_ (fun k_4 hk_4 => ?_)
  · intro y_3
    try dsimp only
    refine pf_if ?_ ?_
    · skip
      exact pf_some (hQ () g_s_2)
    · skip
      refine pf_bv (fun s_5 e_s_5 => ?_)
      have g_s_5 : FT_ s0 s_5 := by rw [e_s_5]; exact FT_.si g_s_2 rfl
      clear e_s_5
      refine pf_bv (fun s_6 e_s_6 => ?_)
      have g_s_6 : FT_ s0 s_6 := by rw [e_s_6]; exact FT_.si g_s_5 rfl
      clear e_s_6
      refine pf_bv (fun s_7 e_s_7 => ?_)
      have g_s_7 : FT_ s0 s_7 := by rw [e_s_7]; exact FT_.si g_s_6 rfl
      clear e_s_7
      exact pf_some (hQ () g_s_7)
  refine pf_jn (fun k_8 => pf_ k_8 Q) ?_ (fun k_8 hk_8 => ?_)
  · skip
    exact hk_4 true 
  refine pf_if ?_ ?_
  · skip
    exact hk_8  
  · skip
    refine pf_if ?_ ?_
    · skip
      exact hk_8  
    · skip
      refine pf_jn (fun k_9 => pf_ k_9 Q) ?_ (fun k_9 hk_9 => ?_)
      · skip
        exact hk_4 false 
      refine pf_if ?_ ?_
      · skip
        refine pf_if ?_ ?_
        · skip
          exact hk_8  
        · skip
          refine pf_if ?_ ?_
          · skip
            refine pf_if ?_ ?_
            · skip
              exact hk_9  
            · skip
              exact hk_8  
          · skip
            exact hk_9  
      · skip
        exact hk_9  
set_option maxRecDepth 100000 in
theorem yt_fX10_balanced (a1 : Int32) (a2 : Int32) (s0 : Sg)  : pf_ (fX10_balanced a1 a2 s0) (fun q => FT_ s0 q.2) := by
  generalize hQ0 : (fun q : (Int32 × Sg) => FT_ s0 q.2) = Q
  have hQ : ∀ r {x : Sg}, FT_ s0 x → Q (r, x) := fun r x h => by rw [← hQ0]; exact h
  clear hQ0
  unfold fX10_balanced
  refine pf_bnd (yt_fX10_isIn a1 1 999 s0 ) (fun r_1 s_2 p_s_2 => ?_)
  have g_s_2 : FT_ s0 s_2 := (FT_.rf).tr p_s_2
  refine pf_if ?_ ?_
  · skip
    exact pf_some (hQ _ g_s_2)
  · skip
    refine pf_bnd (yt_fX10_isIn a2 0 2 s_2 ) (fun r_3 s_4 p_s_4 => ?_)
    have g_s_4 : FT_ s0 s_4 := (g_s_2).tr p_s_4
    refine pf_if ?_ ?_
    · skip
      exact pf_some (hQ _ g_s_4)
    · skip
      refine pf_bv (fun v_5 e_v_5 => ?_)
      clear e_v_5
      refine pf_jn (fun k_7 => ∀ (s_6 : Sg), FT_ s0 s_6 → pf_ (k_7 s_6) Q) ?_ (fun k_7 hk_7 => ?_)
      · intro s_6 g_s_6
        try dsimp only
        refine pf_bv (fun s_8 e_s_8 => ?_)
        have g_s_8 : FT_ s0 s_8 := by rw [e_s_8]; exact FT_.si g_s_6 rfl
        clear e_s_8
        refine pf_jn (fun k_10 => ∀ (s_9 : Sg), FT_ s0 s_9 → pf_ (k_10 s_9) Q) ?_ (fun k_10 hk_10 => ?_)
        · intro s_9 g_s_9
          try dsimp only
          refine pf_if ?_ ?_
          · skip
            refine pf_chk (fun _ => ?_)
            exact pf_some (hQ _ g_s_9)
          · skip
            exact pf_some (hQ _ g_s_9)
        refine pf_lo2 (fun (_ : Int32) s_13 => FT_ s0 s_13) ?_ FU 1 s_8 g_s_8
        intro rec120 x4_12 s_13 g_s_13 hr0_
        have hrec120 : ∀ (x4_12 : Int32) (s_13 : Sg), FT_ s0 s_13 → pf_ (rec120 x4_12 s_13) Q := fun x4_12 s_13 z_s_13 => hr0_ x4_12 s_13 z_s_13
        clear hr0_
        unfold fX10_balanced_120_b
        refine pf_if ?_ ?_
        · skip
          exact hk_10 s_13 g_s_13
        · skip
          refine pf_jn (fun k_15 => ∀ (s_14 : Sg), FT_ s0 s_14 → pf_ (k_15 s_14) Q) ?_ (fun k_15 hk_15 => ?_)
          · intro s_14 g_s_14
            try dsimp only
            refine pf_bv (fun v_16 e_v_16 => ?_)
            clear e_v_16
            exact hrec120 v_16 s_14 g_s_14
          refine pf_jn (fun k_18 => ∀ (s_17 : Sg), FT_ s0 s_17 → pf_ (k_18 s_17) Q) ?_ (fun k_18 hk_18 => ?_)
          · intro s_17 g_s_17
            try dsimp only
            refine pf_lo2 (fun (_ : Int32) s_20 => FT_ s0 s_20) ?_ FU x4_12 s_17 g_s_17
            intro rec156 x5_19 s_20 g_s_20 hr0_
            have hrec156 : ∀ (x5_19 : Int32) (s_20 : Sg), FT_ s0 s_20 → pf_ (rec156 x5_19 s_20) Q := fun x5_19 s_20 z_s_20 => hr0_ x5_19 s_20 z_s_20
            clear hr0_
            unfold fX10_balanced_156_b
            refine pf_if ?_ ?_
            · skip
              exact hk_15 s_20 g_s_20
            · skip
              refine pf_bv (fun v_21 e_v_21 => ?_)
              clear e_v_21
              refine pf_chk (fun _ => ?_)
              refine pf_chk (fun _ => ?_)
              refine pf_if ?_ ?_
              · skip
                refine pf_bnv (yt_fX10_tryBalanced x4_12 v_21 s_20 ) (fun s_24 p_s_24 => ?_)
                have g_s_24 : FT_ s0 s_24 := (g_s_20).tr p_s_24
                exact hrec156 v_21 s_24 g_s_24
              · skip
                exact hrec156 v_21 s_20 g_s_20
          refine pf_if ?_ ?_
          · skip
            exact hk_18 s_13 g_s_13
          · skip
            refine pf_bnd (yt_fX10_bits x4_12 s_13 ) (fun r_25 s_26 p_s_26 => ?_)
            have g_s_26 : FT_ s0 s_26 := (g_s_13).tr p_s_26
            refine pf_if ?_ ?_
            · skip
              exact hk_18 s_26 g_s_26
            · skip
              exact hk_15 s_26 g_s_26
      refine pf_lo2 (fun (_ : Int32) s_28 => FT_ s0 s_28) ?_ FU 0 s_4 g_s_4
      intro rec36 x4_27 s_28 g_s_28 hr0_
      have hrec36 : ∀ (x4_27 : Int32) (s_28 : Sg), FT_ s0 s_28 → pf_ (rec36 x4_27 s_28) Q := fun x4_27 s_28 z_s_28 => hr0_ x4_27 s_28 z_s_28
      clear hr0_
      unfold fX10_balanced_36_b
      refine pf_if ?_ ?_
      · skip
        exact hk_7 s_28 g_s_28
      · skip
        refine pf_chk (fun _ => ?_)
        refine pf_bv (fun s_30 e_s_30 => ?_)
        have g_s_30 : FT_ s0 s_30 := by rw [e_s_30]; exact FT_.si g_s_28 rfl
        clear e_s_30
        refine pf_jn (fun k_32 => ∀ (s_31 : Sg), FT_ s0 s_31 → pf_ (k_32 s_31) Q) ?_ (fun k_32 hk_32 => ?_)
        · intro s_31 g_s_31
          try dsimp only
          refine pf_bv (fun v_33 e_v_33 => ?_)
          clear e_v_33
          exact hrec36 v_33 s_31 g_s_31
        refine pf_lo2 (fun (_ : Int32) s_35 => FT_ s0 s_35) ?_ FU 0 s_30 g_s_30
        intro rec53 x5_34 s_35 g_s_35 hr0_
        have hrec53 : ∀ (x5_34 : Int32) (s_35 : Sg), FT_ s0 s_35 → pf_ (rec53 x5_34 s_35) Q := fun x5_34 s_35 z_s_35 => hr0_ x5_34 s_35 z_s_35
        clear hr0_
        unfold fX10_balanced_53_b
        refine pf_if ?_ ?_
        · skip
          exact hk_32 s_35 g_s_35
        · skip
          refine pf_chk (fun _ => ?_)
          refine pf_bnd (yt_fX10_has x4_27 x5_34 s_35 ) (fun r_37 s_38 p_s_38 => ?_)
          have g_s_38 : FT_ s0 s_38 := (g_s_35).tr p_s_38
          refine pf_jn (fun k_43 => ∀ (y_39 : Int32) (y_40 : Int32) (y_41 : Int32) (s_42 : Sg), FT_ s0 s_42 → pf_ (k_43 y_39 y_40 y_41 s_42) Q) ?_ (fun k_43 hk_43 => ?_)
          · intro y_39 y_40 y_41 s_42 g_s_42
            try dsimp only
            refine pf_chk (fun _ => ?_)
            refine pf_bv (fun s_45 e_s_45 => ?_)
            have g_s_45 : FT_ s0 s_45 := by rw [e_s_45]; exact FT_.si g_s_42 rfl
            clear e_s_45
            refine pf_bv (fun v_46 e_v_46 => ?_)
            clear e_v_46
            exact hrec53 v_46 s_45 g_s_45
          refine pf_if ?_ ?_
          · skip
            exact hk_43 x4_27 (gi s_35 44 (ix x4_27)) 0 s_38 g_s_38
          · skip
            refine pf_bnd (yt_fX10_thingAt x5_34 s_38 ) (fun r_47 s_48 p_s_48 => ?_)
            have g_s_48 : FT_ s0 s_48 := (g_s_38).tr p_s_48
            refine pf_chk (fun _ => ?_)
            exact hk_43 x4_27 (gi s_35 44 (ix x4_27)) (gi s_48 28 (ix r_47)) s_48 g_s_48
set_option maxRecDepth 100000 in
theorem yt_fX10_makes (a1 : Int32) (a2 : Int32) (s0 : Sg)  : pf_ (fX10_makes a1 a2 s0) (fun q => FT_ s0 q.2) := by
  generalize hQ0 : (fun q : (Int32 × Sg) => FT_ s0 q.2) = Q
  have hQ : ∀ r {x : Sg}, FT_ s0 x → Q (r, x) := fun r x h => by rw [← hQ0]; exact h
  clear hQ0
  unfold fX10_makes
  refine pf_lo3 (fun (_ : Int32) (_ : Int32) s_3 => FT_ s0 s_3) ?_ FU 0 0 s0 FT_.rf
  intro rec5 x3_1 x4_2 s_3 g_s_3 hr0_
  have hrec5 : ∀ (x3_1 : Int32) (x4_2 : Int32) (s_3 : Sg), FT_ s0 s_3 → pf_ (rec5 x3_1 x4_2 s_3) Q := fun x3_1 x4_2 s_3 z_s_3 => hr0_ x3_1 x4_2 s_3 z_s_3
  clear hr0_
  unfold fX10_makes_5_b
  refine pf_if ?_ ?_
  · skip
    exact pf_some (hQ _ g_s_3)
  · skip
    refine pf_chk (fun _ => ?_)
    refine pf_jn (fun k_6 => ∀ (y_5 : Bool), pf_ (k_6 y_5) Q) ?_ (fun k_6 hk_6 => ?_)
    · intro y_5
      try dsimp only
      refine pf_chk (fun _ => ?_)
      refine pf_bv (fun s_8 e_s_8 => ?_)
      have g_s_8 : FT_ s0 s_8 := by rw [e_s_8]; exact FT_.si g_s_3 rfl
      clear e_s_8
      refine pf_jn (fun k_11 => ∀ (y_9 : Int32) (y_10 : Bool), pf_ (k_11 y_9 y_10) Q) ?_ (fun k_11 hk_11 => ?_)
      · intro y_9 y_10
        try dsimp only
        refine pf_bv (fun v_12 e_v_12 => ?_)
        clear e_v_12
        refine pf_bv (fun v_13 e_v_13 => ?_)
        clear e_v_13
        exact hrec5 v_12 v_13 s_8 g_s_8
      refine pf_if ?_ ?_
      · skip
        exact hk_11 x3_1 false 
      · skip
        exact hk_11 x3_1 true 
    refine pf_jn (fun k_14 => pf_ k_14 Q) ?_ (fun k_14 hk_14 => ?_)
    · skip
      exact hk_6 true 
    refine pf_if ?_ ?_
    · skip
      refine pf_jn (fun k_15 => pf_ k_15 Q) ?_ (fun k_15 hk_15 => ?_)
      · skip
        refine pf_jn (fun k_16 => pf_ k_16 Q) ?_ (fun k_16 hk_16 => ?_)
        · skip
          exact hk_6 false 
        refine pf_if ?_ ?_
        · skip
          exact hk_16  
        · skip
          refine pf_chk (fun _ => ?_)
          refine pf_if ?_ ?_
          · skip
            exact hk_16  
          · skip
            exact hk_14  
      refine pf_if ?_ ?_
      · skip
        exact hk_15  
      · skip
        refine pf_chk (fun _ => ?_)
        refine pf_if ?_ ?_
        · skip
          exact hk_15  
        · skip
          exact hk_14  
    · skip
      exact hk_14  
set_option maxRecDepth 100000 in
theorem yt_fX10_isAll (a1 : Int32) (a2 : Int32) (s0 : Sg)  : pf_ (fX10_isAll a1 a2 s0) (fun q => FT_ s0 q.2) := by
  generalize hQ0 : (fun q : (Bool × Sg) => FT_ s0 q.2) = Q
  have hQ : ∀ r {x : Sg}, FT_ s0 x → Q (r, x) := fun r x h => by rw [← hQ0]; exact h
  clear hQ0
  unfold fX10_isAll
  refine pf_lo1 (fun (_ : Int32) => True) ?_ FU 1 trivial
  intro rec2 x3_1 _ hr0_
  have hrec2 : ∀ (x3_1 : Int32), pf_ (rec2 x3_1) Q := fun x3_1 => hr0_ x3_1 trivial
  clear hr0_
  unfold fX10_isAll_2_b
  refine pf_if ?_ ?_
  · skip
    exact pf_some (hQ _ FT_.rf)
  · skip
    refine pf_chk (fun _ => ?_)
    refine pf_if ?_ ?_
    · skip
      exact pf_some (hQ _ FT_.rf)
    · skip
      refine pf_bv (fun v_3 e_v_3 => ?_)
      clear e_v_3
      exact hrec2 v_3 
set_option maxRecDepth 100000 in
theorem yt_fX10_chooses (a1 : Int32) (a2 : Int32) (s0 : Sg)  : pf_ (fX10_chooses a1 a2 s0) (fun q => FT_ s0 q.2) := by
  generalize hQ0 : (fun q : (Bool × Sg) => FT_ s0 q.2) = Q
  have hQ : ∀ r {x : Sg}, FT_ s0 x → Q (r, x) := fun r x h => by rw [← hQ0]; exact h
  clear hQ0
  unfold fX10_chooses
  refine pf_bv (fun s_1 e_s_1 => ?_)
  have g_s_1 : FT_ s0 s_1 := by rw [e_s_1]; exact FT_.si FT_.rf rfl
  clear e_s_1
  refine pf_bv (fun s_2 e_s_2 => ?_)
  have g_s_2 : FT_ s0 s_2 := by rw [e_s_2]; exact FT_.si g_s_1 rfl
  clear e_s_2
  refine pf_lo2 (fun (_ : Int32) s_4 => FT_ s0 s_4) ?_ FU 0 s_2 g_s_2
  intro rec19 x4_3 s_4 g_s_4 hr0_
  have hrec19 : ∀ (x4_3 : Int32) (s_4 : Sg), FT_ s0 s_4 → pf_ (rec19 x4_3 s_4) Q := fun x4_3 s_4 z_s_4 => hr0_ x4_3 s_4 z_s_4
  clear hr0_
  unfold fX10_chooses_19_b
  refine pf_if ?_ ?_
  · skip
    exact pf_some (hQ _ g_s_4)
  · skip
    refine pf_chk (fun _ => ?_)
    refine pf_bv (fun s_6 e_s_6 => ?_)
    have g_s_6 : FT_ s0 s_6 := by rw [e_s_6]; exact FT_.si g_s_4 rfl
    clear e_s_6
    refine pf_jn (fun k_8 => ∀ (y_7 : Int32), pf_ (k_8 y_7) Q) ?_ (fun k_8 hk_8 => ?_)
    · intro y_7
      try dsimp only
      refine pf_chk (fun _ => ?_)
      refine pf_if ?_ ?_
      · skip
        refine pf_bnd (yt_fX10_makes x4_3 (gi s_6 45 (ix x4_3)) s_6 ) (fun r_10 s_11 p_s_11 => ?_)
        have g_s_11 : FT_ s0 s_11 := (g_s_6).tr p_s_11
        refine pf_bv (fun v_12 e_v_12 => ?_)
        clear e_v_12
        refine pf_jn (fun k_14 => ∀ (x6_13 : Int32), pf_ (k_14 x6_13) Q) ?_ (fun k_14 hk_14 => ?_)
        · intro x6_13
          try dsimp only
          refine pf_if ?_ ?_
          · skip
            refine pf_if ?_ ?_
            · skip
              refine pf_bnd (yt_fX10_isAll a1 a2 s_11 ) (fun r_20 s_21 p_s_21 => ?_)
              have g_s_21 : FT_ s0 s_21 := (g_s_11).tr p_s_21
              refine pf_if ?_ ?_
              · skip
                exact hrec19 x4_3 s_21 g_s_21
              · skip
                exact pf_some (hQ _ g_s_21)
            · skip
              refine pf_chk (fun _ => ?_)
              refine pf_chk (fun _ => ?_)
              refine pf_bv (fun s_17 e_s_17 => ?_)
              have g_s_17 : FT_ s0 s_17 := by rw [e_s_17]; exact FT_.si g_s_11 rfl
              clear e_s_17
              refine pf_bv (fun s_18 e_s_18 => ?_)
              have g_s_18 : FT_ s0 s_18 := by rw [e_s_18]; exact FT_.si g_s_17 rfl
              clear e_s_18
              refine pf_bv (fun v_19 e_v_19 => ?_)
              clear e_v_19
              exact hrec19 v_19 s_18 g_s_18
          · skip
            exact hrec19 x4_3 s_11 g_s_11
        refine pf_lo2 (fun (_ : Int32) (_ : Int32) => True) ?_ FU r_10 v_12 trivial
        intro rec94 x6_22 x7_23 _ hr0_
        have hrec94 : ∀ (x6_22 : Int32) (x7_23 : Int32), pf_ (rec94 x6_22 x7_23) Q := fun x6_22 x7_23 => hr0_ x6_22 x7_23 trivial
        clear hr0_
        unfold fX10_chooses_94_b
        refine pf_if ?_ ?_
        · skip
          exact hk_14 x6_22 
        · skip
          refine pf_bv (fun v_24 e_v_24 => ?_)
          clear e_v_24
          refine pf_bv (fun v_25 e_v_25 => ?_)
          clear e_v_25
          exact hrec94 v_24 v_25 
      · skip
        refine pf_bv (fun v_26 e_v_26 => ?_)
        clear e_v_26
        exact hrec19 v_26 s_6 g_s_6
    refine pf_if ?_ ?_
    · skip
      exact hk_8 (a2 + (gi s_6 47 (ix x4_3))) 
    · skip
      exact hk_8 a2 
set_option maxRecDepth 100000 in
theorem yt_fX10_weights (a1 : Int32) (a2 : Int32) (s0 : Sg)  : pf_ (fX10_weights a1 a2 s0) (fun q => FT_ s0 q.2) := by
  generalize hQ0 : (fun q : (Int32 × Sg) => FT_ s0 q.2) = Q
  have hQ : ∀ r {x : Sg}, FT_ s0 x → Q (r, x) := fun r x h => by rw [← hQ0]; exact h
  clear hQ0
  unfold fX10_weights
  refine pf_bnd (yt_fX10_isIn a1 1 40 s0 ) (fun r_1 s_2 p_s_2 => ?_)
  have g_s_2 : FT_ s0 s_2 := (FT_.rf).tr p_s_2
  refine pf_if ?_ ?_
  · skip
    exact pf_some (hQ _ g_s_2)
  · skip
    refine pf_if ?_ ?_
    · skip
      refine pf_jn (fun k_4 => ∀ (s_3 : Sg), FT_ s0 s_3 → pf_ (k_4 s_3) Q) ?_ (fun k_4 hk_4 => ?_)
      · intro s_3 g_s_3
        try dsimp only
        refine pf_jn (fun k_7 => ∀ (x3_5 : Int32) (s_6 : Sg), FT_ s0 s_6 → pf_ (k_7 x3_5 s_6) Q) ?_ (fun k_7 hk_7 => ?_)
        · intro x3_5 s_6 g_s_6
          try dsimp only
          refine pf_if ?_ ?_
          · skip
            exact pf_some (hQ _ g_s_6)
          · skip
            refine pf_if ?_ ?_
            · skip
              exact pf_some (hQ _ g_s_6)
            · skip
              refine pf_chk (fun _ => ?_)
              exact pf_some (hQ _ g_s_6)
        refine pf_lo2 (fun (_ : Int32) s_10 => FT_ s0 s_10) ?_ FU 1 s_3 g_s_3
        intro rec52 x3_9 s_10 g_s_10 hr0_
        have hrec52 : ∀ (x3_9 : Int32) (s_10 : Sg), FT_ s0 s_10 → pf_ (rec52 x3_9 s_10) Q := fun x3_9 s_10 z_s_10 => hr0_ x3_9 s_10 z_s_10
        clear hr0_
        unfold fX10_weights_52_b
        refine pf_bnd (yt_fX10_chooses x3_9 a1 s_10 ) (fun r_11 s_12 p_s_12 => ?_)
        have g_s_12 : FT_ s0 s_12 := (g_s_10).tr p_s_12
        refine pf_if ?_ ?_
        · skip
          refine pf_bv (fun v_13 e_v_13 => ?_)
          clear e_v_13
          exact hrec52 v_13 s_12 g_s_12
        · skip
          exact hk_7 x3_9 s_12 g_s_12
      refine pf_lo2 (fun (_ : Int32) s_15 => FT_ s0 s_15) ?_ FU 0 s_2 g_s_2
      intro rec19 x3_14 s_15 g_s_15 hr0_
      have hrec19 : ∀ (x3_14 : Int32) (s_15 : Sg), FT_ s0 s_15 → pf_ (rec19 x3_14 s_15) Q := fun x3_14 s_15 z_s_15 => hr0_ x3_14 s_15 z_s_15
      clear hr0_
      unfold fX10_weights_19_b
      refine pf_if ?_ ?_
      · skip
        exact hk_4 s_15 g_s_15
      · skip
        refine pf_jn (fun k_18 => ∀ (y_16 : Int32) (y_17 : Bool), pf_ (k_18 y_16 y_17) Q) ?_ (fun k_18 hk_18 => ?_)
        · intro y_16 y_17
          try dsimp only
          refine pf_chk (fun _ => ?_)
          refine pf_bv (fun s_20 e_s_20 => ?_)
          have g_s_20 : FT_ s0 s_20 := by rw [e_s_20]; exact FT_.si g_s_15 rfl
          clear e_s_20
          refine pf_bv (fun v_21 e_v_21 => ?_)
          clear e_v_21
          exact hrec19 v_21 s_20 g_s_20
        refine pf_if ?_ ?_
        · skip
          exact hk_18 x3_14 true 
        · skip
          exact hk_18 x3_14 false 
    · skip
      exact pf_some (hQ _ g_s_2)
set_option maxRecDepth 100000 in
theorem yt_fX10_rest (a1 : Int32) (a2 : Int32) (a3 : Int32) (s0 : Sg)  : pf_ (fX10_rest a1 a2 a3 s0) (fun q => FT_ s0 q.2) := by
  generalize hQ0 : (fun q : (Int32 × Sg) => FT_ s0 q.2) = Q
  have hQ : ∀ r {x : Sg}, FT_ s0 x → Q (r, x) := fun r x h => by rw [← hQ0]; exact h
  clear hQ0
  unfold fX10_rest
  refine pf_bnd (yt_fX10_isIn a1 0 9999 s0 ) (fun r_1 s_2 p_s_2 => ?_)
  have g_s_2 : FT_ s0 s_2 := (FT_.rf).tr p_s_2
  refine pf_if ?_ ?_
  · skip
    exact pf_some (hQ _ g_s_2)
  · skip
    refine pf_bnd (yt_fX10_isIn a2 1 99 s_2 ) (fun r_3 s_4 p_s_4 => ?_)
    have g_s_4 : FT_ s0 s_4 := (g_s_2).tr p_s_4
    refine pf_if ?_ ?_
    · skip
      exact pf_some (hQ _ g_s_4)
    · skip
      refine pf_bnd (yt_fX10_isIn a3 0 1 s_4 ) (fun r_5 s_6 p_s_6 => ?_)
      have g_s_6 : FT_ s0 s_6 := (g_s_4).tr p_s_6
      refine pf_if ?_ ?_
      · skip
        exact pf_some (hQ _ g_s_6)
      · skip
        refine pf_bv (fun v_7 e_v_7 => ?_)
        clear e_v_7
        refine pf_jn (fun k_11 => ∀ (x5_8 : Int32) (x7_9 : Int32) (s_10 : Sg), FT_ s0 s_10 → pf_ (k_11 x5_8 x7_9 s_10) Q) ?_ (fun k_11 hk_11 => ?_)
        · intro x5_8 x7_9 s_10 g_s_10
          try dsimp only
          refine pf_if ?_ ?_
          · skip
            exact pf_some (hQ _ g_s_10)
          · skip
            exact pf_some (hQ _ g_s_10)
        refine pf_lo6 (fun (_ : Int32) (_ : Int32) (_ : Int32) (_ : Int32) (_ : Int32) s_17 => FT_ s0 s_17) ?_ FU v_7 0 0 0 0 s_6 g_s_6
        intro rec53 x4_12 x5_13 x6_14 x7_15 x8_16 s_17 g_s_17 hr0_
        have hrec53 : ∀ (x4_12 : Int32) (x5_13 : Int32) (x6_14 : Int32) (x7_15 : Int32) (x8_16 : Int32) (s_17 : Sg), FT_ s0 s_17 → pf_ (rec53 x4_12 x5_13 x6_14 x7_15 x8_16 s_17) Q := fun x4_12 x5_13 x6_14 x7_15 x8_16 s_17 z_s_17 => hr0_ x4_12 x5_13 x6_14 x7_15 x8_16 s_17 z_s_17
        clear hr0_
        unfold fX10_rest_53_b
        refine pf_if ?_ ?_
        · skip
          exact hk_11 x5_13 x7_15 s_17 g_s_17
        · skip
          refine pf_bv (fun v_18 e_v_18 => ?_)
          clear e_v_18
          refine pf_bv (fun v_19 e_v_19 => ?_)
          clear e_v_19
          refine pf_bnv (yt_fX10_name (((gi s_17 28 (ix 4)) + x8_16) - ((gi s_17 28 (ix 4)) + x8_16) / 24 * 24) (gi s_17 28 (ix 5)) v_18 s_17 ) (fun s_20 p_s_20 => ?_)
          have g_s_20 : FT_ s0 s_20 := (g_s_17).tr p_s_20
          refine pf_bnd (yt_fX10_load 0 s_20 ) (fun r_21 s_22 p_s_22 => ?_)
          have g_s_22 : FT_ s0 s_22 := (g_s_20).tr p_s_22
          refine pf_bnd (yt_fX10_load 1 s_22 ) (fun r_23 s_24 p_s_24 => ?_)
          have g_s_24 : FT_ s0 s_24 := (g_s_22).tr p_s_24
          refine pf_bnd (yt_fX10_beamBy ((((gi s_22 28 (ix 1)) * r_21) - ((gi s_22 28 (ix 2)) * r_23)) + (10 * v_18)) (gi s_24 28 (ix 3)) s_24 ) (fun r_25 s_26 p_s_26 => ?_)
          have g_s_26 : FT_ s0 s_26 := (g_s_24).tr p_s_26
          refine pf_jn (fun k_28 => ∀ (y_27 : Bool), pf_ (k_28 y_27) Q) ?_ (fun k_28 hk_28 => ?_)
          · intro y_27
            try dsimp only
            refine pf_jn (fun k_31 => ∀ (y_29 : Int32) (y_30 : Bool), pf_ (k_31 y_29 y_30) Q) ?_ (fun k_31 hk_31 => ?_)
            · intro y_29 y_30
              try dsimp only
              refine pf_bv (fun v_32 e_v_32 => ?_)
              clear e_v_32
              refine pf_jn (fun k_34 => ∀ (y_33 : Int32), pf_ (k_34 y_33) Q) ?_ (fun k_34 hk_34 => ?_)
              · intro y_33
                try dsimp only
                refine pf_jn (fun k_36 => ∀ (x7_35 : Int32), pf_ (k_36 x7_35) Q) ?_ (fun k_36 hk_36 => ?_)
                · intro x7_35
                  try dsimp only
                  refine pf_bv (fun v_37 e_v_37 => ?_)
                  clear e_v_37
                  exact hrec53 v_19 v_32 y_33 x7_35 v_37 s_26 g_s_26
                refine pf_if ?_ ?_
                · skip
                  exact hk_36 x7_15 
                · skip
                  exact hk_36 y_33 
              refine pf_if ?_ ?_
              · skip
                exact hk_34 0 
              · skip
                exact hk_34 (x6_14 + 1) 
            refine pf_if ?_ ?_
            · skip
              exact hk_31 x5_13 false 
            · skip
              exact hk_31 x5_13 true 
          refine pf_if ?_ ?_
          · skip
            exact hk_28 true 
          · skip
            exact hk_28 false 
set_option maxRecDepth 100000 in
theorem yt_fX10_copy_i (s0 : Sg)  : pf_ (fX10_copy_i s0) (fun q => FT_ s0 q) := by
  generalize hQ0 : (fun q : (Sg) => FT_ s0 q) = Q
  have hQ : ∀ (_ : Unit) {x : Sg}, FT_ s0 x → Q x := fun _ x h => by rw [← hQ0]; exact h
  clear hQ0
  unfold fX10_copy_i
  refine pf_lo2 (fun (_ : Int32) s_2 => FT_ s0 s_2) ?_ FU 0 s0 FT_.rf
  intro rec2 x2_1 s_2 g_s_2 hr0_
  have hrec2 : ∀ (x2_1 : Int32) (s_2 : Sg), FT_ s0 s_2 → pf_ (rec2 x2_1 s_2) Q := fun x2_1 s_2 z_s_2 => hr0_ x2_1 s_2 z_s_2
  clear hr0_
  unfold fX10_copy_i_2_b
  refine pf_if ?_ ?_
  · skip
    exact pf_some (hQ () g_s_2)
  · skip
    refine pf_chk (fun _ => ?_)
    refine pf_bv (fun s_4 e_s_4 => ?_)
    have g_s_4 : FT_ s0 s_4 := by rw [e_s_4]; exact FT_.si g_s_2 rfl
    clear e_s_4
    refine pf_bv (fun v_5 e_v_5 => ?_)
    clear e_v_5
    exact hrec2 v_5 s_4 g_s_4
set_option maxRecDepth 100000 in
theorem yt_fX10_image (s0 : Sg)  : pf_ (fX10_image s0) (fun q => FT_ s0 q.2) := by
  generalize hQ0 : (fun q : (Int32 × Sg) => FT_ s0 q.2) = Q
  have hQ : ∀ r {x : Sg}, FT_ s0 x → Q (r, x) := fun r x h => by rw [← hQ0]; exact h
  clear hQ0
  unfold fX10_image
  refine pf_bnv (yt_fX10_copy_i s0 ) (fun s_1 p_s_1 => ?_)
  have g_s_1 : FT_ s0 s_1 := (FT_.rf).tr p_s_1
  exact pf_some (hQ _ g_s_1)
set_option maxRecDepth 100000 in
theorem yt_fX10_copy_b (s0 : Sg)  : pf_ (fX10_copy_b s0) (fun q => FT_ s0 q) := by
  generalize hQ0 : (fun q : (Sg) => FT_ s0 q) = Q
  have hQ : ∀ (_ : Unit) {x : Sg}, FT_ s0 x → Q x := fun _ x h => by rw [← hQ0]; exact h
  clear hQ0
  unfold fX10_copy_b
  refine pf_lo2 (fun (_ : Int32) s_2 => FT_ s0 s_2) ?_ FU 0 s0 FT_.rf
  intro rec2 x2_1 s_2 g_s_2 hr0_
  have hrec2 : ∀ (x2_1 : Int32) (s_2 : Sg), FT_ s0 s_2 → pf_ (rec2 x2_1 s_2) Q := fun x2_1 s_2 z_s_2 => hr0_ x2_1 s_2 z_s_2
  clear hr0_
  unfold fX10_copy_b_2_b
  refine pf_if ?_ ?_
  · skip
    exact pf_some (hQ () g_s_2)
  · skip
    refine pf_chk (fun _ => ?_)
    refine pf_bv (fun s_4 e_s_4 => ?_)
    have g_s_4 : FT_ s0 s_4 := by rw [e_s_4]; exact FT_.si g_s_2 rfl
    clear e_s_4
    refine pf_bv (fun v_5 e_v_5 => ?_)
    clear e_v_5
    exact hrec2 v_5 s_4 g_s_4
set_option maxRecDepth 100000 in
theorem yt_fX10_back (s0 : Sg)  : pf_ (fX10_back s0) (fun q => FT_ s0 q.2) := by
  generalize hQ0 : (fun q : (Int32 × Sg) => FT_ s0 q.2) = Q
  have hQ : ∀ r {x : Sg}, FT_ s0 x → Q (r, x) := fun r x h => by rw [← hQ0]; exact h
  clear hQ0
  unfold fX10_back
  refine pf_bnv (yt_fX10_copy_b s0 ) (fun s_1 p_s_1 => ?_)
  have g_s_1 : FT_ s0 s_1 := (FT_.rf).tr p_s_1
  exact pf_some (hQ _ g_s_1)
set_option maxRecDepth 100000 in
theorem yt_fX10_lying (a1 : Int32) (s0 : Sg)  : pf_ (fX10_lying a1 s0) (fun q => FT_ s0 q.2) := by
  generalize hQ0 : (fun q : (Int32 × Sg) => FT_ s0 q.2) = Q
  have hQ : ∀ r {x : Sg}, FT_ s0 x → Q (r, x) := fun r x h => by rw [← hQ0]; exact h
  clear hQ0
  unfold fX10_lying
  refine pf_lo3 (fun (_ : Int32) (_ : Int32) s_3 => FT_ s0 s_3) ?_ FU 0 0 s0 FT_.rf
  intro rec4 x2_1 x3_2 s_3 g_s_3 hr0_
  have hrec4 : ∀ (x2_1 : Int32) (x3_2 : Int32) (s_3 : Sg), FT_ s0 s_3 → pf_ (rec4 x2_1 x3_2 s_3) Q := fun x2_1 x3_2 s_3 z_s_3 => hr0_ x2_1 x3_2 s_3 z_s_3
  clear hr0_
  unfold fX10_lying_4_b
  refine pf_if ?_ ?_
  · skip
    exact pf_some (hQ _ g_s_3)
  · skip
    refine pf_bnd (yt_fX10_panOf x3_2 s_3 ) (fun r_4 s_5 p_s_5 => ?_)
    have g_s_5 : FT_ s0 s_5 := (g_s_3).tr p_s_5
    refine pf_jn (fun k_8 => ∀ (y_6 : Int32) (y_7 : Int32), pf_ (k_8 y_6 y_7) Q) ?_ (fun k_8 hk_8 => ?_)
    · intro y_6 y_7
      try dsimp only
      refine pf_bv (fun v_9 e_v_9 => ?_)
      clear e_v_9
      refine pf_bv (fun v_10 e_v_10 => ?_)
      clear e_v_10
      exact hrec4 v_9 v_10 s_5 g_s_5
    refine pf_if ?_ ?_
    · skip
      exact hk_8 x2_1 (1 <<< (x3_2 &&& 31)) 
    · skip
      exact hk_8 x2_1 0 
set_option maxRecDepth 100000 in
theorem yt_fX10_about (a1 : Int32) (s0 : Sg)  : pf_ (fX10_about a1 s0) (fun q => FT_ s0 q.2) := by
  generalize hQ0 : (fun q : (Int32 × Sg) => FT_ s0 q.2) = Q
  have hQ : ∀ r {x : Sg}, FT_ s0 x → Q (r, x) := fun r x h => by rw [← hQ0]; exact h
  clear hQ0
  unfold fX10_about
  refine pf_bnd (yt_fX10_isIn a1 0 10 s0 ) (fun r_1 s_2 p_s_2 => ?_)
  have g_s_2 : FT_ s0 s_2 := (FT_.rf).tr p_s_2
  refine pf_if ?_ ?_
  · skip
    refine pf_if ?_ ?_
    · skip
      exact pf_some (hQ _ g_s_2)
    · skip
      refine pf_jn (fun k_3 => pf_ k_3 Q) ?_ (fun k_3 hk_3 => ?_)
      · skip
        refine pf_bnd (yt_fX10_lying (a1 - 12) s_2 ) (fun r_4 s_5 p_s_5 => ?_)
        have g_s_5 : FT_ s0 s_5 := (g_s_2).tr p_s_5
        exact pf_some (hQ _ g_s_5)
      refine pf_if ?_ ?_
      · skip
        exact hk_3  
      · skip
        refine pf_if ?_ ?_
        · skip
          exact hk_3  
        · skip
          exact pf_some (hQ _ g_s_2)
  · skip
    refine pf_chk (fun _ => ?_)
    exact pf_some (hQ _ g_s_2)
set_option maxRecDepth 100000 in
theorem yw_fX8_copyWorld_i (s0 : Sg)  : pf_ (fX8_copyWorld_i s0) (fun q => FW_ s0 q) := by
  generalize hQ0 : (fun q : (Sg) => FW_ s0 q) = Q
  have hQ : ∀ (_ : Unit) {x : Sg}, FW_ s0 x → Q x := fun _ x h => by rw [← hQ0]; exact h
  clear hQ0
  unfold fX8_copyWorld_i
  refine pf_bv (fun s_1 e_s_1 => ?_)
  have g_s_1 : FW_ s0 s_1 := by rw [e_s_1]; exact FW_.si FW_.rf rfl
  clear e_s_1
  refine pf_bv (fun s_2 e_s_2 => ?_)
  have g_s_2 : FW_ s0 s_2 := by rw [e_s_2]; exact FW_.si g_s_1 rfl
  clear e_s_2
  refine pf_bv (fun s_3 e_s_3 => ?_)
  have g_s_3 : FW_ s0 s_3 := by rw [e_s_3]; exact FW_.si g_s_2 rfl
  clear e_s_3
  refine pf_bv (fun s_4 e_s_4 => ?_)
  have g_s_4 : FW_ s0 s_4 := by rw [e_s_4]; exact FW_.si g_s_3 rfl
  clear e_s_4
  refine pf_bv (fun s_5 e_s_5 => ?_)
  have g_s_5 : FW_ s0 s_5 := by rw [e_s_5]; exact FW_.si g_s_4 rfl
  clear e_s_5
  refine pf_bv (fun s_6 e_s_6 => ?_)
  have g_s_6 : FW_ s0 s_6 := by rw [e_s_6]; exact FW_.si g_s_5 rfl
  clear e_s_6
  exact pf_some (hQ () g_s_6)
set_option maxRecDepth 100000 in
theorem yw_fX8_copyWorld_q (q0 : Nat) (a1 : Nat) (s0 : Sg) (h_q0 : 48 ≤ q0) : pf_ (fX8_copyWorld_q q0 a1 s0) (fun q => FW_ s0 q) := by
  generalize hQ0 : (fun q : (Sg) => FW_ s0 q) = Q
  have hQ : ∀ (_ : Unit) {x : Sg}, FW_ s0 x → Q x := fun _ x h => by rw [← hQ0]; exact h
  clear hQ0
  unfold fX8_copyWorld_q
  refine pf_bv (fun s_1 e_s_1 => ?_)
  have g_s_1 : FW_ s0 s_1 := by rw [e_s_1]; exact FW_.si FW_.rf (pw_big (by omega))
  clear e_s_1
  refine pf_bv (fun s_2 e_s_2 => ?_)
  have g_s_2 : FW_ s0 s_2 := by rw [e_s_2]; exact FW_.si g_s_1 (pw_big (by omega))
  clear e_s_2
  refine pf_bv (fun s_3 e_s_3 => ?_)
  have g_s_3 : FW_ s0 s_3 := by rw [e_s_3]; exact FW_.si g_s_2 (pw_big (by omega))
  clear e_s_3
  refine pf_bv (fun s_4 e_s_4 => ?_)
  have g_s_4 : FW_ s0 s_4 := by rw [e_s_4]; exact FW_.si g_s_3 (pw_big (by omega))
  clear e_s_4
  refine pf_bv (fun s_5 e_s_5 => ?_)
  have g_s_5 : FW_ s0 s_5 := by rw [e_s_5]; exact FW_.si g_s_4 (pw_big (by omega))
  clear e_s_5
  refine pf_bv (fun s_6 e_s_6 => ?_)
  have g_s_6 : FW_ s0 s_6 := by rw [e_s_6]; exact FW_.si g_s_5 (pw_big (by omega))
  clear e_s_6
  exact pf_some (hQ () g_s_6)
set_option maxRecDepth 100000 in
theorem yw_fX3_copyFrom (q0 : Nat) (a1 : Nat) (s0 : Sg) (h_q0 : 48 ≤ q0) : pf_ (fX3_copyFrom q0 a1 s0) (fun q => FW_ s0 q) := by
  generalize hQ0 : (fun q : (Sg) => FW_ s0 q) = Q
  have hQ : ∀ (_ : Unit) {x : Sg}, FW_ s0 x → Q x := fun _ x h => by rw [← hQ0]; exact h
  clear hQ0
  unfold fX3_copyFrom
  refine pf_bnv (yw_fX8_copyWorld_q q0 a1 s0 (by omega)) (fun s_1 p_s_1 => ?_)
  have g_s_1 : FW_ s0 s_1 := (FW_.rf).tr p_s_1
  refine pf_bv (fun s_2 e_s_2 => ?_)
  have g_s_2 : FW_ s0 s_2 := by rw [e_s_2]; exact FW_.si g_s_1 (pw_big (by omega))
  clear e_s_2
  refine pf_bv (fun s_3 e_s_3 => ?_)
  have g_s_3 : FW_ s0 s_3 := by rw [e_s_3]; exact FW_.si g_s_2 (pw_big (by omega))
  clear e_s_3
  refine pf_bv (fun s_4 e_s_4 => ?_)
  have g_s_4 : FW_ s0 s_4 := by rw [e_s_4]; exact FW_.si g_s_3 (pw_big (by omega))
  clear e_s_4
  refine pf_bv (fun s_5 e_s_5 => ?_)
  have g_s_5 : FW_ s0 s_5 := by rw [e_s_5]; exact FW_.si g_s_4 (pw_big (by omega))
  clear e_s_5
  exact pf_some (hQ () g_s_5)
set_option maxRecDepth 100000 in
theorem yw_fX6_copyFrom_i (s0 : Sg)  : pf_ (fX6_copyFrom_i s0) (fun q => FW_ s0 q) := by
  generalize hQ0 : (fun q : (Sg) => FW_ s0 q) = Q
  have hQ : ∀ (_ : Unit) {x : Sg}, FW_ s0 x → Q x := fun _ x h => by rw [← hQ0]; exact h
  clear hQ0
  unfold fX6_copyFrom_i
  refine pf_bnv (yw_fX8_copyWorld_i s0 ) (fun s_1 p_s_1 => ?_)
  have g_s_1 : FW_ s0 s_1 := (FW_.rf).tr p_s_1
  refine pf_bv (fun s_2 e_s_2 => ?_)
  have g_s_2 : FW_ s0 s_2 := by rw [e_s_2]; exact FW_.si g_s_1 rfl
  clear e_s_2
  refine pf_bv (fun s_3 e_s_3 => ?_)
  have g_s_3 : FW_ s0 s_3 := by rw [e_s_3]; exact FW_.sa g_s_2 (fun _ => rfl)
  clear e_s_3
  refine pf_bv (fun s_4 e_s_4 => ?_)
  have g_s_4 : FW_ s0 s_4 := by rw [e_s_4]; exact FW_.sa g_s_3 (fun _ => rfl)
  clear e_s_4
  refine pf_bv (fun s_5 e_s_5 => ?_)
  have g_s_5 : FW_ s0 s_5 := by rw [e_s_5]; exact FW_.si g_s_4 rfl
  clear e_s_5
  refine pf_bv (fun s_6 e_s_6 => ?_)
  have g_s_6 : FW_ s0 s_6 := by rw [e_s_6]; exact FW_.si g_s_5 rfl
  clear e_s_6
  refine pf_bv (fun s_7 e_s_7 => ?_)
  have g_s_7 : FW_ s0 s_7 := by rw [e_s_7]; exact FW_.si g_s_6 rfl
  clear e_s_7
  refine pf_bv (fun s_8 e_s_8 => ?_)
  have g_s_8 : FW_ s0 s_8 := by rw [e_s_8]; exact FW_.si g_s_7 rfl
  clear e_s_8
  refine pf_bv (fun s_9 e_s_9 => ?_)
  have g_s_9 : FW_ s0 s_9 := by rw [e_s_9]; exact FW_.sr g_s_8
  clear e_s_9
  refine pf_bv (fun s_10 e_s_10 => ?_)
  have g_s_10 : FW_ s0 s_10 := by rw [e_s_10]; exact FW_.sa g_s_9 (fun _ => rfl)
  clear e_s_10
  refine pf_bv (fun s_11 e_s_11 => ?_)
  have g_s_11 : FW_ s0 s_11 := by rw [e_s_11]; exact FW_.si g_s_10 rfl
  clear e_s_11
  refine pf_jn (fun k_13 => ∀ (s_12 : Sg), FW_ s0 s_12 → pf_ (k_13 s_12) Q) ?_ (fun k_13 hk_13 => ?_)
  · intro s_12 g_s_12
    try dsimp only
    refine pf_bv (fun s_14 e_s_14 => ?_)
    have g_s_14 : FW_ s0 s_14 := by rw [e_s_14]; exact FW_.si g_s_12 rfl
    clear e_s_14
    exact pf_some (hQ () g_s_14)
  refine pf_lo2 (fun (_ : Int32) s_16 => FW_ s0 s_16) ?_ FU 0 s_11 g_s_11
  intro rec108 x2_15 s_16 g_s_16 hr0_
  have hrec108 : ∀ (x2_15 : Int32) (s_16 : Sg), FW_ s0 s_16 → pf_ (rec108 x2_15 s_16) Q := fun x2_15 s_16 z_s_16 => hr0_ x2_15 s_16 z_s_16
  clear hr0_
  unfold fX6_copyFrom_i_108_b
  refine pf_if ?_ ?_
  · skip
    exact hk_13 s_16 g_s_16
  · skip
    refine pf_chk (fun _ => ?_)
    refine pf_bv (fun q_18 e_q_18 => ?_)
    refine pf_chk (fun h_ => ?_)
    have c_56_ := rd_rng h_
    refine pf_bv (fun q_20 e_q_20 => ?_)
    refine pf_chk (fun h_ => ?_)
    have c_59_ := rd_rng h_
    refine pf_bnv (yw_fX3_copyFrom q_18 q_20 s_16 (by omega)) (fun s_22 p_s_22 => ?_)
    have g_s_22 : FW_ s0 s_22 := (g_s_16).tr p_s_22
    refine pf_bv (fun v_23 e_v_23 => ?_)
    clear e_v_23
    exact hrec108 v_23 s_22 g_s_22
set_option maxRecDepth 100000 in
theorem yw_fX9_image (s0 : Sg)  : pf_ (fX9_image s0) (fun q => FW_ s0 q.2) := by
  generalize hQ0 : (fun q : (Int32 × Sg) => FW_ s0 q.2) = Q
  have hQ : ∀ r {x : Sg}, FW_ s0 x → Q (r, x) := fun r x h => by rw [← hQ0]; exact h
  clear hQ0
  unfold fX9_image
  refine pf_bnv (yw_fX6_copyFrom_i s0 ) (fun s_1 p_s_1 => ?_)
  have g_s_1 : FW_ s0 s_1 := (FW_.rf).tr p_s_1
  exact pf_some (hQ _ g_s_1)
set_option maxRecDepth 100000 in
theorem yw_fX8_copyWorld_b (s0 : Sg)  : pf_ (fX8_copyWorld_b s0) (fun q => FW_ s0 q) := by
  generalize hQ0 : (fun q : (Sg) => FW_ s0 q) = Q
  have hQ : ∀ (_ : Unit) {x : Sg}, FW_ s0 x → Q x := fun _ x h => by rw [← hQ0]; exact h
  clear hQ0
  unfold fX8_copyWorld_b
  refine pf_bv (fun s_1 e_s_1 => ?_)
  have g_s_1 : FW_ s0 s_1 := by rw [e_s_1]; exact FW_.si FW_.rf rfl
  clear e_s_1
  refine pf_bv (fun s_2 e_s_2 => ?_)
  have g_s_2 : FW_ s0 s_2 := by rw [e_s_2]; exact FW_.si g_s_1 rfl
  clear e_s_2
  refine pf_bv (fun s_3 e_s_3 => ?_)
  have g_s_3 : FW_ s0 s_3 := by rw [e_s_3]; exact FW_.si g_s_2 rfl
  clear e_s_3
  refine pf_bv (fun s_4 e_s_4 => ?_)
  have g_s_4 : FW_ s0 s_4 := by rw [e_s_4]; exact FW_.si g_s_3 rfl
  clear e_s_4
  refine pf_bv (fun s_5 e_s_5 => ?_)
  have g_s_5 : FW_ s0 s_5 := by rw [e_s_5]; exact FW_.si g_s_4 rfl
  clear e_s_5
  refine pf_bv (fun s_6 e_s_6 => ?_)
  have g_s_6 : FW_ s0 s_6 := by rw [e_s_6]; exact FW_.si g_s_5 rfl
  clear e_s_6
  exact pf_some (hQ () g_s_6)
set_option maxRecDepth 100000 in
theorem yw_fX6_copyFrom_b (s0 : Sg)  : pf_ (fX6_copyFrom_b s0) (fun q => FW_ s0 q) := by
  generalize hQ0 : (fun q : (Sg) => FW_ s0 q) = Q
  have hQ : ∀ (_ : Unit) {x : Sg}, FW_ s0 x → Q x := fun _ x h => by rw [← hQ0]; exact h
  clear hQ0
  unfold fX6_copyFrom_b
  refine pf_bnv (yw_fX8_copyWorld_b s0 ) (fun s_1 p_s_1 => ?_)
  have g_s_1 : FW_ s0 s_1 := (FW_.rf).tr p_s_1
  refine pf_bv (fun s_2 e_s_2 => ?_)
  have g_s_2 : FW_ s0 s_2 := by rw [e_s_2]; exact FW_.si g_s_1 rfl
  clear e_s_2
  refine pf_bv (fun s_3 e_s_3 => ?_)
  have g_s_3 : FW_ s0 s_3 := by rw [e_s_3]; exact FW_.sa g_s_2 (fun _ => rfl)
  clear e_s_3
  refine pf_bv (fun s_4 e_s_4 => ?_)
  have g_s_4 : FW_ s0 s_4 := by rw [e_s_4]; exact FW_.sa g_s_3 (fun _ => rfl)
  clear e_s_4
  refine pf_bv (fun s_5 e_s_5 => ?_)
  have g_s_5 : FW_ s0 s_5 := by rw [e_s_5]; exact FW_.si g_s_4 rfl
  clear e_s_5
  refine pf_bv (fun s_6 e_s_6 => ?_)
  have g_s_6 : FW_ s0 s_6 := by rw [e_s_6]; exact FW_.si g_s_5 rfl
  clear e_s_6
  refine pf_bv (fun s_7 e_s_7 => ?_)
  have g_s_7 : FW_ s0 s_7 := by rw [e_s_7]; exact FW_.si g_s_6 rfl
  clear e_s_7
  refine pf_bv (fun s_8 e_s_8 => ?_)
  have g_s_8 : FW_ s0 s_8 := by rw [e_s_8]; exact FW_.si g_s_7 rfl
  clear e_s_8
  refine pf_bv (fun s_9 e_s_9 => ?_)
  have g_s_9 : FW_ s0 s_9 := by rw [e_s_9]; exact FW_.sr g_s_8
  clear e_s_9
  refine pf_bv (fun s_10 e_s_10 => ?_)
  have g_s_10 : FW_ s0 s_10 := by rw [e_s_10]; exact FW_.sa g_s_9 (fun _ => rfl)
  clear e_s_10
  refine pf_bv (fun s_11 e_s_11 => ?_)
  have g_s_11 : FW_ s0 s_11 := by rw [e_s_11]; exact FW_.si g_s_10 rfl
  clear e_s_11
  refine pf_jn (fun k_13 => ∀ (s_12 : Sg), FW_ s0 s_12 → pf_ (k_13 s_12) Q) ?_ (fun k_13 hk_13 => ?_)
  · intro s_12 g_s_12
    try dsimp only
    refine pf_bv (fun s_14 e_s_14 => ?_)
    have g_s_14 : FW_ s0 s_14 := by rw [e_s_14]; exact FW_.si g_s_12 rfl
    clear e_s_14
    exact pf_some (hQ () g_s_14)
  refine pf_lo2 (fun (_ : Int32) s_16 => FW_ s0 s_16) ?_ FU 0 s_11 g_s_11
  intro rec108 x2_15 s_16 g_s_16 hr0_
  have hrec108 : ∀ (x2_15 : Int32) (s_16 : Sg), FW_ s0 s_16 → pf_ (rec108 x2_15 s_16) Q := fun x2_15 s_16 z_s_16 => hr0_ x2_15 s_16 z_s_16
  clear hr0_
  unfold fX6_copyFrom_b_108_b
  refine pf_if ?_ ?_
  · skip
    exact hk_13 s_16 g_s_16
  · skip
    refine pf_chk (fun _ => ?_)
    refine pf_bv (fun q_18 e_q_18 => ?_)
    refine pf_chk (fun h_ => ?_)
    have c_56_ := rd_rng h_
    refine pf_bv (fun q_20 e_q_20 => ?_)
    refine pf_chk (fun h_ => ?_)
    have c_59_ := rd_rng h_
    refine pf_bnv (yw_fX3_copyFrom q_18 q_20 s_16 (by omega)) (fun s_22 p_s_22 => ?_)
    have g_s_22 : FW_ s0 s_22 := (g_s_16).tr p_s_22
    refine pf_bv (fun v_23 e_v_23 => ?_)
    clear e_v_23
    exact hrec108 v_23 s_22 g_s_22
set_option maxRecDepth 100000 in
theorem yw_fX9_back (s0 : Sg)  : pf_ (fX9_back s0) (fun q => FW_ s0 q.2) := by
  generalize hQ0 : (fun q : (Int32 × Sg) => FW_ s0 q.2) = Q
  have hQ : ∀ r {x : Sg}, FW_ s0 x → Q (r, x) := fun r x h => by rw [← hQ0]; exact h
  clear hQ0
  unfold fX9_back
  refine pf_bnv (yw_fX6_copyFrom_b s0 ) (fun s_1 p_s_1 => ?_)
  have g_s_1 : FW_ s0 s_1 := (FW_.rf).tr p_s_1
  exact pf_some (hQ _ g_s_1)
