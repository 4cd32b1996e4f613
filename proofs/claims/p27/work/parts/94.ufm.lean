set_option maxRecDepth 20000 in
theorem ym_fX10_byteAt (a1 : Int32) (s0 : Sg)  : pf_ (fX10_byteAt a1 s0) (fun q => FM_ s0 q.2) := by
  generalize hQ0 : (fun q : (Int32 × Sg) => FM_ s0 q.2) = Q
  have hQ : ∀ r {x : Sg}, FM_ s0 x → Q (r, x) := fun r x h => by rw [← hQ0]; exact h
  clear hQ0
  unfold fX10_byteAt
  refine pf_if ?_ ?_
  · skip
    exact pf_some (hQ _ FM_.rf)
  · skip
    refine pf_chk (fun _ => ?_)
    exact pf_some (hQ _ FM_.rf)
set_option maxRecDepth 20000 in
theorem ym_fX10_isIn (a1 : Int32) (a2 : Int32) (a3 : Int32) (s0 : Sg)  : pf_ (fX10_isIn a1 a2 a3 s0) (fun q => FM_ s0 q.2) := by
  generalize hQ0 : (fun q : (Bool × Sg) => FM_ s0 q.2) = Q
  have hQ : ∀ r {x : Sg}, FM_ s0 x → Q (r, x) := fun r x h => by rw [← hQ0]; exact h
  clear hQ0
  unfold fX10_isIn
  refine pf_if ?_ ?_
  · skip
    exact pf_some (hQ _ FM_.rf)
  · skip
    refine pf_if ?_ ?_
    · skip
      exact pf_some (hQ _ FM_.rf)
    · skip
      exact pf_some (hQ _ FM_.rf)
set_option maxRecDepth 20000 in
theorem ym_fX10_isDigit (a1 : Int32) (s0 : Sg)  : pf_ (fX10_isDigit a1 s0) (fun q => FM_ s0 q.2) := by
  generalize hQ0 : (fun q : (Bool × Sg) => FM_ s0 q.2) = Q
  have hQ : ∀ r {x : Sg}, FM_ s0 x → Q (r, x) := fun r x h => by rw [← hQ0]; exact h
  clear hQ0
  unfold fX10_isDigit
  refine pf_bnd (ym_fX10_isIn a1 48 57 s0 ) (fun r_1 s_2 p_s_2 => ?_)
  have g_s_2 : FM_ s0 s_2 := (FM_.rf).tr p_s_2
  exact pf_some (hQ _ g_s_2)
set_option maxRecDepth 20000 in
theorem ym_fX10_isLetter (a1 : Int32) (s0 : Sg)  : pf_ (fX10_isLetter a1 s0) (fun q => FM_ s0 q.2) := by
  generalize hQ0 : (fun q : (Bool × Sg) => FM_ s0 q.2) = Q
  have hQ : ∀ r {x : Sg}, FM_ s0 x → Q (r, x) := fun r x h => by rw [← hQ0]; exact h
  clear hQ0
  unfold fX10_isLetter
  refine pf_bnd (ym_fX10_isIn a1 97 122 s0 ) (fun r_1 s_2 p_s_2 => ?_)
  have g_s_2 : FM_ s0 s_2 := (FM_.rf).tr p_s_2
  refine pf_if ?_ ?_
  · skip
    refine pf_bnd (ym_fX10_isIn a1 65 90 s_2 ) (fun r_3 s_4 p_s_4 => ?_)
    have g_s_4 : FM_ s0 s_4 := (g_s_2).tr p_s_4
    refine pf_if ?_ ?_
    · skip
      exact pf_some (hQ _ g_s_4)
    · skip
      exact pf_some (hQ _ g_s_4)
  · skip
    exact pf_some (hQ _ g_s_2)
set_option maxRecDepth 20000 in
theorem ym_fX10_nextToken (s0 : Sg)  : pf_ (fX10_nextToken s0) (fun q => FM_ s0 q) := by
  generalize hQ0 : (fun q : (Sg) => FM_ s0 q) = Q
  have hQ : ∀ (_ : Unit) {x : Sg}, FM_ s0 x → Q x := fun _ x h => by rw [← hQ0]; exact h
  clear hQ0
  unfold fX10_nextToken
  refine pf_jn (fun k_2 => ∀ (s_1 : Sg), FM_ s0 s_1 → pf_ (k_2 s_1) Q) ?_ (fun k_2 hk_2 => ?_)
  · intro s_1 g_s_1
    try dsimp only
    refine pf_bv (fun s_3 e_s_3 => ?_)
    have g_s_3 : FM_ s0 s_3 := by rw [e_s_3]; exact FM_.si g_s_1 rfl
    clear e_s_3
    refine pf_bnd (ym_fX10_byteAt (gi s_3 27 7) s_3 ) (fun r_4 s_5 p_s_5 => ?_)
    have g_s_5 : FM_ s0 s_5 := (g_s_3).tr p_s_5
    refine pf_if ?_ ?_
    · skip
      refine pf_bnd (ym_fX10_isDigit r_4 s_5 ) (fun r_6 s_7 p_s_7 => ?_)
      have g_s_7 : FM_ s0 s_7 := (g_s_5).tr p_s_7
      refine pf_if ?_ ?_
      · skip
        refine pf_bnd (ym_fX10_isLetter r_4 s_7 ) (fun r_8 s_9 p_s_9 => ?_)
        have g_s_9 : FM_ s0 s_9 := (g_s_7).tr p_s_9
        refine pf_if ?_ ?_
        · skip
          refine pf_bv (fun s_10 e_s_10 => ?_)
          have g_s_10 : FM_ s0 s_10 := by rw [e_s_10]; exact FM_.si g_s_9 rfl
          clear e_s_10
          refine pf_jn (fun k_12 => ∀ (y_11 : Bool), pf_ (k_12 y_11) Q) ?_ (fun k_12 hk_12 => ?_)
          · intro y_11
            try dsimp only
            refine pf_jn (fun k_14 => ∀ (y_13 : Int32), pf_ (k_14 y_13) Q) ?_ (fun k_14 hk_14 => ?_)
            · intro y_13
              try dsimp only
              refine pf_bv (fun s_15 e_s_15 => ?_)
              have g_s_15 : FM_ s0 s_15 := by rw [e_s_15]; exact FM_.si g_s_10 rfl
              clear e_s_15
              refine pf_jn (fun k_16 => pf_ k_16 Q) ?_ (fun k_16 hk_16 => ?_)
              · skip
                refine pf_bnd (ym_fX10_byteAt (gi s_15 27 7) s_15 ) (fun r_17 s_18 p_s_18 => ?_)
                have g_s_18 : FM_ s0 s_18 := (g_s_15).tr p_s_18
                refine pf_if ?_ ?_
                · skip
                  refine pf_bv (fun s_19 e_s_19 => ?_)
                  have g_s_19 : FM_ s0 s_19 := by rw [e_s_19]; exact FM_.si g_s_18 rfl
                  clear e_s_19
                  refine pf_jn (fun k_21 => ∀ (y_20 : Int32), pf_ (k_21 y_20) Q) ?_ (fun k_21 hk_21 => ?_)
                  · intro y_20
                    try dsimp only
                    refine pf_bv (fun s_22 e_s_22 => ?_)
                    have g_s_22 : FM_ s0 s_22 := by rw [e_s_22]; exact FM_.si g_s_19 rfl
                    clear e_s_22
                    exact pf_some (hQ () g_s_22)
                  refine pf_if ?_ ?_
                  · skip
                    exact hk_21 4 
                  · skip
                    exact hk_21 5 
                · skip
                  exact pf_some (hQ () g_s_18)
              refine pf_if ?_ ?_
              · skip
                exact hk_16  
              · skip
                refine pf_if ?_ ?_
                · skip
                  exact hk_16  
                · skip
                  exact pf_some (hQ () g_s_15)
            refine pf_if ?_ ?_
            · skip
              exact hk_14 3 
            · skip
              exact hk_14 r_4 
          refine pf_jn (fun k_23 => pf_ k_23 Q) ?_ (fun k_23 hk_23 => ?_)
          · skip
            exact hk_12 true 
          refine pf_if ?_ ?_
          · skip
            exact hk_23  
          · skip
            refine pf_if ?_ ?_
            · skip
              exact hk_23  
            · skip
              refine pf_if ?_ ?_
              · skip
                exact hk_23  
              · skip
                refine pf_if ?_ ?_
                · skip
                  exact hk_23  
                · skip
                  refine pf_if ?_ ?_
                  · skip
                    exact hk_23  
                  · skip
                    refine pf_if ?_ ?_
                    · skip
                      exact hk_23  
                    · skip
                      refine pf_if ?_ ?_
                      · skip
                        exact hk_23  
                      · skip
                        refine pf_if ?_ ?_
                        · skip
                          exact hk_23  
                        · skip
                          refine pf_if ?_ ?_
                          · skip
                            exact hk_23  
                          · skip
                            refine pf_if ?_ ?_
                            · skip
                              exact hk_23  
                            · skip
                              refine pf_if ?_ ?_
                              · skip
                                exact hk_23  
                              · skip
                                exact hk_12 false 
        · skip
          refine pf_bv (fun s_24 e_s_24 => ?_)
          have g_s_24 : FM_ s0 s_24 := by rw [e_s_24]; exact FM_.si g_s_9 rfl
          clear e_s_24
          refine pf_bv (fun s_25 e_s_25 => ?_)
          have g_s_25 : FM_ s0 s_25 := by rw [e_s_25]; exact FM_.sl g_s_24
          clear e_s_25
          refine pf_jn (fun k_27 => ∀ (s_26 : Sg), FM_ s0 s_26 → pf_ (k_27 s_26) Q) ?_ (fun k_27 hk_27 => ?_)
          · intro s_26 g_s_26
            try dsimp only
            refine pf_if ?_ ?_
            · skip
              exact pf_some (hQ () g_s_26)
            · skip
              refine pf_bv (fun s_28 e_s_28 => ?_)
              have g_s_28 : FM_ s0 s_28 := by rw [e_s_28]; exact FM_.sl g_s_26
              clear e_s_28
              exact pf_some (hQ () g_s_28)
          refine pf_lo1 (fun s_29 => FM_ s0 s_29) ?_ FU s_25 g_s_25
          intro rec161 s_29 g_s_29 hr0_
          have hrec161 : ∀ (s_29 : Sg), FM_ s0 s_29 → pf_ (rec161 s_29) Q := fun s_29 z_s_29 => hr0_ s_29 z_s_29
          clear hr0_
          unfold fX10_nextToken_161_b
          refine pf_bnd (ym_fX10_byteAt (gi s_29 27 7) s_29 ) (fun r_30 s_31 p_s_31 => ?_)
          have g_s_31 : FM_ s0 s_31 := (g_s_29).tr p_s_31
          refine pf_bnd (ym_fX10_isLetter r_30 s_31 ) (fun r_32 s_33 p_s_33 => ?_)
          have g_s_33 : FM_ s0 s_33 := (g_s_31).tr p_s_33
          refine pf_if ?_ ?_
          · skip
            exact hk_27 s_33 g_s_33
          · skip
            refine pf_jn (fun k_35 => ∀ (s_34 : Sg), FM_ s0 s_34 → pf_ (k_35 s_34) Q) ?_ (fun k_35 hk_35 => ?_)
            · intro s_34 g_s_34
              try dsimp only
              refine pf_bv (fun s_36 e_s_36 => ?_)
              have g_s_36 : FM_ s0 s_36 := by rw [e_s_36]; exact FM_.si g_s_34 rfl
              clear e_s_36
              exact hrec161 s_36 g_s_36
            refine pf_if ?_ ?_
            · skip
              exact hk_35 s_33 g_s_33
            · skip
              refine pf_bnd (ym_fX10_byteAt (gi s_33 27 7) s_33 ) (fun r_37 s_38 p_s_38 => ?_)
              have g_s_38 : FM_ s0 s_38 := (g_s_33).tr p_s_38
              refine pf_bv (fun s_39 e_s_39 => ?_)
              have g_s_39 : FM_ s0 s_39 := by rw [e_s_39]; exact FM_.sl g_s_38
              clear e_s_39
              exact hk_35 s_39 g_s_39
      · skip
        refine pf_bv (fun s_40 e_s_40 => ?_)
        have g_s_40 : FM_ s0 s_40 := by rw [e_s_40]; exact FM_.si g_s_7 rfl
        clear e_s_40
        refine pf_bv (fun s_41 e_s_41 => ?_)
        have g_s_41 : FM_ s0 s_41 := by rw [e_s_41]; exact FM_.si g_s_40 rfl
        clear e_s_41
        refine pf_lo1 (fun s_42 => FM_ s0 s_42) ?_ FU s_41 g_s_41
        intro rec85 s_42 g_s_42 hr0_
        have hrec85 : ∀ (s_42 : Sg), FM_ s0 s_42 → pf_ (rec85 s_42) Q := fun s_42 z_s_42 => hr0_ s_42 z_s_42
        clear hr0_
        unfold fX10_nextToken_85_b
        refine pf_bnd (ym_fX10_byteAt (gi s_42 27 7) s_42 ) (fun r_43 s_44 p_s_44 => ?_)
        have g_s_44 : FM_ s0 s_44 := (g_s_42).tr p_s_44
        refine pf_bnd (ym_fX10_isDigit r_43 s_44 ) (fun r_45 s_46 p_s_46 => ?_)
        have g_s_46 : FM_ s0 s_46 := (g_s_44).tr p_s_46
        refine pf_if ?_ ?_
        · skip
          exact pf_some (hQ () g_s_46)
        · skip
          refine pf_jn (fun k_48 => ∀ (s_47 : Sg), FM_ s0 s_47 → pf_ (k_48 s_47) Q) ?_ (fun k_48 hk_48 => ?_)
          · intro s_47 g_s_47
            try dsimp only
            refine pf_bv (fun s_49 e_s_49 => ?_)
            have g_s_49 : FM_ s0 s_49 := by rw [e_s_49]; exact FM_.si g_s_47 rfl
            clear e_s_49
            exact hrec85 s_49 g_s_49
          refine pf_if ?_ ?_
          · skip
            exact hk_48 s_46 g_s_46
          · skip
            refine pf_bnd (ym_fX10_byteAt (gi s_46 27 7) s_46 ) (fun r_50 s_51 p_s_51 => ?_)
            have g_s_51 : FM_ s0 s_51 := (g_s_46).tr p_s_51
            refine pf_bv (fun s_52 e_s_52 => ?_)
            have g_s_52 : FM_ s0 s_52 := by rw [e_s_52]; exact FM_.si g_s_51 rfl
            clear e_s_52
            exact hk_48 s_52 g_s_52
    · skip
      refine pf_bv (fun s_53 e_s_53 => ?_)
      have g_s_53 : FM_ s0 s_53 := by rw [e_s_53]; exact FM_.si g_s_5 rfl
      clear e_s_53
      exact pf_some (hQ () g_s_53)
  refine pf_lo1 (fun s_54 => FM_ s0 s_54) ?_ FU s0 FM_.rf
  intro rec0 s_54 g_s_54 hr0_
  have hrec0 : ∀ (s_54 : Sg), FM_ s0 s_54 → pf_ (rec0 s_54) Q := fun s_54 z_s_54 => hr0_ s_54 z_s_54
  clear hr0_
  unfold fX10_nextToken_0_b
  refine pf_bnd (ym_fX10_byteAt (gi s_54 27 7) s_54 ) (fun r_55 s_56 p_s_56 => ?_)
  have g_s_56 : FM_ s0 s_56 := (g_s_54).tr p_s_56
  refine pf_jn (fun k_58 => ∀ (s_57 : Sg), FM_ s0 s_57 → pf_ (k_58 s_57) Q) ?_ (fun k_58 hk_58 => ?_)
  · intro s_57 g_s_57
    try dsimp only
    refine pf_bv (fun s_59 e_s_59 => ?_)
    have g_s_59 : FM_ s0 s_59 := by rw [e_s_59]; exact FM_.si g_s_57 rfl
    clear e_s_59
    exact hrec0 s_59 g_s_59
  refine pf_if ?_ ?_
  · skip
    exact hk_58 s_56 g_s_56
  · skip
    refine pf_bnd (ym_fX10_byteAt (gi s_56 27 7) s_56 ) (fun r_60 s_61 p_s_61 => ?_)
    have g_s_61 : FM_ s0 s_61 := (g_s_56).tr p_s_61
    refine pf_if ?_ ?_
    · skip
      exact hk_58 s_61 g_s_61
    · skip
      exact hk_2 s_61 g_s_61
set_option maxRecDepth 20000 in
theorem ym_fX10_w3 (a1 : Int32) (a2 : Int32) (a3 : Int32) (s0 : Sg)  : pf_ (fX10_w3 a1 a2 a3 s0) (fun q => FM_ s0 q.2) := by
  generalize hQ0 : (fun q : (Int64 × Sg) => FM_ s0 q.2) = Q
  have hQ : ∀ r {x : Sg}, FM_ s0 x → Q (r, x) := fun r x h => by rw [← hQ0]; exact h
  clear hQ0
  unfold fX10_w3
  exact pf_some (hQ _ FM_.rf)
set_option maxRecDepth 20000 in
theorem ym_fX10_w5 (a1 : Int32) (a2 : Int32) (a3 : Int32) (a4 : Int32) (a5 : Int32) (s0 : Sg)  : pf_ (fX10_w5 a1 a2 a3 a4 a5 s0) (fun q => FM_ s0 q.2) := by
  generalize hQ0 : (fun q : (Int64 × Sg) => FM_ s0 q.2) = Q
  have hQ : ∀ r {x : Sg}, FM_ s0 x → Q (r, x) := fun r x h => by rw [← hQ0]; exact h
  clear hQ0
  unfold fX10_w5
  refine pf_bnd (ym_fX10_w3 a1 a2 a3 s0 ) (fun r_1 s_2 p_s_2 => ?_)
  have g_s_2 : FM_ s0 s_2 := (FM_.rf).tr p_s_2
  exact pf_some (hQ _ g_s_2)
set_option maxRecDepth 20000 in
theorem ym_fX10_isWord (a1 : Int64) (s0 : Sg)  : pf_ (fX10_isWord a1 s0) (fun q => FM_ s0 q.2) := by
  generalize hQ0 : (fun q : (Bool × Sg) => FM_ s0 q.2) = Q
  have hQ : ∀ r {x : Sg}, FM_ s0 x → Q (r, x) := fun r x h => by rw [← hQ0]; exact h
  clear hQ0
  unfold fX10_isWord
  refine pf_if ?_ ?_
  · skip
    refine pf_if ?_ ?_
    · skip
      exact pf_some (hQ _ FM_.rf)
    · skip
      exact pf_some (hQ _ FM_.rf)
  · skip
    exact pf_some (hQ _ FM_.rf)
set_option maxRecDepth 20000 in
theorem ym_fX10_w4 (a1 : Int32) (a2 : Int32) (a3 : Int32) (a4 : Int32) (s0 : Sg)  : pf_ (fX10_w4 a1 a2 a3 a4 s0) (fun q => FM_ s0 q.2) := by
  generalize hQ0 : (fun q : (Int64 × Sg) => FM_ s0 q.2) = Q
  have hQ : ∀ r {x : Sg}, FM_ s0 x → Q (r, x) := fun r x h => by rw [← hQ0]; exact h
  clear hQ0
  unfold fX10_w4
  refine pf_bnd (ym_fX10_w3 a1 a2 a3 s0 ) (fun r_1 s_2 p_s_2 => ?_)
  have g_s_2 : FM_ s0 s_2 := (FM_.rf).tr p_s_2
  exact pf_some (hQ _ g_s_2)
set_option maxRecDepth 20000 in
theorem ym_fX10_sortOf (s0 : Sg)  : pf_ (fX10_sortOf s0) (fun q => FM_ s0 q.2) := by
  generalize hQ0 : (fun q : (Int32 × Sg) => FM_ s0 q.2) = Q
  have hQ : ∀ r {x : Sg}, FM_ s0 x → Q (r, x) := fun r x h => by rw [← hQ0]; exact h
  clear hQ0
  unfold fX10_sortOf
  refine pf_bnd (ym_fX10_w5 98 101 97 114 115 s0 ) (fun r_1 s_2 p_s_2 => ?_)
  have g_s_2 : FM_ s0 s_2 := (FM_.rf).tr p_s_2
  refine pf_bnd (ym_fX10_isWord r_1 s_2 ) (fun r_3 s_4 p_s_4 => ?_)
  have g_s_4 : FM_ s0 s_4 := (g_s_2).tr p_s_4
  refine pf_if ?_ ?_
  · skip
    refine pf_bnd (ym_fX10_w4 115 97 102 101 s_4 ) (fun r_5 s_6 p_s_6 => ?_)
    have g_s_6 : FM_ s0 s_6 := (g_s_4).tr p_s_6
    refine pf_bnd (ym_fX10_isWord r_5 s_6 ) (fun r_7 s_8 p_s_8 => ?_)
    have g_s_8 : FM_ s0 s_8 := (g_s_6).tr p_s_8
    refine pf_if ?_ ?_
    · skip
      refine pf_bnd (ym_fX10_w3 112 117 116 s_8 ) (fun r_9 s_10 p_s_10 => ?_)
      have g_s_10 : FM_ s0 s_10 := (g_s_8).tr p_s_10
      refine pf_bnd (ym_fX10_isWord r_9 s_10 ) (fun r_11 s_12 p_s_12 => ?_)
      have g_s_12 : FM_ s0 s_12 := (g_s_10).tr p_s_12
      refine pf_if ?_ ?_
      · skip
        refine pf_bnd (ym_fX10_w4 116 97 107 101 s_12 ) (fun r_13 s_14 p_s_14 => ?_)
        have g_s_14 : FM_ s0 s_14 := (g_s_12).tr p_s_14
        refine pf_bnd (ym_fX10_isWord r_13 s_14 ) (fun r_15 s_16 p_s_16 => ?_)
        have g_s_16 : FM_ s0 s_16 := (g_s_14).tr p_s_16
        refine pf_if ?_ ?_
        · skip
          refine pf_bnd (ym_fX10_w4 119 97 105 116 s_16 ) (fun r_17 s_18 p_s_18 => ?_)
          have g_s_18 : FM_ s0 s_18 := (g_s_16).tr p_s_18
          refine pf_bnd (ym_fX10_isWord r_17 s_18 ) (fun r_19 s_20 p_s_20 => ?_)
          have g_s_20 : FM_ s0 s_20 := (g_s_18).tr p_s_20
          refine pf_if ?_ ?_
          · skip
            exact pf_some (hQ _ g_s_20)
          · skip
            exact pf_some (hQ _ g_s_20)
        · skip
          exact pf_some (hQ _ g_s_16)
      · skip
        exact pf_some (hQ _ g_s_12)
    · skip
      exact pf_some (hQ _ g_s_8)
  · skip
    exact pf_some (hQ _ g_s_4)
set_option maxRecDepth 20000 in
theorem ym_fX10_figure (a1 : Int32) (a2 : Int32) (s0 : Sg)  : pf_ (fX10_figure a1 a2 s0) (fun q => FM_ s0 q.2) := by
  generalize hQ0 : (fun q : (Int32 × Sg) => FM_ s0 q.2) = Q
  have hQ : ∀ r {x : Sg}, FM_ s0 x → Q (r, x) := fun r x h => by rw [← hQ0]; exact h
  clear hQ0
  unfold fX10_figure
  refine pf_if ?_ ?_
  · skip
    refine pf_if ?_ ?_
    · skip
      refine pf_chk (fun _ => ?_)
      refine pf_bv (fun s_2 e_s_2 => ?_)
      have g_s_2 : FM_ s0 s_2 := by rw [e_s_2]; exact FM_.si FM_.rf rfl
      clear e_s_2
      refine pf_bnv (ym_fX10_nextToken s_2 ) (fun s_3 p_s_3 => ?_)
      have g_s_3 : FM_ s0 s_3 := (g_s_2).tr p_s_3
      exact pf_some (hQ _ g_s_3)
    · skip
      exact pf_some (hQ _ FM_.rf)
  · skip
    exact pf_some (hQ _ FM_.rf)
set_option maxRecDepth 20000 in
theorem ym_fX10_laid (a1 : Int32) (s0 : Sg)  : pf_ (fX10_laid a1 s0) (fun q => FM_ s0 q.2) := by
  generalize hQ0 : (fun q : (Int32 × Sg) => FM_ s0 q.2) = Q
  have hQ : ∀ r {x : Sg}, FM_ s0 x → Q (r, x) := fun r x h => by rw [← hQ0]; exact h
  clear hQ0
  unfold fX10_laid
  refine pf_bnd (ym_fX10_figure (a1 + 1) 11 s0 ) (fun r_1 s_2 p_s_2 => ?_)
  have g_s_2 : FM_ s0 s_2 := (FM_.rf).tr p_s_2
  refine pf_if ?_ ?_
  · skip
    refine pf_if ?_ ?_
    · skip
      refine pf_if ?_ ?_
      · skip
        refine pf_bnv (ym_fX10_nextToken s_2 ) (fun s_3 p_s_3 => ?_)
        have g_s_3 : FM_ s0 s_3 := (g_s_2).tr p_s_3
        refine pf_bnd (ym_fX10_figure (a1 + 2) 1 s_3 ) (fun r_4 s_5 p_s_5 => ?_)
        have g_s_5 : FM_ s0 s_5 := (g_s_3).tr p_s_5
        exact pf_some (hQ _ g_s_5)
      · skip
        exact pf_some (hQ _ g_s_2)
    · skip
      exact pf_some (hQ _ g_s_2)
  · skip
    exact pf_some (hQ _ g_s_2)
set_option maxRecDepth 20000 in
theorem ym_fX10_emit (a1 : Int32) (a2 : Int32) (s0 : Sg)  : pf_ (fX10_emit a1 a2 s0) (fun q => FM_ s0 q) := by
  generalize hQ0 : (fun q : (Sg) => FM_ s0 q) = Q
  have hQ : ∀ (_ : Unit) {x : Sg}, FM_ s0 x → Q x := fun _ x h => by rw [← hQ0]; exact h
  clear hQ0
  unfold fX10_emit
  refine pf_chk (fun _ => ?_)
  refine pf_bv (fun s_2 e_s_2 => ?_)
  have g_s_2 : FM_ s0 s_2 := by rw [e_s_2]; exact FM_.si FM_.rf rfl
  clear e_s_2
  refine pf_chk (fun _ => ?_)
  refine pf_bv (fun s_4 e_s_4 => ?_)
  have g_s_4 : FM_ s0 s_4 := by rw [e_s_4]; exact FM_.si g_s_2 rfl
  clear e_s_4
  refine pf_bv (fun s_5 e_s_5 => ?_)
  have g_s_5 : FM_ s0 s_5 := by rw [e_s_5]; exact FM_.si g_s_4 rfl
  clear e_s_5
  exact pf_some (hQ () g_s_5)
set_option maxRecDepth 20000 in
theorem ym_fX10_settle (a1 : Int32) (s0 : Sg)  : pf_ (fX10_settle a1 s0) (fun q => FM_ s0 q) := by
  generalize hQ0 : (fun q : (Sg) => FM_ s0 q) = Q
  have hQ : ∀ (_ : Unit) {x : Sg}, FM_ s0 x → Q x := fun _ x h => by rw [← hQ0]; exact h
  clear hQ0
  unfold fX10_settle
  refine pf_lo1 (fun s_1 => FM_ s0 s_1) ?_ FU s0 FM_.rf
  intro rec0 s_1 g_s_1 hr0_
  have hrec0 : ∀ (s_1 : Sg), FM_ s0 s_1 → pf_ (rec0 s_1) Q := fun s_1 z_s_1 => hr0_ s_1 z_s_1
  clear hr0_
  unfold fX10_settle_0_b
  refine pf_if ?_ ?_
  · skip
    exact pf_some (hQ () g_s_1)
  · skip
    refine pf_chk (fun _ => ?_)
    refine pf_if ?_ ?_
    · skip
      exact pf_some (hQ () g_s_1)
    · skip
      refine pf_if ?_ ?_
      · skip
        exact pf_some (hQ () g_s_1)
      · skip
        refine pf_bv (fun s_3 e_s_3 => ?_)
        have g_s_3 : FM_ s0 s_3 := by rw [e_s_3]; exact FM_.si g_s_1 rfl
        clear e_s_3
        refine pf_chk (fun _ => ?_)
        refine pf_bnv (ym_fX10_emit (gi s_3 32 (ix (gi s_3 27 17))) 0 s_3 ) (fun s_5 p_s_5 => ?_)
        have g_s_5 : FM_ s0 s_5 := (g_s_3).tr p_s_5
        exact hrec0 s_5 g_s_5
set_option maxRecDepth 20000 in
theorem ym_fX10_whole (s0 : Sg)  : pf_ (fX10_whole s0) (fun q => FM_ s0 q) := by
  generalize hQ0 : (fun q : (Sg) => FM_ s0 q) = Q
  have hQ : ∀ (_ : Unit) {x : Sg}, FM_ s0 x → Q x := fun _ x h => by rw [← hQ0]; exact h
  clear hQ0
  unfold fX10_whole
  refine pf_bv (fun s_1 e_s_1 => ?_)
  have g_s_1 : FM_ s0 s_1 := by rw [e_s_1]; exact FM_.si FM_.rf rfl
  clear e_s_1
  refine pf_lo1 (fun s_2 => FM_ s0 s_2) ?_ FU s_1 g_s_1
  intro rec5 s_2 g_s_2 hr0_
  have hrec5 : ∀ (s_2 : Sg), FM_ s0 s_2 → pf_ (rec5 s_2) Q := fun s_2 z_s_2 => hr0_ s_2 z_s_2
  clear hr0_
  unfold fX10_whole_5_b
  refine pf_if ?_ ?_
  · skip
    exact pf_some (hQ () g_s_2)
  · skip
    refine pf_chk (fun _ => ?_)
    refine pf_if ?_ ?_
    · skip
      refine pf_bv (fun s_4 e_s_4 => ?_)
      have g_s_4 : FM_ s0 s_4 := by rw [e_s_4]; exact FM_.si g_s_2 rfl
      clear e_s_4
      refine pf_bv (fun s_5 e_s_5 => ?_)
      have g_s_5 : FM_ s0 s_5 := by rw [e_s_5]; exact FM_.si g_s_4 rfl
      clear e_s_5
      refine pf_bnv (ym_fX10_emit 2 0 s_5 ) (fun s_6 p_s_6 => ?_)
      have g_s_6 : FM_ s0 s_6 := (g_s_5).tr p_s_6
      exact hrec5 s_6 g_s_6
    · skip
      exact pf_some (hQ () g_s_2)
set_option maxRecDepth 20000 in
theorem ym_fX10_w6 (a1 : Int32) (a2 : Int32) (a3 : Int32) (a4 : Int32) (a5 : Int32) (a6 : Int32) (s0 : Sg)  : pf_ (fX10_w6 a1 a2 a3 a4 a5 a6 s0) (fun q => FM_ s0 q.2) := by
  generalize hQ0 : (fun q : (Int64 × Sg) => FM_ s0 q.2) = Q
  have hQ : ∀ r {x : Sg}, FM_ s0 x → Q (r, x) := fun r x h => by rw [← hQ0]; exact h
  clear hQ0
  unfold fX10_w6
  refine pf_bnd (ym_fX10_w5 a1 a2 a3 a4 a5 s0 ) (fun r_1 s_2 p_s_2 => ?_)
  have g_s_2 : FM_ s0 s_2 := (FM_.rf).tr p_s_2
  exact pf_some (hQ _ g_s_2)
set_option maxRecDepth 20000 in
theorem ym_fX10_nameOf (s0 : Sg)  : pf_ (fX10_nameOf s0) (fun q => FM_ s0 q.2) := by
  generalize hQ0 : (fun q : (Int32 × Sg) => FM_ s0 q.2) = Q
  have hQ : ∀ r {x : Sg}, FM_ s0 x → Q (r, x) := fun r x h => by rw [← hQ0]; exact h
  clear hQ0
  unfold fX10_nameOf
  refine pf_if ?_ ?_
  · skip
    refine pf_bnd (ym_fX10_w4 104 111 117 114 s0 ) (fun r_1 s_2 p_s_2 => ?_)
    have g_s_2 : FM_ s0 s_2 := (FM_.rf).tr p_s_2
    refine pf_if ?_ ?_
    · skip
      exact pf_some (hQ _ g_s_2)
    · skip
      refine pf_bnd (ym_fX10_w3 119 101 116 s_2 ) (fun r_3 s_4 p_s_4 => ?_)
      have g_s_4 : FM_ s0 s_4 := (g_s_2).tr p_s_4
      refine pf_if ?_ ?_
      · skip
        exact pf_some (hQ _ g_s_4)
      · skip
        refine pf_bnd (ym_fX10_w4 119 105 110 100 s_4 ) (fun r_5 s_6 p_s_6 => ?_)
        have g_s_6 : FM_ s0 s_6 := (g_s_4).tr p_s_6
        refine pf_if ?_ ?_
        · skip
          exact pf_some (hQ _ g_s_6)
        · skip
          refine pf_bnd (ym_fX10_w5 116 104 105 110 103 s_6 ) (fun r_7 s_8 p_s_8 => ?_)
          have g_s_8 : FM_ s0 s_8 := (g_s_6).tr p_s_8
          refine pf_if ?_ ?_
          · skip
            exact pf_some (hQ _ g_s_8)
          · skip
            refine pf_bnd (ym_fX10_w6 119 101 105 103 104 116 s_8 ) (fun r_9 s_10 p_s_10 => ?_)
            have g_s_10 : FM_ s0 s_10 := (g_s_8).tr p_s_10
            refine pf_if ?_ ?_
            · skip
              exact pf_some (hQ _ g_s_10)
            · skip
              refine pf_bnd (ym_fX10_w4 115 111 114 116 s_10 ) (fun r_11 s_12 p_s_12 => ?_)
              have g_s_12 : FM_ s0 s_12 := (g_s_10).tr p_s_12
              refine pf_if ?_ ?_
              · skip
                exact pf_some (hQ _ g_s_12)
              · skip
                refine pf_bnd (ym_fX10_w3 112 97 110 s_12 ) (fun r_13 s_14 p_s_14 => ?_)
                have g_s_14 : FM_ s0 s_14 := (g_s_12).tr p_s_14
                refine pf_if ?_ ?_
                · skip
                  exact pf_some (hQ _ g_s_14)
                · skip
                  refine pf_bnd (ym_fX10_w4 108 101 102 116 s_14 ) (fun r_15 s_16 p_s_16 => ?_)
                  have g_s_16 : FM_ s0 s_16 := (g_s_14).tr p_s_16
                  refine pf_if ?_ ?_
                  · skip
                    exact pf_some (hQ _ g_s_16)
                  · skip
                    refine pf_bnd (ym_fX10_w5 114 105 103 104 116 s_16 ) (fun r_17 s_18 p_s_18 => ?_)
                    have g_s_18 : FM_ s0 s_18 := (g_s_16).tr p_s_18
                    refine pf_if ?_ ?_
                    · skip
                      exact pf_some (hQ _ g_s_18)
                    · skip
                      refine pf_bnd (ym_fX10_w6 109 111 109 101 110 116 s_18 ) (fun r_19 s_20 p_s_20 => ?_)
                      have g_s_20 : FM_ s0 s_20 := (g_s_18).tr p_s_20
                      refine pf_if ?_ ?_
                      · skip
                        exact pf_some (hQ _ g_s_20)
                      · skip
                        refine pf_bnd (ym_fX10_w6 116 117 114 110 101 100 s_20 ) (fun r_21 s_22 p_s_22 => ?_)
                        have g_s_22 : FM_ s0 s_22 := (g_s_20).tr p_s_22
                        refine pf_if ?_ ?_
                        · skip
                          exact pf_some (hQ _ g_s_22)
                        · skip
                          exact pf_some (hQ _ g_s_22)
  · skip
    exact pf_some (hQ _ FM_.rf)
set_option maxRecDepth 20000 in
theorem ym_fX10_push (a1 : Int32) (s0 : Sg)  : pf_ (fX10_push a1 s0) (fun q => FM_ s0 q) := by
  generalize hQ0 : (fun q : (Sg) => FM_ s0 q) = Q
  have hQ : ∀ (_ : Unit) {x : Sg}, FM_ s0 x → Q x := fun _ x h => by rw [← hQ0]; exact h
  clear hQ0
  unfold fX10_push
  refine pf_chk (fun _ => ?_)
  refine pf_bv (fun s_2 e_s_2 => ?_)
  have g_s_2 : FM_ s0 s_2 := by rw [e_s_2]; exact FM_.si FM_.rf rfl
  clear e_s_2
  refine pf_bv (fun s_3 e_s_3 => ?_)
  have g_s_3 : FM_ s0 s_3 := by rw [e_s_3]; exact FM_.si g_s_2 rfl
  clear e_s_3
  exact pf_some (hQ () g_s_3)
set_option maxRecDepth 20000 in
theorem ym_fX10_isBarred (a1 : Int32) (s0 : Sg)  : pf_ (fX10_isBarred a1 s0) (fun q => FM_ s0 q.2) := by
  generalize hQ0 : (fun q : (Bool × Sg) => FM_ s0 q.2) = Q
  have hQ : ∀ r {x : Sg}, FM_ s0 x → Q (r, x) := fun r x h => by rw [← hQ0]; exact h
  clear hQ0
  unfold fX10_isBarred
  refine pf_if ?_ ?_
  · skip
    refine pf_if ?_ ?_
    · skip
      exact pf_some (hQ _ FM_.rf)
    · skip
      exact pf_some (hQ _ FM_.rf)
  · skip
    refine pf_bnd (ym_fX10_isIn a1 3 6 s0 ) (fun r_3 s_4 p_s_4 => ?_)
    have g_s_4 : FM_ s0 s_4 := (FM_.rf).tr p_s_4
    exact pf_some (hQ _ g_s_4)
set_option maxRecDepth 20000 in
theorem ym_fX10_beginOne (s0 : Sg)  : pf_ (fX10_beginOne s0) (fun q => FM_ s0 q.2) := by
  generalize hQ0 : (fun q : (Int32 × Sg) => FM_ s0 q.2) = Q
  have hQ : ∀ r {x : Sg}, FM_ s0 x → Q (r, x) := fun r x h => by rw [← hQ0]; exact h
  clear hQ0
  unfold fX10_beginOne
  refine pf_if ?_ ?_
  · skip
    refine pf_if ?_ ?_
    · skip
      refine pf_bnv (ym_fX10_emit 0 (gi s0 27 10) s0 ) (fun s_17 p_s_17 => ?_)
      have g_s_17 : FM_ s0 s_17 := (FM_.rf).tr p_s_17
      refine pf_bnv (ym_fX10_nextToken s_17 ) (fun s_18 p_s_18 => ?_)
      have g_s_18 : FM_ s0 s_18 := (g_s_17).tr p_s_18
      refine pf_bnv (ym_fX10_whole s_18 ) (fun s_19 p_s_19 => ?_)
      have g_s_19 : FM_ s0 s_19 := (g_s_18).tr p_s_19
      exact pf_some (hQ _ g_s_19)
    · skip
      exact pf_some (hQ _ FM_.rf)
  · skip
    refine pf_bnd (ym_fX10_nameOf s0 ) (fun r_1 s_2 p_s_2 => ?_)
    have g_s_2 : FM_ s0 s_2 := (FM_.rf).tr p_s_2
    refine pf_if ?_ ?_
    · skip
      refine pf_jn (fun k_4 => ∀ (y_3 : Int32), pf_ (k_4 y_3) Q) ?_ (fun k_4 hk_4 => ?_)
      · intro y_3
        try dsimp only
        refine pf_if ?_ ?_
        · skip
          exact pf_some (hQ _ g_s_2)
        · skip
          refine pf_if ?_ ?_
          · skip
            exact pf_some (hQ _ g_s_2)
          · skip
            refine pf_bv (fun s_5 e_s_5 => ?_)
            have g_s_5 : FM_ s0 s_5 := by rw [e_s_5]; exact FM_.si g_s_2 rfl
            clear e_s_5
            refine pf_bnv (ym_fX10_push y_3 s_5 ) (fun s_6 p_s_6 => ?_)
            have g_s_6 : FM_ s0 s_6 := (g_s_5).tr p_s_6
            refine pf_bnv (ym_fX10_nextToken s_6 ) (fun s_7 p_s_7 => ?_)
            have g_s_7 : FM_ s0 s_7 := (g_s_6).tr p_s_7
            exact pf_some (hQ _ g_s_7)
      refine pf_if ?_ ?_
      · skip
        exact hk_4 40 
      · skip
        refine pf_if ?_ ?_
        · skip
          exact hk_4 2 
        · skip
          exact hk_4 0 
    · skip
      refine pf_bnd (ym_fX10_nameOf s_2 ) (fun r_8 s_9 p_s_9 => ?_)
      have g_s_9 : FM_ s0 s_9 := (g_s_2).tr p_s_9
      refine pf_bnd (ym_fX10_isBarred r_8 s_9 ) (fun r_10 s_11 p_s_11 => ?_)
      have g_s_11 : FM_ s0 s_11 := (g_s_9).tr p_s_11
      refine pf_if ?_ ?_
      · skip
        refine pf_bnd (ym_fX10_nameOf s_11 ) (fun r_12 s_13 p_s_13 => ?_)
        have g_s_13 : FM_ s0 s_13 := (g_s_11).tr p_s_13
        refine pf_bnv (ym_fX10_emit 1 r_12 s_13 ) (fun s_14 p_s_14 => ?_)
        have g_s_14 : FM_ s0 s_14 := (g_s_13).tr p_s_14
        refine pf_bnv (ym_fX10_nextToken s_14 ) (fun s_15 p_s_15 => ?_)
        have g_s_15 : FM_ s0 s_15 := (g_s_14).tr p_s_15
        refine pf_bnv (ym_fX10_whole s_15 ) (fun s_16 p_s_16 => ?_)
        have g_s_16 : FM_ s0 s_16 := (g_s_15).tr p_s_16
        exact pf_some (hQ _ g_s_16)
      · skip
        exact pf_some (hQ _ g_s_11)
set_option maxRecDepth 20000 in
theorem ym_fX10_behindOne (s0 : Sg)  : pf_ (fX10_behindOne s0) (fun q => FM_ s0 q.2) := by
  generalize hQ0 : (fun q : (Int32 × Sg) => FM_ s0 q.2) = Q
  have hQ : ∀ r {x : Sg}, FM_ s0 x → Q (r, x) := fun r x h => by rw [← hQ0]; exact h
  clear hQ0
  unfold fX10_behindOne
  refine pf_bv (fun v_1 e_v_1 => ?_)
  clear e_v_1
  refine pf_jn (fun k_3 => ∀ (s_2 : Sg), FM_ s0 s_2 → pf_ (k_3 s_2) Q) ?_ (fun k_3 hk_3 => ?_)
  · intro s_2 g_s_2
    try dsimp only
    refine pf_bnv (ym_fX10_nextToken s_2 ) (fun s_4 p_s_4 => ?_)
    have g_s_4 : FM_ s0 s_4 := (g_s_2).tr p_s_4
    exact pf_some (hQ _ g_s_4)
  refine pf_jn (fun k_5 => pf_ k_5 Q) ?_ (fun k_5 hk_5 => ?_)
  · skip
    refine pf_bnv (ym_fX10_settle 3 s0 ) (fun s_6 p_s_6 => ?_)
    have g_s_6 : FM_ s0 s_6 := (FM_.rf).tr p_s_6
    refine pf_jn (fun k_8 => ∀ (y_7 : Int32), pf_ (k_8 y_7) Q) ?_ (fun k_8 hk_8 => ?_)
    · intro y_7
      try dsimp only
      refine pf_bnv (ym_fX10_push y_7 s_6 ) (fun s_9 p_s_9 => ?_)
      have g_s_9 : FM_ s0 s_9 := (g_s_6).tr p_s_9
      refine pf_bv (fun s_10 e_s_10 => ?_)
      have g_s_10 : FM_ s0 s_10 := by rw [e_s_10]; exact FM_.si g_s_9 rfl
      clear e_s_10
      exact hk_3 s_10 g_s_10
    refine pf_if ?_ ?_
    · skip
      exact hk_8 3 
    · skip
      exact hk_8 4 
  refine pf_if ?_ ?_
  · skip
    exact hk_5  
  · skip
    refine pf_if ?_ ?_
    · skip
      exact hk_5  
    · skip
      refine pf_jn (fun k_11 => pf_ k_11 Q) ?_ (fun k_11 hk_11 => ?_)
      · skip
        refine pf_bnv (ym_fX10_settle 5 s0 ) (fun s_12 p_s_12 => ?_)
        have g_s_12 : FM_ s0 s_12 := (FM_.rf).tr p_s_12
        refine pf_jn (fun k_14 => ∀ (y_13 : Int32), pf_ (k_14 y_13) Q) ?_ (fun k_14 hk_14 => ?_)
        · intro y_13
          try dsimp only
          refine pf_bnv (ym_fX10_push y_13 s_12 ) (fun s_15 p_s_15 => ?_)
          have g_s_15 : FM_ s0 s_15 := (g_s_12).tr p_s_15
          refine pf_bv (fun s_16 e_s_16 => ?_)
          have g_s_16 : FM_ s0 s_16 := by rw [e_s_16]; exact FM_.si g_s_15 rfl
          clear e_s_16
          exact hk_3 s_16 g_s_16
        refine pf_if ?_ ?_
        · skip
          exact hk_14 5 
        · skip
          exact hk_14 6 
      refine pf_if ?_ ?_
      · skip
        exact hk_11  
      · skip
        refine pf_if ?_ ?_
        · skip
          exact hk_11  
        · skip
          refine pf_bnv (ym_fX10_settle 3 s0 ) (fun s_17 p_s_17 => ?_)
          have g_s_17 : FM_ s0 s_17 := (FM_.rf).tr p_s_17
          refine pf_bv (fun s_18 e_s_18 => ?_)
          have g_s_18 : FM_ s0 s_18 := by rw [e_s_18]; exact FM_.si g_s_17 rfl
          clear e_s_18
          refine pf_bv (fun s_19 e_s_19 => ?_)
          have g_s_19 : FM_ s0 s_19 := by rw [e_s_19]; exact FM_.si g_s_18 rfl
          clear e_s_19
          refine pf_bnv (ym_fX10_whole s_19 ) (fun s_21 p_s_21 => ?_)
          have g_s_21 : FM_ s0 s_21 := (g_s_19).tr p_s_21
          exact hk_3 s_21 g_s_21
set_option maxRecDepth 20000 in
theorem ym_fX10_hasParen (s0 : Sg)  : pf_ (fX10_hasParen s0) (fun q => FM_ s0 q.2) := by
  generalize hQ0 : (fun q : (Bool × Sg) => FM_ s0 q.2) = Q
  have hQ : ∀ r {x : Sg}, FM_ s0 x → Q (r, x) := fun r x h => by rw [← hQ0]; exact h
  clear hQ0
  unfold fX10_hasParen
  refine pf_lo1 (fun (_ : Int32) => True) ?_ FU 0 trivial
  intro rec2 x1_1 _ hr0_
  have hrec2 : ∀ (x1_1 : Int32), pf_ (rec2 x1_1) Q := fun x1_1 => hr0_ x1_1 trivial
  clear hr0_
  unfold fX10_hasParen_2_b
  refine pf_if ?_ ?_
  · skip
    exact pf_some (hQ _ FM_.rf)
  · skip
    refine pf_chk (fun _ => ?_)
    refine pf_if ?_ ?_
    · skip
      exact pf_some (hQ _ FM_.rf)
    · skip
      refine pf_bv (fun v_3 e_v_3 => ?_)
      clear e_v_3
      exact hrec2 v_3 
set_option maxRecDepth 20000 in
theorem ym_fX10_goesOn (s0 : Sg)  : pf_ (fX10_goesOn s0) (fun q => FM_ s0 q.2) := by
  generalize hQ0 : (fun q : (Bool × Sg) => FM_ s0 q.2) = Q
  have hQ : ∀ r {x : Sg}, FM_ s0 x → Q (r, x) := fun r x h => by rw [← hQ0]; exact h
  clear hQ0
  unfold fX10_goesOn
  refine pf_if ?_ ?_
  · skip
    exact pf_some (hQ _ FM_.rf)
  · skip
    refine pf_if ?_ ?_
    · skip
      exact pf_some (hQ _ FM_.rf)
    · skip
      refine pf_if ?_ ?_
      · skip
        exact pf_some (hQ _ FM_.rf)
      · skip
        refine pf_if ?_ ?_
        · skip
          exact pf_some (hQ _ FM_.rf)
        · skip
          refine pf_if ?_ ?_
          · skip
            refine pf_bnd (ym_fX10_hasParen s0 ) (fun r_1 s_2 p_s_2 => ?_)
            have g_s_2 : FM_ s0 s_2 := (FM_.rf).tr p_s_2
            refine pf_if ?_ ?_
            · skip
              exact pf_some (hQ _ g_s_2)
            · skip
              exact pf_some (hQ _ g_s_2)
          · skip
            exact pf_some (hQ _ FM_.rf)
set_option maxRecDepth 20000 in
theorem ym_fX10_summed (s0 : Sg)  : pf_ (fX10_summed s0) (fun q => FM_ s0 q.2) := by
  generalize hQ0 : (fun q : (Int32 × Sg) => FM_ s0 q.2) = Q
  have hQ : ∀ r {x : Sg}, FM_ s0 x → Q (r, x) := fun r x h => by rw [← hQ0]; exact h
  clear hQ0
  unfold fX10_summed
  refine pf_bv (fun s_1 e_s_1 => ?_)
  have g_s_1 : FM_ s0 s_1 := by rw [e_s_1]; exact FM_.si FM_.rf rfl
  clear e_s_1
  refine pf_bv (fun s_2 e_s_2 => ?_)
  have g_s_2 : FM_ s0 s_2 := by rw [e_s_2]; exact FM_.si g_s_1 rfl
  clear e_s_2
  refine pf_jn (fun k_4 => ∀ (s_3 : Sg), FM_ s0 s_3 → pf_ (k_4 s_3) Q) ?_ (fun k_4 hk_4 => ?_)
  · intro s_3 g_s_3
    try dsimp only
    refine pf_bnv (ym_fX10_settle 3 s_3 ) (fun s_5 p_s_5 => ?_)
    have g_s_5 : FM_ s0 s_5 := (g_s_3).tr p_s_5
    refine pf_if ?_ ?_
    · skip
      exact pf_some (hQ _ g_s_5)
    · skip
      exact pf_some (hQ _ g_s_5)
  refine pf_lo1 (fun s_6 => FM_ s0 s_6) ?_ FU s_2 g_s_2
  intro rec10 s_6 g_s_6 hr0_
  have hrec10 : ∀ (s_6 : Sg), FM_ s0 s_6 → pf_ (rec10 s_6) Q := fun s_6 z_s_6 => hr0_ s_6 z_s_6
  clear hr0_
  unfold fX10_summed_10_b
  refine pf_jn (fun k_8 => ∀ (s_7 : Sg), FM_ s0 s_7 → pf_ (k_8 s_7) Q) ?_ (fun k_8 hk_8 => ?_)
  · intro s_7 g_s_7
    try dsimp only
    refine pf_jn (fun k_11 => ∀ (y_9 : Int32) (s_10 : Sg), FM_ s0 s_10 → pf_ (k_11 y_9 s_10) Q) ?_ (fun k_11 hk_11 => ?_)
    · intro y_9 s_10 g_s_10
      try dsimp only
      refine pf_if ?_ ?_
      · skip
        exact hrec10 s_10 g_s_10
      · skip
        exact pf_some (hQ _ g_s_10)
    refine pf_if ?_ ?_
    · skip
      refine pf_bnd (ym_fX10_beginOne s_7 ) (fun r_14 s_15 p_s_15 => ?_)
      have g_s_15 : FM_ s0 s_15 := (g_s_7).tr p_s_15
      exact hk_11 r_14 s_15 g_s_15
    · skip
      refine pf_bnd (ym_fX10_behindOne s_7 ) (fun r_16 s_17 p_s_17 => ?_)
      have g_s_17 : FM_ s0 s_17 := (g_s_7).tr p_s_17
      exact hk_11 r_16 s_17 g_s_17
  refine pf_if ?_ ?_
  · skip
    exact hk_8 s_6 g_s_6
  · skip
    refine pf_bnd (ym_fX10_goesOn s_6 ) (fun r_18 s_19 p_s_19 => ?_)
    have g_s_19 : FM_ s0 s_19 := (g_s_6).tr p_s_19
    refine pf_if ?_ ?_
    · skip
      exact hk_4 s_19 g_s_19
    · skip
      exact hk_8 s_19 g_s_19
set_option maxRecDepth 20000 in
theorem ym_fX10_compareOf (s0 : Sg)  : pf_ (fX10_compareOf s0) (fun q => FM_ s0 q.2) := by
  generalize hQ0 : (fun q : (Int32 × Sg) => FM_ s0 q.2) = Q
  have hQ : ∀ r {x : Sg}, FM_ s0 x → Q (r, x) := fun r x h => by rw [← hQ0]; exact h
  clear hQ0
  unfold fX10_compareOf
  refine pf_if ?_ ?_
  · skip
    exact pf_some (hQ _ FM_.rf)
  · skip
    refine pf_if ?_ ?_
    · skip
      exact pf_some (hQ _ FM_.rf)
    · skip
      refine pf_if ?_ ?_
      · skip
        exact pf_some (hQ _ FM_.rf)
      · skip
        refine pf_if ?_ ?_
        · skip
          exact pf_some (hQ _ FM_.rf)
        · skip
          refine pf_if ?_ ?_
          · skip
            exact pf_some (hQ _ FM_.rf)
          · skip
            refine pf_if ?_ ?_
            · skip
              exact pf_some (hQ _ FM_.rf)
            · skip
              exact pf_some (hQ _ FM_.rf)
set_option maxRecDepth 20000 in
theorem ym_fX10_asks (s0 : Sg)  : pf_ (fX10_asks s0) (fun q => FM_ s0 q.2) := by
  generalize hQ0 : (fun q : (Int32 × Sg) => FM_ s0 q.2) = Q
  have hQ : ∀ r {x : Sg}, FM_ s0 x → Q (r, x) := fun r x h => by rw [← hQ0]; exact h
  clear hQ0
  unfold fX10_asks
  refine pf_jn (fun k_3 => ∀ (x1_1 : Int32) (s_2 : Sg), FM_ s0 s_2 → pf_ (k_3 x1_1 s_2) Q) ?_ (fun k_3 hk_3 => ?_)
  · intro x1_1 s_2 g_s_2
    try dsimp only
    refine pf_bnd (ym_fX10_summed s_2 ) (fun r_4 s_5 p_s_5 => ?_)
    have g_s_5 : FM_ s0 s_5 := (g_s_2).tr p_s_5
    refine pf_if ?_ ?_
    · skip
      refine pf_bnd (ym_fX10_compareOf s_5 ) (fun r_6 s_7 p_s_7 => ?_)
      have g_s_7 : FM_ s0 s_7 := (g_s_5).tr p_s_7
      refine pf_if ?_ ?_
      · skip
        refine pf_bnv (ym_fX10_nextToken s_7 ) (fun s_8 p_s_8 => ?_)
        have g_s_8 : FM_ s0 s_8 := (g_s_7).tr p_s_8
        refine pf_bnd (ym_fX10_summed s_8 ) (fun r_9 s_10 p_s_10 => ?_)
        have g_s_10 : FM_ s0 s_10 := (g_s_8).tr p_s_10
        refine pf_if ?_ ?_
        · skip
          refine pf_bnv (ym_fX10_emit r_6 0 s_10 ) (fun s_11 p_s_11 => ?_)
          have g_s_11 : FM_ s0 s_11 := (g_s_10).tr p_s_11
          refine pf_bv (fun s_12 e_s_12 => ?_)
          have g_s_12 : FM_ s0 s_12 := by rw [e_s_12]; exact FM_.si g_s_11 rfl
          clear e_s_12
          refine pf_lo2 (fun (_ : Int32) s_14 => FM_ s0 s_14) ?_ FU 0 s_12 g_s_12
          intro rec105 x4_13 s_14 g_s_14 hr0_
          have hrec105 : ∀ (x4_13 : Int32) (s_14 : Sg), FM_ s0 s_14 → pf_ (rec105 x4_13 s_14) Q := fun x4_13 s_14 z_s_14 => hr0_ x4_13 s_14 z_s_14
          clear hr0_
          unfold fX10_asks_105_b
          refine pf_if ?_ ?_
          · skip
            exact pf_some (hQ _ g_s_14)
          · skip
            refine pf_bnv (ym_fX10_emit 20 0 s_14 ) (fun s_15 p_s_15 => ?_)
            have g_s_15 : FM_ s0 s_15 := (g_s_14).tr p_s_15
            refine pf_bv (fun v_16 e_v_16 => ?_)
            clear e_v_16
            exact hrec105 v_16 s_15 g_s_15
        · skip
          exact pf_some (hQ _ g_s_10)
      · skip
        exact pf_some (hQ _ g_s_7)
    · skip
      exact pf_some (hQ _ g_s_5)
  refine pf_lo2 (fun (_ : Int32) s_18 => FM_ s0 s_18) ?_ FU 0 s0 FM_.rf
  intro rec2 x1_17 s_18 g_s_18 hr0_
  have hrec2 : ∀ (x1_17 : Int32) (s_18 : Sg), FM_ s0 s_18 → pf_ (rec2 x1_17 s_18) Q := fun x1_17 s_18 z_s_18 => hr0_ x1_17 s_18 z_s_18
  clear hr0_
  unfold fX10_asks_2_b
  refine pf_bnd (ym_fX10_w3 110 111 116 s_18 ) (fun r_19 s_20 p_s_20 => ?_)
  have g_s_20 : FM_ s0 s_20 := (g_s_18).tr p_s_20
  refine pf_bnd (ym_fX10_isWord r_19 s_20 ) (fun r_21 s_22 p_s_22 => ?_)
  have g_s_22 : FM_ s0 s_22 := (g_s_20).tr p_s_22
  refine pf_if ?_ ?_
  · skip
    exact hk_3 x1_17 s_22 g_s_22
  · skip
    refine pf_if ?_ ?_
    · skip
      exact pf_some (hQ _ g_s_22)
    · skip
      refine pf_bv (fun s_23 e_s_23 => ?_)
      have g_s_23 : FM_ s0 s_23 := by rw [e_s_23]; exact FM_.si g_s_22 rfl
      clear e_s_23
      refine pf_bv (fun v_24 e_v_24 => ?_)
      clear e_v_24
      refine pf_bnv (ym_fX10_nextToken s_23 ) (fun s_25 p_s_25 => ?_)
      have g_s_25 : FM_ s0 s_25 := (g_s_23).tr p_s_25
      exact hrec2 v_24 s_25 g_s_25
set_option maxRecDepth 20000 in
theorem ym_fX10_either (s0 : Sg)  : pf_ (fX10_either s0) (fun q => FM_ s0 q.2) := by
  generalize hQ0 : (fun q : (Int32 × Sg) => FM_ s0 q.2) = Q
  have hQ : ∀ r {x : Sg}, FM_ s0 x → Q (r, x) := fun r x h => by rw [← hQ0]; exact h
  clear hQ0
  unfold fX10_either
  refine pf_lo4 (fun (_ : Bool) (_ : Bool) (_ : Bool) s_4 => FM_ s0 s_4) ?_ FU false false true s0 FM_.rf
  intro rec6 x1_1 x2_2 x3_3 s_4 g_s_4 hr0_
  have hrec6 : ∀ (x1_1 : Bool) (x2_2 : Bool) (x3_3 : Bool) (s_4 : Sg), FM_ s0 s_4 → pf_ (rec6 x1_1 x2_2 x3_3 s_4) Q := fun x1_1 x2_2 x3_3 s_4 z_s_4 => hr0_ x1_1 x2_2 x3_3 s_4 z_s_4
  clear hr0_
  unfold fX10_either_6_b
  refine pf_if ?_ ?_
  · skip
    exact pf_some (hQ _ g_s_4)
  · skip
    refine pf_bnd (ym_fX10_asks s_4 ) (fun r_5 s_6 p_s_6 => ?_)
    have g_s_6 : FM_ s0 s_6 := (g_s_4).tr p_s_6
    refine pf_if ?_ ?_
    · skip
      refine pf_jn (fun k_8 => ∀ (s_7 : Sg), FM_ s0 s_7 → pf_ (k_8 s_7) Q) ?_ (fun k_8 hk_8 => ?_)
      · intro s_7 g_s_7
        try dsimp only
        refine pf_bnd (ym_fX10_w3 97 110 100 s_7 ) (fun r_9 s_10 p_s_10 => ?_)
        have g_s_10 : FM_ s0 s_10 := (g_s_7).tr p_s_10
        refine pf_bnd (ym_fX10_isWord r_9 s_10 ) (fun r_11 s_12 p_s_12 => ?_)
        have g_s_12 : FM_ s0 s_12 := (g_s_10).tr p_s_12
        refine pf_jn (fun k_14 => ∀ (y_13 : Bool), pf_ (k_14 y_13) Q) ?_ (fun k_14 hk_14 => ?_)
        · intro y_13
          try dsimp only
          refine pf_jn (fun k_17 => ∀ (x2_15 : Bool) (s_16 : Sg), FM_ s0 s_16 → pf_ (k_17 x2_15 s_16) Q) ?_ (fun k_17 hk_17 => ?_)
          · intro x2_15 s_16 g_s_16
            try dsimp only
            refine pf_jn (fun k_19 => ∀ (y_18 : Bool), pf_ (k_19 y_18) Q) ?_ (fun k_19 hk_19 => ?_)
            · intro y_18
              try dsimp only
              refine pf_jn (fun k_21 => ∀ (s_20 : Sg), FM_ s0 s_20 → pf_ (k_21 s_20) Q) ?_ (fun k_21 hk_21 => ?_)
              · intro s_20 g_s_20
                try dsimp only
                exact hrec6 r_11 x2_15 y_18 s_20 g_s_20
              refine pf_if ?_ ?_
              · skip
                exact hk_21 s_16 g_s_16
              · skip
                refine pf_bnv (ym_fX10_nextToken s_16 ) (fun s_23 p_s_23 => ?_)
                have g_s_23 : FM_ s0 s_23 := (g_s_16).tr p_s_23
                exact hk_21 s_23 g_s_23
            refine pf_jn (fun k_24 => pf_ k_24 Q) ?_ (fun k_24 hk_24 => ?_)
            · skip
              exact hk_19 true 
            refine pf_if ?_ ?_
            · skip
              refine pf_if ?_ ?_
              · skip
                exact hk_19 false 
              · skip
                exact hk_24  
            · skip
              exact hk_24  
          refine pf_if ?_ ?_
          · skip
            refine pf_jn (fun k_26 => ∀ (s_25 : Sg), FM_ s0 s_25 → pf_ (k_26 s_25) Q) ?_ (fun k_26 hk_26 => ?_)
            · intro s_25 g_s_25
              try dsimp only
              exact hk_17 y_13 s_25 g_s_25
            refine pf_if ?_ ?_
            · skip
              exact hk_26 s_12 g_s_12
            · skip
              refine pf_bnv (ym_fX10_emit 22 0 s_12 ) (fun s_28 p_s_28 => ?_)
              have g_s_28 : FM_ s0 s_28 := (g_s_12).tr p_s_28
              exact hk_26 s_28 g_s_28
          · skip
            exact hk_17 x2_2 s_12 g_s_12
        refine pf_jn (fun k_29 => pf_ k_29 Q) ?_ (fun k_29 hk_29 => ?_)
        · skip
          exact hk_14 false 
        refine pf_if ?_ ?_
        · skip
          refine pf_if ?_ ?_
          · skip
            exact hk_14 true 
          · skip
            exact hk_29  
        · skip
          exact hk_29  
      refine pf_if ?_ ?_
      · skip
        exact hk_8 s_6 g_s_6
      · skip
        refine pf_bnv (ym_fX10_emit 21 0 s_6 ) (fun s_31 p_s_31 => ?_)
        have g_s_31 : FM_ s0 s_31 := (g_s_6).tr p_s_31
        exact hk_8 s_31 g_s_31
    · skip
      exact pf_some (hQ _ g_s_6)
set_option maxRecDepth 20000 in
theorem ym_fX10_clause (s0 : Sg)  : pf_ (fX10_clause s0) (fun q => FM_ s0 q.2) := by
  generalize hQ0 : (fun q : (Int32 × Sg) => FM_ s0 q.2) = Q
  have hQ : ∀ r {x : Sg}, FM_ s0 x → Q (r, x) := fun r x h => by rw [← hQ0]; exact h
  clear hQ0
  unfold fX10_clause
  refine pf_bnd (ym_fX10_sortOf s0 ) (fun r_1 s_2 p_s_2 => ?_)
  have g_s_2 : FM_ s0 s_2 := (FM_.rf).tr p_s_2
  refine pf_if ?_ ?_
  · skip
    refine pf_jn (fun k_3 => pf_ k_3 Q) ?_ (fun k_3 hk_3 => ?_)
    · skip
      refine pf_chk (fun _ => ?_)
      refine pf_bv (fun v_5 e_v_5 => ?_)
      clear e_v_5
      refine pf_if ?_ ?_
      · skip
        exact pf_some (hQ _ g_s_2)
      · skip
        refine pf_jn (fun k_7 => ∀ (s_6 : Sg), FM_ s0 s_6 → pf_ (k_7 s_6) Q) ?_ (fun k_7 hk_7 => ?_)
        · intro s_6 g_s_6
          try dsimp only
          refine pf_bv (fun s_8 e_s_8 => ?_)
          have g_s_8 : FM_ s0 s_8 := by rw [e_s_8]; exact FM_.si g_s_6 rfl
          clear e_s_8
          refine pf_bnv (ym_fX10_nextToken s_8 ) (fun s_9 p_s_9 => ?_)
          have g_s_9 : FM_ s0 s_9 := (g_s_8).tr p_s_9
          refine pf_bv (fun v_10 e_v_10 => ?_)
          clear e_v_10
          refine pf_chk (fun _ => ?_)
          refine pf_bv (fun s_12 e_s_12 => ?_)
          have g_s_12 : FM_ s0 s_12 := by rw [e_s_12]; exact FM_.si g_s_9 rfl
          clear e_s_12
          refine pf_bv (fun v_13 e_v_13 => ?_)
          clear e_v_13
          refine pf_jn (fun k_16 => ∀ (y_14 : Int32) (s_15 : Sg), FM_ s0 s_15 → pf_ (k_16 y_14 s_15) Q) ?_ (fun k_16 hk_16 => ?_)
          · intro y_14 s_15 g_s_15
            try dsimp only
            refine pf_if ?_ ?_
            · skip
              refine pf_jn (fun k_18 => ∀ (s_17 : Sg), FM_ s0 s_17 → pf_ (k_18 s_17) Q) ?_ (fun k_18 hk_18 => ?_)
              · intro s_17 g_s_17
                try dsimp only
                refine pf_chk (fun _ => ?_)
                refine pf_bv (fun s_20 e_s_20 => ?_)
                have g_s_20 : FM_ s0 s_20 := by rw [e_s_20]; exact FM_.si g_s_17 rfl
                clear e_s_20
                refine pf_if ?_ ?_
                · skip
                  refine pf_bnv (ym_fX10_nextToken s_20 ) (fun s_21 p_s_21 => ?_)
                  have g_s_21 : FM_ s0 s_21 := (g_s_20).tr p_s_21
                  exact pf_some (hQ _ g_s_21)
                · skip
                  exact pf_some (hQ _ g_s_20)
              refine pf_if ?_ ?_
              · skip
                exact hk_18 s_15 g_s_15
              · skip
                refine pf_chk (fun _ => ?_)
                refine pf_bv (fun s_23 e_s_23 => ?_)
                have g_s_23 : FM_ s0 s_23 := by rw [e_s_23]; exact FM_.si g_s_15 rfl
                clear e_s_23
                refine pf_chk (fun _ => ?_)
                refine pf_bv (fun s_25 e_s_25 => ?_)
                have g_s_25 : FM_ s0 s_25 := by rw [e_s_25]; exact FM_.si g_s_23 rfl
                clear e_s_25
                exact hk_18 s_25 g_s_25
            · skip
              exact pf_some (hQ _ g_s_15)
          refine pf_if ?_ ?_
          · skip
            refine pf_bnd (ym_fX10_laid v_10 s_12 ) (fun r_37 s_38 p_s_38 => ?_)
            have g_s_38 : FM_ s0 s_38 := (g_s_12).tr p_s_38
            exact hk_16 r_37 s_38 g_s_38
          · skip
            refine pf_if ?_ ?_
            · skip
              refine pf_if ?_ ?_
              · skip
                refine pf_bnd (ym_fX10_summed s_12 ) (fun r_30 s_31 p_s_31 => ?_)
                have g_s_31 : FM_ s0 s_31 := (g_s_12).tr p_s_31
                exact hk_16 r_30 s_31 g_s_31
              · skip
                refine pf_bnd (ym_fX10_either s_12 ) (fun r_28 s_29 p_s_29 => ?_)
                have g_s_29 : FM_ s0 s_29 := (g_s_12).tr p_s_29
                exact hk_16 r_28 s_29 g_s_29
            · skip
              refine pf_jn (fun k_34 => ∀ (y_32 : Int32) (y_33 : Int32), pf_ (k_34 y_32 y_33) Q) ?_ (fun k_34 hk_34 => ?_)
              · intro y_32 y_33
                try dsimp only
                refine pf_bnd (ym_fX10_figure y_32 y_33 s_12 ) (fun r_35 s_36 p_s_36 => ?_)
                have g_s_36 : FM_ s0 s_36 := (g_s_12).tr p_s_36
                exact hk_16 r_35 s_36 g_s_36
              refine pf_if ?_ ?_
              · skip
                exact hk_34 (v_10 + 1) 11 
              · skip
                exact hk_34 (v_10 + 1) 99 
        refine pf_if ?_ ?_
        · skip
          exact hk_7 s_2 g_s_2
        · skip
          refine pf_bv (fun s_39 e_s_39 => ?_)
          have g_s_39 : FM_ s0 s_39 := by rw [e_s_39]; exact FM_.si g_s_2 rfl
          clear e_s_39
          exact hk_7 s_39 g_s_39
    refine pf_if ?_ ?_
    · skip
      exact hk_3  
    · skip
      refine pf_if ?_ ?_
      · skip
        exact pf_some (hQ _ g_s_2)
      · skip
        exact hk_3  
  · skip
    exact pf_some (hQ _ g_s_2)
set_option maxRecDepth 20000 in
theorem ym_fX10_readText (s0 : Sg)  : pf_ (fX10_readText s0) (fun q => FM_ s0 q.2) := by
  generalize hQ0 : (fun q : (Int32 × Sg) => FM_ s0 q.2) = Q
  have hQ : ∀ r {x : Sg}, FM_ s0 x → Q (r, x) := fun r x h => by rw [← hQ0]; exact h
  clear hQ0
  unfold fX10_readText
  refine pf_bv (fun s_1 e_s_1 => ?_)
  have g_s_1 : FM_ s0 s_1 := by rw [e_s_1]; exact FM_.si FM_.rf rfl
  clear e_s_1
  refine pf_chk (fun _ => ?_)
  refine pf_bv (fun s_3 e_s_3 => ?_)
  have g_s_3 : FM_ s0 s_3 := by rw [e_s_3]; exact FM_.si g_s_1 rfl
  clear e_s_3
  refine pf_bv (fun s_4 e_s_4 => ?_)
  have g_s_4 : FM_ s0 s_4 := by rw [e_s_4]; exact FM_.si g_s_3 rfl
  clear e_s_4
  refine pf_bv (fun s_5 e_s_5 => ?_)
  have g_s_5 : FM_ s0 s_5 := by rw [e_s_5]; exact FM_.si g_s_4 rfl
  clear e_s_5
  refine pf_bv (fun s_6 e_s_6 => ?_)
  have g_s_6 : FM_ s0 s_6 := by rw [e_s_6]; exact FM_.si g_s_5 rfl
  clear e_s_6
  refine pf_bv (fun s_7 e_s_7 => ?_)
  have g_s_7 : FM_ s0 s_7 := by rw [e_s_7]; exact FM_.si g_s_6 rfl
  clear e_s_7
  refine pf_bnv (ym_fX10_nextToken s_7 ) (fun s_9 p_s_9 => ?_)
  have g_s_9 : FM_ s0 s_9 := (g_s_7).tr p_s_9
  refine pf_lo1 (fun s_10 => FM_ s0 s_10) ?_ FU s_9 g_s_9
  intro rec49 s_10 g_s_10 hr0_
  have hrec49 : ∀ (s_10 : Sg), FM_ s0 s_10 → pf_ (rec49 s_10) Q := fun s_10 z_s_10 => hr0_ s_10 z_s_10
  clear hr0_
  unfold fX10_readText_49_b
  refine pf_if ?_ ?_
  · skip
    exact pf_some (hQ _ g_s_10)
  · skip
    refine pf_bnd (ym_fX10_clause s_10 ) (fun r_11 s_12 p_s_12 => ?_)
    have g_s_12 : FM_ s0 s_12 := (g_s_10).tr p_s_12
    refine pf_if ?_ ?_
    · skip
      exact hrec49 s_12 g_s_12
    · skip
      exact pf_some (hQ _ g_s_12)
set_option maxRecDepth 20000 in
theorem ym_fX10_text (s0 : Sg)  : pf_ (fX10_text s0) (fun q => FM_ s0 q.2) := by
  generalize hQ0 : (fun q : (Int32 × Sg) => FM_ s0 q.2) = Q
  have hQ : ∀ r {x : Sg}, FM_ s0 x → Q (r, x) := fun r x h => by rw [← hQ0]; exact h
  clear hQ0
  unfold fX10_text
  refine pf_if ?_ ?_
  · skip
    exact pf_some (hQ _ FM_.rf)
  · skip
    refine pf_bnd (ym_fX10_readText s0 ) (fun r_1 s_2 p_s_2 => ?_)
    have g_s_2 : FM_ s0 s_2 := (FM_.rf).tr p_s_2
    refine pf_bv (fun s_3 e_s_3 => ?_)
    have g_s_3 : FM_ s0 s_3 := by rw [e_s_3]; exact FM_.si g_s_2 rfl
    clear e_s_3
    refine pf_jn (fun k_5 => ∀ (y_4 : Int32), pf_ (k_5 y_4) Q) ?_ (fun k_5 hk_5 => ?_)
    · intro y_4
      try dsimp only
      refine pf_bv (fun s_6 e_s_6 => ?_)
      have g_s_6 : FM_ s0 s_6 := by rw [e_s_6]; exact FM_.si g_s_3 rfl
      clear e_s_6
      refine pf_bv (fun s_7 e_s_7 => ?_)
      have g_s_7 : FM_ s0 s_7 := by rw [e_s_7]; exact FM_.si g_s_6 rfl
      clear e_s_7
      refine pf_if ?_ ?_
      · skip
        refine pf_bv (fun s_8 e_s_8 => ?_)
        have g_s_8 : FM_ s0 s_8 := by rw [e_s_8]; exact FM_.si g_s_7 rfl
        clear e_s_8
        exact pf_some (hQ _ g_s_8)
      · skip
        exact pf_some (hQ _ g_s_7)
    refine pf_if ?_ ?_
    · skip
      exact hk_5 (-1) 
    · skip
      exact hk_5 (gi s_3 27 8) 
set_option maxRecDepth 20000 in
theorem ym_fX10_four (a1 : Int32) (s0 : Sg)  : pf_ (fX10_four a1 s0) (fun q => FM_ s0 q) := by
  generalize hQ0 : (fun q : (Sg) => FM_ s0 q) = Q
  have hQ : ∀ (_ : Unit) {x : Sg}, FM_ s0 x → Q x := fun _ x h => by rw [← hQ0]; exact h
  clear hQ0
  unfold fX10_four
  refine pf_lo2 (fun (_ : Int32) s_2 => FM_ s0 s_2) ?_ FU 24 s0 FM_.rf
  intro rec3 x2_1 s_2 g_s_2 hr0_
  have hrec3 : ∀ (x2_1 : Int32) (s_2 : Sg), FM_ s0 s_2 → pf_ (rec3 x2_1 s_2) Q := fun x2_1 s_2 z_s_2 => hr0_ x2_1 s_2 z_s_2
  clear hr0_
  unfold fX10_four_3_b
  refine pf_if ?_ ?_
  · skip
    exact pf_some (hQ () g_s_2)
  · skip
    refine pf_chk (fun _ => ?_)
    refine pf_bv (fun s_4 e_s_4 => ?_)
    have g_s_4 : FM_ s0 s_4 := by rw [e_s_4]; exact FM_.si g_s_2 rfl
    clear e_s_4
    refine pf_bv (fun s_5 e_s_5 => ?_)
    have g_s_5 : FM_ s0 s_5 := by rw [e_s_5]; exact FM_.si g_s_4 rfl
    clear e_s_5
    refine pf_bv (fun v_6 e_v_6 => ?_)
    clear e_v_6
    exact hrec3 v_6 s_5 g_s_5
set_option maxRecDepth 20000 in
theorem ym_fX10_feed (a1 : Int32) (a2 : Int32) (a3 : Int32) (a4 : Int32) (a5 : Int32) (s0 : Sg)  : pf_ (fX10_feed a1 a2 a3 a4 a5 s0) (fun q => FM_ s0 q.2) := by
  generalize hQ0 : (fun q : (Int32 × Sg) => FM_ s0 q.2) = Q
  have hQ : ∀ r {x : Sg}, FM_ s0 x → Q (r, x) := fun r x h => by rw [← hQ0]; exact h
  clear hQ0
  unfold fX10_feed
  refine pf_if ?_ ?_
  · skip
    refine pf_bnv (ym_fX10_four a1 s0 ) (fun s_1 p_s_1 => ?_)
    have g_s_1 : FM_ s0 s_1 := (FM_.rf).tr p_s_1
    refine pf_bnv (ym_fX10_four a2 s_1 ) (fun s_2 p_s_2 => ?_)
    have g_s_2 : FM_ s0 s_2 := (g_s_1).tr p_s_2
    refine pf_bnv (ym_fX10_four a3 s_2 ) (fun s_3 p_s_3 => ?_)
    have g_s_3 : FM_ s0 s_3 := (g_s_2).tr p_s_3
    refine pf_bnv (ym_fX10_four a4 s_3 ) (fun s_4 p_s_4 => ?_)
    have g_s_4 : FM_ s0 s_4 := (g_s_3).tr p_s_4
    refine pf_bnv (ym_fX10_four a5 s_4 ) (fun s_5 p_s_5 => ?_)
    have g_s_5 : FM_ s0 s_5 := (g_s_4).tr p_s_5
    exact pf_some (hQ _ g_s_5)
  · skip
    exact pf_some (hQ _ FM_.rf)
