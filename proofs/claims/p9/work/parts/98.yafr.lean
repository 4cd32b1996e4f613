/-! the reader's asks (4, 8) is kept -/
def pe_ (k j : Nat) : Bool := k == 4 && j == 8
theorem pe_big {k j : Nat} (h : 48 ≤ k) : pe_ k j = false := by
  have : (k == 4) = false := by simp; omega
  unfold pe_
  rw [this]; rfl
def FE_ (s t : Sg) : Prop := ∀ k j, pe_ k j = true → gi t k j = gi s k j
theorem FE_.rf {s : Sg} : FE_ s s := fun _ _ _ => rfl
theorem FE_.tr {s t u : Sg} (h1 : FE_ s t) (h2 : FE_ t u) : FE_ s u := fun k j h => by rw [h2 k j h, h1 k j h]
theorem FE_.si {s t : Sg} {k j : Nat} {v : Int32} (h : FE_ s t) (hp : pe_ k j = false) : FE_ s (si t k j v) := fun k' j' h' => by
  by_cases hk : k' = k
  · subst hk
    by_cases hj : j' = j
    · subst hj; rw [hp] at h'; exact nomatch h'
    · rw [gsi_ne hj]; exact h k' j' h'
  · rw [gsi_k hk]; exact h k' j' h'
theorem FE_.sr {s t : Sg} {k j v : Nat} (h : FE_ s t) : FE_ s (sr t k j v) := fun k' j' h' => h k' j' h'
theorem FE_.sl {s t : Sg} {k j : Nat} {v : Int64} (h : FE_ s t) : FE_ s (sl t k j v) := fun k' j' h' => h k' j' h'
set_option maxRecDepth 20000 in
theorem ye_fX2_keepWaiting (a1 : Int32) (s0 : Sg)  : pf_ (fX2_keepWaiting a1 s0) (fun q => FE_ s0 q) := by
  generalize hQ0 : (fun q : (Sg) => FE_ s0 q) = Q
  have hQ : ∀ (_ : Unit) {x : Sg}, FE_ s0 x → Q x := fun _ x h => by rw [← hQ0]; exact h
  clear hQ0
  unfold fX2_keepWaiting
  refine pf_if ?_ ?_
  · skip
    exact pf_some (hQ () FE_.rf)
  · skip
    refine pf_chk (fun _ => ?_)
    refine pf_bv (fun s_2 e_s_2 => ?_)
    have g_s_2 : FE_ s0 s_2 := by rw [e_s_2]; exact FE_.si FE_.rf rfl
    clear e_s_2
    refine pf_bv (fun s_3 e_s_3 => ?_)
    have g_s_3 : FE_ s0 s_3 := by rw [e_s_3]; exact FE_.si g_s_2 rfl
    clear e_s_3
    exact pf_some (hQ () g_s_3)
set_option maxRecDepth 20000 in
theorem ye_fX2_fail (a1 : Int32) (s0 : Sg)  : pf_ (fX2_fail a1 s0) (fun q => FE_ s0 q) := by
  generalize hQ0 : (fun q : (Sg) => FE_ s0 q) = Q
  have hQ : ∀ (_ : Unit) {x : Sg}, FE_ s0 x → Q x := fun _ x h => by rw [← hQ0]; exact h
  clear hQ0
  unfold fX2_fail
  refine pf_if ?_ ?_
  · skip
    refine pf_bv (fun s_1 e_s_1 => ?_)
    have g_s_1 : FE_ s0 s_1 := by rw [e_s_1]; exact FE_.si FE_.rf rfl
    clear e_s_1
    refine pf_bv (fun s_2 e_s_2 => ?_)
    have g_s_2 : FE_ s0 s_2 := by rw [e_s_2]; exact FE_.si g_s_1 rfl
    clear e_s_2
    exact pf_some (hQ () g_s_2)
  · skip
    exact pf_some (hQ () FE_.rf)
set_option maxRecDepth 20000 in
theorem ye_fX2_openOne (a1 : Int32) (s0 : Sg)  : pf_ (fX2_openOne a1 s0) (fun q => FE_ s0 q) := by
  generalize hQ0 : (fun q : (Sg) => FE_ s0 q) = Q
  have hQ : ∀ (_ : Unit) {x : Sg}, FE_ s0 x → Q x := fun _ x h => by rw [← hQ0]; exact h
  clear hQ0
  unfold fX2_openOne
  refine pf_if ?_ ?_
  · skip
    refine pf_bv (fun s_1 e_s_1 => ?_)
    have g_s_1 : FE_ s0 s_1 := by rw [e_s_1]; exact FE_.si FE_.rf rfl
    clear e_s_1
    refine pf_jn (fun k_4 => ∀ (y_2 : Int32) (y_3 : Bool), pf_ (k_4 y_2 y_3) Q) ?_ (fun k_4 hk_4 => ?_)
    · intro y_2 y_3
      try dsimp only
      refine pf_bv (fun s_5 e_s_5 => ?_)
      have g_s_5 : FE_ s0 s_5 := by rw [e_s_5]; exact FE_.si g_s_1 rfl
      clear e_s_5
      refine pf_jn (fun k_7 => ∀ (y_6 : Bool), pf_ (k_7 y_6) Q) ?_ (fun k_7 hk_7 => ?_)
      · intro y_6
        try dsimp only
        refine pf_bv (fun s_8 e_s_8 => ?_)
        have g_s_8 : FE_ s0 s_8 := by rw [e_s_8]; exact FE_.si g_s_5 rfl
        clear e_s_8
        refine pf_bnv (ye_fX2_keepWaiting a1 s_8 ) (fun s_9 p_s_9 => ?_)
        have g_s_9 : FE_ s0 s_9 := (g_s_8).tr p_s_9
        exact pf_some (hQ () g_s_9)
      refine pf_if ?_ ?_
      · skip
        exact hk_7 true 
      · skip
        exact hk_7 false 
    refine pf_if ?_ ?_
    · skip
      exact hk_4 (gi s_1 4 7) true 
    · skip
      exact hk_4 (gi s_1 4 7) false 
  · skip
    refine pf_bnv (ye_fX2_fail 3 s0 ) (fun s_10 p_s_10 => ?_)
    have g_s_10 : FE_ s0 s_10 := (FE_.rf).tr p_s_10
    exact pf_some (hQ () g_s_10)
set_option maxRecDepth 20000 in
theorem ye_fX2_operandFault (a1 : Int32) (s0 : Sg)  : pf_ (fX2_operandFault a1 s0) (fun q => FE_ s0 q.2) := by
  generalize hQ0 : (fun q : (Int32 × Sg) => FE_ s0 q.2) = Q
  have hQ : ∀ r {x : Sg}, FE_ s0 x → Q (r, x) := fun r x h => by rw [← hQ0]; exact h
  clear hQ0
  unfold fX2_operandFault
  refine pf_if ?_ ?_
  · skip
    refine pf_if ?_ ?_
    · skip
      exact pf_some (hQ _ FE_.rf)
    · skip
      exact pf_some (hQ _ FE_.rf)
  · skip
    refine pf_if ?_ ?_
    · skip
      refine pf_bv (fun v_1 e_v_1 => ?_)
      clear e_v_1
      refine pf_jn (fun k_3 => ∀ (y_2 : Bool), pf_ (k_3 y_2) Q) ?_ (fun k_3 hk_3 => ?_)
      · intro y_2
        try dsimp only
        refine pf_if ?_ ?_
        · skip
          exact pf_some (hQ _ FE_.rf)
        · skip
          exact pf_some (hQ _ FE_.rf)
      refine pf_jn (fun k_4 => pf_ k_4 Q) ?_ (fun k_4 hk_4 => ?_)
      · skip
        exact hk_3 true 
      refine pf_if ?_ ?_
      · skip
        exact hk_4  
      · skip
        refine pf_jn (fun k_6 => ∀ (y_5 : Bool), pf_ (k_6 y_5) Q) ?_ (fun k_6 hk_6 => ?_)
        · intro y_5
          try dsimp only
          refine pf_if ?_ ?_
          · skip
            exact hk_4  
          · skip
            exact hk_3 false 
        refine pf_if ?_ ?_
        · skip
          exact hk_6 false 
        · skip
          exact hk_6 true 
    · skip
      exact pf_some (hQ _ FE_.rf)
set_option maxRecDepth 20000 in
theorem ye_fX5_emit (q0 : Nat) (a1 : Int32) (s0 : Sg) (h_q0 : 48 ≤ q0) : pf_ (fX5_emit q0 a1 s0) (fun q => FE_ s0 q) := by
  generalize hQ0 : (fun q : (Sg) => FE_ s0 q) = Q
  have hQ : ∀ (_ : Unit) {x : Sg}, FE_ s0 x → Q x := fun _ x h => by rw [← hQ0]; exact h
  clear hQ0
  unfold fX5_emit
  refine pf_if ?_ ?_
  · skip
    exact pf_some (hQ () FE_.rf)
  · skip
    refine pf_chk (fun _ => ?_)
    refine pf_bv (fun s_2 e_s_2 => ?_)
    have g_s_2 : FE_ s0 s_2 := by rw [e_s_2]; exact FE_.si FE_.rf (pe_big (by omega))
    clear e_s_2
    refine pf_bv (fun s_3 e_s_3 => ?_)
    have g_s_3 : FE_ s0 s_3 := by rw [e_s_3]; exact FE_.si g_s_2 (pe_big (by omega))
    clear e_s_3
    exact pf_some (hQ () g_s_3)
set_option maxRecDepth 20000 in
theorem ye_fX2_takeOperand (a1 : Int32) (s0 : Sg)  : pf_ (fX2_takeOperand a1 s0) (fun q => FE_ s0 q) := by
  generalize hQ0 : (fun q : (Sg) => FE_ s0 q) = Q
  have hQ : ∀ (_ : Unit) {x : Sg}, FE_ s0 x → Q x := fun _ x h => by rw [← hQ0]; exact h
  clear hQ0
  unfold fX2_takeOperand
  refine pf_bv (fun q_1 e_q_1 => ?_)
  refine pf_chk (fun h_ => ?_)
  have c_7_ := scr_cases h_
  refine pf_bnv (ye_fX5_emit q_1 a1 s0 (by omega)) (fun s_3 p_s_3 => ?_)
  have g_s_3 : FE_ s0 s_3 := (FE_.rf).tr p_s_3
  refine pf_bv (fun s_4 e_s_4 => ?_)
  have g_s_4 : FE_ s0 s_4 := by rw [e_s_4]; exact FE_.si g_s_3 rfl
  clear e_s_4
  refine pf_bv (fun s_5 e_s_5 => ?_)
  have g_s_5 : FE_ s0 s_5 := by rw [e_s_5]; exact FE_.si g_s_4 rfl
  clear e_s_5
  exact pf_some (hQ () g_s_5)
set_option maxRecDepth 20000 in
theorem ye_fX2_readOperand (s0 : Sg)  : pf_ (fX2_readOperand s0) (fun q => FE_ s0 q) := by
  generalize hQ0 : (fun q : (Sg) => FE_ s0 q) = Q
  have hQ : ∀ (_ : Unit) {x : Sg}, FE_ s0 x → Q x := fun _ x h => by rw [← hQ0]; exact h
  clear hQ0
  unfold fX2_readOperand
  refine pf_bv (fun v_1 e_v_1 => ?_)
  clear e_v_1
  refine pf_jn (fun k_2 => pf_ k_2 Q) ?_ (fun k_2 hk_2 => ?_)
  · skip
    refine pf_jn (fun k_4 => ∀ (y_3 : Int32), pf_ (k_4 y_3) Q) ?_ (fun k_4 hk_4 => ?_)
    · intro y_3
      try dsimp only
      refine pf_bnv (ye_fX2_openOne y_3 s0 ) (fun s_5 p_s_5 => ?_)
      have g_s_5 : FE_ s0 s_5 := (FE_.rf).tr p_s_5
      exact pf_some (hQ () g_s_5)
    refine pf_if ?_ ?_
    · skip
      exact hk_4 14 
    · skip
      exact hk_4 v_1 
  refine pf_if ?_ ?_
  · skip
    exact hk_2  
  · skip
    refine pf_if ?_ ?_
    · skip
      exact hk_2  
    · skip
      refine pf_jn (fun k_6 => pf_ k_6 Q) ?_ (fun k_6 hk_6 => ?_)
      · skip
        refine pf_bnd (ye_fX2_operandFault v_1 s0 ) (fun r_7 s_8 p_s_8 => ?_)
        have g_s_8 : FE_ s0 s_8 := (FE_.rf).tr p_s_8
        refine pf_if ?_ ?_
        · skip
          refine pf_jn (fun k_10 => ∀ (y_9 : Int32), pf_ (k_10 y_9) Q) ?_ (fun k_10 hk_10 => ?_)
          · intro y_9
            try dsimp only
            refine pf_bnv (ye_fX2_takeOperand y_9 s_8 ) (fun s_12 p_s_12 => ?_)
            have g_s_12 : FE_ s0 s_12 := (g_s_8).tr p_s_12
            exact pf_some (hQ () g_s_12)
          refine pf_if ?_ ?_
          · skip
            exact hk_10 (gi s_8 3 5) 
          · skip
            exact hk_10 ((10000 + v_1) - 26) 
        · skip
          refine pf_bnv (ye_fX2_fail r_7 s_8 ) (fun s_13 p_s_13 => ?_)
          have g_s_13 : FE_ s0 s_13 := (g_s_8).tr p_s_13
          exact pf_some (hQ () g_s_13)
      refine pf_if ?_ ?_
      · skip
        refine pf_if ?_ ?_
        · skip
          exact hk_6  
        · skip
          exact hk_2  
      · skip
        exact hk_6  
set_option maxRecDepth 20000 in
theorem ye_fX2_settle (a1 : Int32) (s0 : Sg)  : pf_ (fX2_settle a1 s0) (fun q => FE_ s0 q) := by
  generalize hQ0 : (fun q : (Sg) => FE_ s0 q) = Q
  have hQ : ∀ (_ : Unit) {x : Sg}, FE_ s0 x → Q x := fun _ x h => by rw [← hQ0]; exact h
  clear hQ0
  unfold fX2_settle
  refine pf_lo1 (fun s_1 => FE_ s0 s_1) ?_ FU s0 FE_.rf
  intro rec0 s_1 g_s_1 hr0_
  have hrec0 : ∀ (s_1 : Sg), FE_ s0 s_1 → pf_ (rec0 s_1) Q := fun s_1 z_s_1 => hr0_ s_1 z_s_1
  clear hr0_
  unfold fX2_settle_0_b
  refine pf_if ?_ ?_
  · skip
    exact pf_some (hQ () g_s_1)
  · skip
    refine pf_chk (fun _ => ?_)
    refine pf_chk (fun _ => ?_)
    refine pf_if ?_ ?_
    · skip
      exact pf_some (hQ () g_s_1)
    · skip
      refine pf_bv (fun s_4 e_s_4 => ?_)
      have g_s_4 : FE_ s0 s_4 := by rw [e_s_4]; exact FE_.si g_s_1 rfl
      clear e_s_4
      refine pf_chk (fun _ => ?_)
      refine pf_bv (fun v_6 e_v_6 => ?_)
      clear e_v_6
      refine pf_bv (fun q_7 e_q_7 => ?_)
      refine pf_chk (fun h_ => ?_)
      have c_28_ := scr_cases h_
      refine pf_bnv (ye_fX5_emit q_7 (20000 + v_6) s_4 (by omega)) (fun s_9 p_s_9 => ?_)
      have g_s_9 : FE_ s0 s_9 := (g_s_4).tr p_s_9
      refine pf_jn (fun k_12 => ∀ (y_10 : Int32) (y_11 : Bool), pf_ (k_12 y_10 y_11) Q) ?_ (fun k_12 hk_12 => ?_)
      · intro y_10 y_11
        try dsimp only
        refine pf_bv (fun s_13 e_s_13 => ?_)
        have g_s_13 : FE_ s0 s_13 := by rw [e_s_13]; exact FE_.si g_s_9 rfl
        clear e_s_13
        exact hrec0 s_13 g_s_13
      refine pf_jn (fun k_15 => ∀ (y_14 : Int32), pf_ (k_15 y_14) Q) ?_ (fun k_15 hk_15 => ?_)
      · intro y_14
        try dsimp only
        exact hk_12 y_14 true 
      refine pf_if ?_ ?_
      · skip
        exact hk_15 (gi s_9 4 6) 
      · skip
        refine pf_if ?_ ?_
        · skip
          exact hk_15 (gi s_9 4 6) 
        · skip
          exact hk_12 (gi s_9 4 6) false 
set_option maxRecDepth 20000 in
theorem ye_fX2_joinBy (a1 : Int32) (s0 : Sg)  : pf_ (fX2_joinBy a1 s0) (fun q => FE_ s0 q) := by
  generalize hQ0 : (fun q : (Sg) => FE_ s0 q) = Q
  have hQ : ∀ (_ : Unit) {x : Sg}, FE_ s0 x → Q x := fun _ x h => by rw [← hQ0]; exact h
  clear hQ0
  unfold fX2_joinBy
  refine pf_chk (fun _ => ?_)
  refine pf_bnv (ye_fX2_settle (tB.getD (ix a1) 0) s0 ) (fun s_2 p_s_2 => ?_)
  have g_s_2 : FE_ s0 s_2 := (FE_.rf).tr p_s_2
  refine pf_bnv (ye_fX2_keepWaiting a1 s_2 ) (fun s_3 p_s_3 => ?_)
  have g_s_3 : FE_ s0 s_3 := (g_s_2).tr p_s_3
  refine pf_bv (fun s_4 e_s_4 => ?_)
  have g_s_4 : FE_ s0 s_4 := by rw [e_s_4]; exact FE_.si g_s_3 rfl
  clear e_s_4
  exact pf_some (hQ () g_s_4)
set_option maxRecDepth 20000 in
theorem ye_fX2_closeBracket (s0 : Sg)  : pf_ (fX2_closeBracket s0) (fun q => FE_ s0 q) := by
  generalize hQ0 : (fun q : (Sg) => FE_ s0 q) = Q
  have hQ : ∀ (_ : Unit) {x : Sg}, FE_ s0 x → Q x := fun _ x h => by rw [← hQ0]; exact h
  clear hQ0
  unfold fX2_closeBracket
  refine pf_bnv (ye_fX2_settle 1 s0 ) (fun s_1 p_s_1 => ?_)
  have g_s_1 : FE_ s0 s_1 := (FE_.rf).tr p_s_1
  refine pf_jn (fun k_4 => ∀ (y_2 : Int32) (y_3 : Bool), pf_ (k_4 y_2 y_3) Q) ?_ (fun k_4 hk_4 => ?_)
  · intro y_2 y_3
    try dsimp only
    refine pf_bv (fun s_5 e_s_5 => ?_)
    have g_s_5 : FE_ s0 s_5 := by rw [e_s_5]; exact FE_.si g_s_1 rfl
    clear e_s_5
    refine pf_bv (fun s_6 e_s_6 => ?_)
    have g_s_6 : FE_ s0 s_6 := by rw [e_s_6]; exact FE_.si g_s_5 rfl
    clear e_s_6
    refine pf_bv (fun s_7 e_s_7 => ?_)
    have g_s_7 : FE_ s0 s_7 := by rw [e_s_7]; exact FE_.si g_s_6 rfl
    clear e_s_7
    exact pf_some (hQ () g_s_7)
  refine pf_if ?_ ?_
  · skip
    exact hk_4 (gi s_1 4 2) false 
  · skip
    exact hk_4 (gi s_1 4 2) true 
set_option maxRecDepth 20000 in
theorem ye_fX2_readOperation (s0 : Sg)  : pf_ (fX2_readOperation s0) (fun q => FE_ s0 q) := by
  generalize hQ0 : (fun q : (Sg) => FE_ s0 q) = Q
  have hQ : ∀ (_ : Unit) {x : Sg}, FE_ s0 x → Q x := fun _ x h => by rw [← hQ0]; exact h
  clear hQ0
  unfold fX2_readOperation
  refine pf_bv (fun v_1 e_v_1 => ?_)
  clear e_v_1
  refine pf_jn (fun k_2 => pf_ k_2 Q) ?_ (fun k_2 hk_2 => ?_)
  · skip
    refine pf_jn (fun k_3 => pf_ k_3 Q) ?_ (fun k_3 hk_3 => ?_)
    · skip
      refine pf_jn (fun k_4 => pf_ k_4 Q) ?_ (fun k_4 hk_4 => ?_)
      · skip
        refine pf_jn (fun k_5 => pf_ k_5 Q) ?_ (fun k_5 hk_5 => ?_)
        · skip
          refine pf_jn (fun k_6 => pf_ k_6 Q) ?_ (fun k_6 hk_6 => ?_)
          · skip
            refine pf_bnv (ye_fX2_fail 1 s0 ) (fun s_8 p_s_8 => ?_)
            have g_s_8 : FE_ s0 s_8 := (FE_.rf).tr p_s_8
            exact pf_some (hQ () g_s_8)
          refine pf_if ?_ ?_
          · skip
            refine pf_if ?_ ?_
            · skip
              refine pf_if ?_ ?_
              · skip
                refine pf_bnv (ye_fX2_settle 1 s0 ) (fun s_9 p_s_9 => ?_)
                have g_s_9 : FE_ s0 s_9 := (FE_.rf).tr p_s_9
                refine pf_bv (fun s_10 e_s_10 => ?_)
                have g_s_10 : FE_ s0 s_10 := by rw [e_s_10]; exact FE_.si g_s_9 rfl
                clear e_s_10
                exact pf_some (hQ () g_s_10)
              · skip
                exact hk_6  
            · skip
              exact hk_6  
          · skip
            exact hk_6  
        refine pf_jn (fun k_11 => pf_ k_11 Q) ?_ (fun k_11 hk_11 => ?_)
        · skip
          refine pf_if ?_ ?_
          · skip
            refine pf_if ?_ ?_
            · skip
              exact hk_5  
            · skip
              refine pf_bnv (ye_fX2_joinBy v_1 s0 ) (fun s_12 p_s_12 => ?_)
              have g_s_12 : FE_ s0 s_12 := (FE_.rf).tr p_s_12
              refine pf_bv (fun s_13 e_s_13 => ?_)
              have g_s_13 : FE_ s0 s_13 := by rw [e_s_13]; exact FE_.si g_s_12 rfl
              clear e_s_13
              refine pf_bv (fun s_14 e_s_14 => ?_)
              have g_s_14 : FE_ s0 s_14 := by rw [e_s_14]; exact FE_.si g_s_13 rfl
              clear e_s_14
              exact pf_some (hQ () g_s_14)
          · skip
            exact hk_5  
        refine pf_if ?_ ?_
        · skip
          exact hk_11  
        · skip
          refine pf_if ?_ ?_
          · skip
            exact hk_11  
          · skip
            exact hk_5  
      refine pf_if ?_ ?_
      · skip
        exact hk_4  
      · skip
        refine pf_if ?_ ?_
        · skip
          exact hk_4  
        · skip
          refine pf_if ?_ ?_
          · skip
            exact hk_4  
          · skip
            refine pf_if ?_ ?_
            · skip
              refine pf_if ?_ ?_
              · skip
                refine pf_bnv (ye_fX2_joinBy v_1 s0 ) (fun s_15 p_s_15 => ?_)
                have g_s_15 : FE_ s0 s_15 := (FE_.rf).tr p_s_15
                refine pf_bv (fun s_16 e_s_16 => ?_)
                have g_s_16 : FE_ s0 s_16 := by rw [e_s_16]; exact FE_.si g_s_15 rfl
                clear e_s_16
                exact pf_some (hQ () g_s_16)
              · skip
                exact hk_4  
            · skip
              exact hk_4  
    refine pf_if ?_ ?_
    · skip
      refine pf_if ?_ ?_
      · skip
        exact hk_3  
      · skip
        refine pf_bnv (ye_fX2_closeBracket s0 ) (fun s_17 p_s_17 => ?_)
        have g_s_17 : FE_ s0 s_17 := (FE_.rf).tr p_s_17
        exact pf_some (hQ () g_s_17)
    · skip
      exact hk_3  
  refine pf_if ?_ ?_
  · skip
    exact hk_2  
  · skip
    refine pf_if ?_ ?_
    · skip
      exact hk_2  
    · skip
      refine pf_bnv (ye_fX2_joinBy v_1 s0 ) (fun s_18 p_s_18 => ?_)
      have g_s_18 : FE_ s0 s_18 := (FE_.rf).tr p_s_18
      exact pf_some (hQ () g_s_18)
