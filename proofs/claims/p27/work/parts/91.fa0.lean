set_option maxRecDepth 20000 in
theorem ya_fX9_within (a1 : Int32) (a2 : Int32) (a3 : Int32) (s0 : Sg)  : pf_ (fX9_within a1 a2 a3 s0) (fun q => FA_ s0 q.2) := by
  generalize hQ0 : (fun q : (Bool × Sg) => FA_ s0 q.2) = Q
  have hQ : ∀ r {x : Sg}, FA_ s0 x → Q (r, x) := fun r x h => by rw [← hQ0]; exact h
  clear hQ0
  unfold fX9_within
  refine pf_if ?_ ?_
  · skip
    exact pf_some (hQ _ FA_.rf)
  · skip
    refine pf_if ?_ ?_
    · skip
      exact pf_some (hQ _ FA_.rf)
    · skip
      exact pf_some (hQ _ FA_.rf)
set_option maxRecDepth 20000 in
theorem ya_fX9_beam (a1 : Int32) (a2 : Int32) (a3 : Int32) (s0 : Sg)  : pf_ (fX9_beam a1 a2 a3 s0) (fun q => FA_ s0 q.2) := by
  generalize hQ0 : (fun q : (Bool × Sg) => FA_ s0 q.2) = Q
  have hQ : ∀ r {x : Sg}, FA_ s0 x → Q (r, x) := fun r x h => by rw [← hQ0]; exact h
  clear hQ0
  unfold fX9_beam
  refine pf_bnd (ya_fX9_within a1 1 99 s0 ) (fun r_1 s_2 p_s_2 => ?_)
  have g_s_2 : FA_ s0 s_2 := (FA_.rf).tr p_s_2
  refine pf_if ?_ ?_
  · skip
    exact pf_some (hQ _ g_s_2)
  · skip
    refine pf_bnd (ya_fX9_within a2 1 99 s_2 ) (fun r_3 s_4 p_s_4 => ?_)
    have g_s_4 : FA_ s0 s_4 := (g_s_2).tr p_s_4
    refine pf_if ?_ ?_
    · skip
      exact pf_some (hQ _ g_s_4)
    · skip
      refine pf_bnd (ya_fX9_within a3 0 9999 s_4 ) (fun r_5 s_6 p_s_6 => ?_)
      have g_s_6 : FA_ s0 s_6 := (g_s_4).tr p_s_6
      refine pf_if ?_ ?_
      · skip
        exact pf_some (hQ _ g_s_6)
      · skip
        refine pf_bv (fun s_7 e_s_7 => ?_)
        have g_s_7 : FA_ s0 s_7 := by rw [e_s_7]; exact FA_.si g_s_6 rfl
        clear e_s_7
        refine pf_bv (fun s_8 e_s_8 => ?_)
        have g_s_8 : FA_ s0 s_8 := by rw [e_s_8]; exact FA_.si g_s_7 rfl
        clear e_s_8
        refine pf_bv (fun s_9 e_s_9 => ?_)
        have g_s_9 : FA_ s0 s_9 := by rw [e_s_9]; exact FA_.si g_s_8 rfl
        clear e_s_9
        exact pf_some (hQ _ g_s_9)
set_option maxRecDepth 20000 in
theorem ya_fX9_weather (a1 : Int32) (a2 : Int32) (a3 : Int32) (s0 : Sg)  : pf_ (fX9_weather a1 a2 a3 s0) (fun q => FA_ s0 q.2) := by
  generalize hQ0 : (fun q : (Bool × Sg) => FA_ s0 q.2) = Q
  have hQ : ∀ r {x : Sg}, FA_ s0 x → Q (r, x) := fun r x h => by rw [← hQ0]; exact h
  clear hQ0
  unfold fX9_weather
  refine pf_bnd (ya_fX9_within a1 0 23 s0 ) (fun r_1 s_2 p_s_2 => ?_)
  have g_s_2 : FA_ s0 s_2 := (FA_.rf).tr p_s_2
  refine pf_if ?_ ?_
  · skip
    exact pf_some (hQ _ g_s_2)
  · skip
    refine pf_bnd (ya_fX9_within a2 0 9 s_2 ) (fun r_3 s_4 p_s_4 => ?_)
    have g_s_4 : FA_ s0 s_4 := (g_s_2).tr p_s_4
    refine pf_if ?_ ?_
    · skip
      exact pf_some (hQ _ g_s_4)
    · skip
      refine pf_bnd (ya_fX9_within a3 (-9) 9 s_4 ) (fun r_5 s_6 p_s_6 => ?_)
      have g_s_6 : FA_ s0 s_6 := (g_s_4).tr p_s_6
      refine pf_if ?_ ?_
      · skip
        exact pf_some (hQ _ g_s_6)
      · skip
        refine pf_bv (fun s_7 e_s_7 => ?_)
        have g_s_7 : FA_ s0 s_7 := by rw [e_s_7]; exact FA_.si g_s_6 rfl
        clear e_s_7
        refine pf_bv (fun s_8 e_s_8 => ?_)
        have g_s_8 : FA_ s0 s_8 := by rw [e_s_8]; exact FA_.si g_s_7 rfl
        clear e_s_8
        refine pf_bv (fun s_9 e_s_9 => ?_)
        have g_s_9 : FA_ s0 s_9 := by rw [e_s_9]; exact FA_.si g_s_8 rfl
        clear e_s_9
        exact pf_some (hQ _ g_s_9)
set_option maxRecDepth 20000 in
theorem ya_fX7_append (a1 : Int32) (s0 : Sg)  : pf_ (fX7_append a1 s0) (fun q => FA_ s0 q) := by
  generalize hQ0 : (fun q : (Sg) => FA_ s0 q) = Q
  have hQ : ∀ (_ : Unit) {x : Sg}, FA_ s0 x → Q x := fun _ x h => by rw [← hQ0]; exact h
  clear hQ0
  unfold fX7_append
  refine pf_lo2 (fun (_ : Int32) s_2 => FA_ s0 s_2) ?_ FU 24 s0 FA_.rf
  intro rec3 x2_1 s_2 g_s_2 hr0_
  have hrec3 : ∀ (x2_1 : Int32) (s_2 : Sg), FA_ s0 s_2 → pf_ (rec3 x2_1 s_2) Q := fun x2_1 s_2 z_s_2 => hr0_ x2_1 s_2 z_s_2
  clear hr0_
  unfold fX7_append_3_b
  refine pf_if ?_ ?_
  · skip
    exact pf_some (hQ () g_s_2)
  · skip
    refine pf_if ?_ ?_
    · skip
      exact pf_some (hQ () g_s_2)
    · skip
      refine pf_chk (fun _ => ?_)
      refine pf_bv (fun s_4 e_s_4 => ?_)
      have g_s_4 : FA_ s0 s_4 := by rw [e_s_4]; exact FA_.si g_s_2 rfl
      clear e_s_4
      refine pf_bv (fun s_5 e_s_5 => ?_)
      have g_s_5 : FA_ s0 s_5 := by rw [e_s_5]; exact FA_.si g_s_4 rfl
      clear e_s_5
      refine pf_bv (fun v_6 e_v_6 => ?_)
      clear e_v_6
      exact hrec3 v_6 s_5 g_s_5
set_option maxRecDepth 20000 in
theorem ya_fX9_feed (a1 : Int32) (a2 : Int32) (a3 : Int32) (a4 : Int32) (a5 : Int32) (s0 : Sg)  : pf_ (fX9_feed a1 a2 a3 a4 a5 s0) (fun q => FA_ s0 q.2) := by
  generalize hQ0 : (fun q : (Int32 × Sg) => FA_ s0 q.2) = Q
  have hQ : ∀ r {x : Sg}, FA_ s0 x → Q (r, x) := fun r x h => by rw [← hQ0]; exact h
  clear hQ0
  unfold fX9_feed
  refine pf_if ?_ ?_
  · skip
    refine pf_bnv (ya_fX7_append a1 s0 ) (fun s_1 p_s_1 => ?_)
    have g_s_1 : FA_ s0 s_1 := (FA_.rf).tr p_s_1
    refine pf_bnv (ya_fX7_append a2 s_1 ) (fun s_2 p_s_2 => ?_)
    have g_s_2 : FA_ s0 s_2 := (g_s_1).tr p_s_2
    refine pf_bnv (ya_fX7_append a3 s_2 ) (fun s_3 p_s_3 => ?_)
    have g_s_3 : FA_ s0 s_3 := (g_s_2).tr p_s_3
    refine pf_bnv (ya_fX7_append a4 s_3 ) (fun s_4 p_s_4 => ?_)
    have g_s_4 : FA_ s0 s_4 := (g_s_3).tr p_s_4
    refine pf_bnv (ya_fX7_append a5 s_4 ) (fun s_5 p_s_5 => ?_)
    have g_s_5 : FA_ s0 s_5 := (g_s_4).tr p_s_5
    exact pf_some (hQ _ g_s_5)
  · skip
    exact pf_some (hQ _ FA_.rf)
set_option maxRecDepth 20000 in
theorem ya_fX9_end (a1 : Int32) (s0 : Sg)  : pf_ (fX9_end a1 s0) (fun q => FA_ s0 q.2) := by
  generalize hQ0 : (fun q : (Int32 × Sg) => FA_ s0 q.2) = Q
  have hQ : ∀ r {x : Sg}, FA_ s0 x → Q (r, x) := fun r x h => by rw [← hQ0]; exact h
  clear hQ0
  unfold fX9_end
  refine pf_bnd (ya_fX9_within a1 0 (gi s0 3 1) s0 ) (fun r_1 s_2 p_s_2 => ?_)
  have g_s_2 : FA_ s0 s_2 := (FA_.rf).tr p_s_2
  refine pf_if ?_ ?_
  · skip
    exact pf_some (hQ _ g_s_2)
  · skip
    refine pf_bv (fun s_3 e_s_3 => ?_)
    have g_s_3 : FA_ s0 s_3 := by rw [e_s_3]; exact FA_.si g_s_2 rfl
    clear e_s_3
    exact pf_some (hQ _ g_s_3)
set_option maxRecDepth 20000 in
theorem ya_fX5_clear (q0 : Nat) (s0 : Sg) (h_q0 : 48 ≤ q0) : pf_ (fX5_clear q0 s0) (fun q => FA_ s0 q) := by
  generalize hQ0 : (fun q : (Sg) => FA_ s0 q) = Q
  have hQ : ∀ (_ : Unit) {x : Sg}, FA_ s0 x → Q x := fun _ x h => by rw [← hQ0]; exact h
  clear hQ0
  unfold fX5_clear
  refine pf_bv (fun s_1 e_s_1 => ?_)
  have g_s_1 : FA_ s0 s_1 := by rw [e_s_1]; exact FA_.si FA_.rf (pa_big (by omega))
  clear e_s_1
  refine pf_bv (fun s_2 e_s_2 => ?_)
  have g_s_2 : FA_ s0 s_2 := by rw [e_s_2]; exact FA_.si g_s_1 (pa_big (by omega))
  clear e_s_2
  refine pf_bv (fun s_3 e_s_3 => ?_)
  have g_s_3 : FA_ s0 s_3 := by rw [e_s_3]; exact FA_.si g_s_2 (pa_big (by omega))
  clear e_s_3
  refine pf_bv (fun s_4 e_s_4 => ?_)
  have g_s_4 : FA_ s0 s_4 := by rw [e_s_4]; exact FA_.si g_s_3 (pa_big (by omega))
  clear e_s_4
  exact pf_some (hQ () g_s_4)
set_option maxRecDepth 20000 in
theorem ya_fX7_isLetter (a1 : Int32) (s0 : Sg)  : pf_ (fX7_isLetter a1 s0) (fun q => FA_ s0 q.2) := by
  generalize hQ0 : (fun q : (Bool × Sg) => FA_ s0 q.2) = Q
  have hQ : ∀ r {x : Sg}, FA_ s0 x → Q (r, x) := fun r x h => by rw [← hQ0]; exact h
  clear hQ0
  unfold fX7_isLetter
  refine pf_jn (fun k_1 => pf_ k_1 Q) ?_ (fun k_1 hk_1 => ?_)
  · skip
    refine pf_if ?_ ?_
    · skip
      exact pf_some (hQ _ FA_.rf)
    · skip
      refine pf_if ?_ ?_
      · skip
        exact pf_some (hQ _ FA_.rf)
      · skip
        exact pf_some (hQ _ FA_.rf)
  refine pf_if ?_ ?_
  · skip
    exact hk_1  
  · skip
    refine pf_if ?_ ?_
    · skip
      exact pf_some (hQ _ FA_.rf)
    · skip
      exact hk_1  
set_option maxRecDepth 20000 in
theorem ya_fJ0_coder_7d493 (q0 : Nat) (s0 : Sg)  : pf_ (fJ0_coder_7d493 q0 s0) (fun q => FA_ s0 q.2) := by
  generalize hQ0 : (fun q : (Int32 × Sg) => FA_ s0 q.2) = Q
  have hQ : ∀ r {x : Sg}, FA_ s0 x → Q (r, x) := fun r x h => by rw [← hQ0]; exact h
  clear hQ0
  unfold fJ0_coder_7d493
  refine pf_if ?_ ?_
  · skip
    exact pf_some (hQ _ FA_.rf)
  · skip
    exact pf_some (hQ _ FA_.rf)
set_option maxRecDepth 20000 in
theorem ya_fJ0_length_8abf5 (q0 : Nat) (s0 : Sg)  : pf_ (fJ0_length_8abf5 q0 s0) (fun q => FA_ s0 q.2) := by
  generalize hQ0 : (fun q : (Int32 × Sg) => FA_ s0 q.2) = Q
  have hQ : ∀ r {x : Sg}, FA_ s0 x → Q (r, x) := fun r x h => by rw [← hQ0]; exact h
  clear hQ0
  unfold fJ0_length_8abf5
  refine pf_bnd (ya_fJ0_coder_7d493 q0 s0 ) (fun r_1 s_2 p_s_2 => ?_)
  have g_s_2 : FA_ s0 s_2 := (FA_.rf).tr p_s_2
  exact pf_some (hQ _ g_s_2)
set_option maxRecDepth 20000 in
theorem ya_fJ0_isLatin1_aae02 (q0 : Nat) (s0 : Sg)  : pf_ (fJ0_isLatin1_aae02 q0 s0) (fun q => FA_ s0 q.2) := by
  generalize hQ0 : (fun q : (Bool × Sg) => FA_ s0 q.2) = Q
  have hQ : ∀ r {x : Sg}, FA_ s0 x → Q (r, x) := fun r x h => by rw [← hQ0]; exact h
  clear hQ0
  unfold fJ0_isLatin1_aae02
  refine pf_if ?_ ?_
  · skip
    exact pf_some (hQ _ FA_.rf)
  · skip
    refine pf_if ?_ ?_
    · skip
      exact pf_some (hQ _ FA_.rf)
    · skip
      exact pf_some (hQ _ FA_.rf)
set_option maxRecDepth 20000 in
theorem ya_fJ3_checkIndex_8e157 (a1 : Int32) (a2 : Int32) (s0 : Sg)  : pf_ (fJ3_checkIndex_8e157 a1 a2 s0) (fun q => FA_ s0 q.2) := by
  generalize hQ0 : (fun q : (Int32 × Sg) => FA_ s0 q.2) = Q
  have hQ : ∀ r {x : Sg}, FA_ s0 x → Q (r, x) := fun r x h => by rw [← hQ0]; exact h
  clear hQ0
  unfold fJ3_checkIndex_8e157
  refine pf_jn (fun k_1 => pf_ k_1 Q) ?_ (fun k_1 hk_1 => ?_)
  · skip
    exact pf_none
  refine pf_if ?_ ?_
  · skip
    exact hk_1  
  · skip
    refine pf_if ?_ ?_
    · skip
      exact pf_some (hQ _ FA_.rf)
    · skip
      exact hk_1  
set_option maxRecDepth 20000 in
theorem ya_fJ0_checkIndex_df160 (a1 : Int32) (a2 : Int32) (s0 : Sg)  : pf_ (fJ0_checkIndex_df160 a1 a2 s0) (fun q => FA_ s0 q) := by
  generalize hQ0 : (fun q : (Sg) => FA_ s0 q) = Q
  have hQ : ∀ (_ : Unit) {x : Sg}, FA_ s0 x → Q x := fun _ x h => by rw [← hQ0]; exact h
  clear hQ0
  unfold fJ0_checkIndex_df160
  refine pf_bnd (ya_fJ3_checkIndex_8e157 a1 a2 s0 ) (fun r1 s1 p_s1 => ?_)
  have g_s1 : FA_ s0 s1 := (FA_.rf).tr p_s1
  exact pf_some (hQ () g_s1)
set_option maxRecDepth 20000 in
theorem ya_fJ1_charAt_3b067 (a1 : Nat) (a2 : Int32) (s0 : Sg)  : pf_ (fJ1_charAt_3b067 a1 a2 s0) (fun q => FA_ s0 q.2) := by
  generalize hQ0 : (fun q : (Int32 × Sg) => FA_ s0 q.2) = Q
  have hQ : ∀ r {x : Sg}, FA_ s0 x → Q (r, x) := fun r x h => by rw [← hQ0]; exact h
  clear hQ0
  unfold fJ1_charAt_3b067
  refine pf_bnv (ya_fJ0_checkIndex_df160 a2 (Int32.ofNat (sLv a1)) s0 ) (fun s_1 p_s_1 => ?_)
  have g_s_1 : FA_ s0 s_1 := (FA_.rf).tr p_s_1
  refine pf_chk (fun _ => ?_)
  refine pf_chk (fun _ => ?_)
  exact pf_some (hQ _ g_s_1)
set_option maxRecDepth 20000 in
theorem ya_fJ0_charAt_5068e (q0 : Nat) (a1 : Int32) (s0 : Sg)  : pf_ (fJ0_charAt_5068e q0 a1 s0) (fun q => FA_ s0 q.2) := by
  generalize hQ0 : (fun q : (Int32 × Sg) => FA_ s0 q.2) = Q
  have hQ : ∀ r {x : Sg}, FA_ s0 x → Q (r, x) := fun r x h => by rw [← hQ0]; exact h
  clear hQ0
  unfold fJ0_charAt_5068e
  refine pf_bnd (ya_fJ0_isLatin1_aae02 q0 s0 ) (fun r_1 s_2 p_s_2 => ?_)
  have g_s_2 : FA_ s0 s_2 := (FA_.rf).tr p_s_2
  refine pf_if ?_ ?_
  · skip
    exact pf_none
  · skip
    refine pf_bnd (ya_fJ1_charAt_3b067 (q0 + 50) a1 s_2 ) (fun r_3 s_4 p_s_4 => ?_)
    have g_s_4 : FA_ s0 s_4 := (g_s_2).tr p_s_4
    refine pf_chk (fun _ => ?_)
    exact pf_some (hQ _ g_s_4)
set_option maxRecDepth 20000 in
theorem ya_fX7_reads (a1 : Nat) (s0 : Sg)  : pf_ (fX7_reads a1 s0) (fun q => FA_ s0 q.2) := by
  generalize hQ0 : (fun q : (Bool × Sg) => FA_ s0 q.2) = Q
  have hQ : ∀ r {x : Sg}, FA_ s0 x → Q (r, x) := fun r x h => by rw [← hQ0]; exact h
  clear hQ0
  unfold fX7_reads
  refine pf_bnd (ya_fJ0_length_8abf5 a1 s0 ) (fun r_1 s_2 p_s_2 => ?_)
  have g_s_2 : FA_ s0 s_2 := (FA_.rf).tr p_s_2
  refine pf_if ?_ ?_
  · skip
    refine pf_lo2 (fun (_ : Int32) s_4 => FA_ s0 s_4) ?_ FU 0 s_2 g_s_2
    intro rec20 x2_3 s_4 g_s_4 hr0_
    have hrec20 : ∀ (x2_3 : Int32) (s_4 : Sg), FA_ s0 s_4 → pf_ (rec20 x2_3 s_4) Q := fun x2_3 s_4 z_s_4 => hr0_ x2_3 s_4 z_s_4
    clear hr0_
    unfold fX7_reads_20_b
    refine pf_bnd (ya_fJ0_length_8abf5 a1 s_4 ) (fun r_5 s_6 p_s_6 => ?_)
    have g_s_6 : FA_ s0 s_6 := (g_s_4).tr p_s_6
    refine pf_if ?_ ?_
    · skip
      exact pf_some (hQ _ g_s_6)
    · skip
      refine pf_chk (fun _ => ?_)
      refine pf_bnd (ya_fJ0_charAt_5068e a1 x2_3 s_6 ) (fun r_8 s_9 p_s_9 => ?_)
      have g_s_9 : FA_ s0 s_9 := (g_s_6).tr p_s_9
      refine pf_if ?_ ?_
      · skip
        refine pf_bv (fun v_10 e_v_10 => ?_)
        clear e_v_10
        exact hrec20 v_10 s_9 g_s_9
      · skip
        exact pf_some (hQ _ g_s_9)
  · skip
    exact pf_some (hQ _ g_s_2)
set_option maxRecDepth 20000 in
theorem ya_fX7_wordToken (s0 : Sg)  : pf_ (fX7_wordToken s0) (fun q => FA_ s0 q.2) := by
  generalize hQ0 : (fun q : (Int32 × Sg) => FA_ s0 q.2) = Q
  have hQ : ∀ r {x : Sg}, FA_ s0 x → Q (r, x) := fun r x h => by rw [← hQ0]; exact h
  clear hQ0
  unfold fX7_wordToken
  refine pf_bnd (ya_fX7_reads 100 s0 ) (fun r_1 s_2 p_s_2 => ?_)
  have g_s_2 : FA_ s0 s_2 := (FA_.rf).tr p_s_2
  refine pf_if ?_ ?_
  · skip
    refine pf_bnd (ya_fX7_reads 101 s_2 ) (fun r_3 s_4 p_s_4 => ?_)
    have g_s_4 : FA_ s0 s_4 := (g_s_2).tr p_s_4
    refine pf_if ?_ ?_
    · skip
      refine pf_bnd (ya_fX7_reads 102 s_4 ) (fun r_5 s_6 p_s_6 => ?_)
      have g_s_6 : FA_ s0 s_6 := (g_s_4).tr p_s_6
      refine pf_if ?_ ?_
      · skip
        refine pf_bnd (ya_fX7_reads 103 s_6 ) (fun r_7 s_8 p_s_8 => ?_)
        have g_s_8 : FA_ s0 s_8 := (g_s_6).tr p_s_8
        refine pf_if ?_ ?_
        · skip
          refine pf_bnd (ya_fX7_reads 104 s_8 ) (fun r_9 s_10 p_s_10 => ?_)
          have g_s_10 : FA_ s0 s_10 := (g_s_8).tr p_s_10
          refine pf_if ?_ ?_
          · skip
            refine pf_bnd (ya_fX7_reads 105 s_10 ) (fun r_11 s_12 p_s_12 => ?_)
            have g_s_12 : FA_ s0 s_12 := (g_s_10).tr p_s_12
            refine pf_if ?_ ?_
            · skip
              refine pf_bnd (ya_fX7_reads 106 s_12 ) (fun r_13 s_14 p_s_14 => ?_)
              have g_s_14 : FA_ s0 s_14 := (g_s_12).tr p_s_14
              refine pf_if ?_ ?_
              · skip
                refine pf_bnd (ya_fX7_reads 107 s_14 ) (fun r_15 s_16 p_s_16 => ?_)
                have g_s_16 : FA_ s0 s_16 := (g_s_14).tr p_s_16
                refine pf_if ?_ ?_
                · skip
                  refine pf_bnd (ya_fX7_reads 108 s_16 ) (fun r_17 s_18 p_s_18 => ?_)
                  have g_s_18 : FA_ s0 s_18 := (g_s_16).tr p_s_18
                  refine pf_if ?_ ?_
                  · skip
                    refine pf_bnd (ya_fX7_reads 109 s_18 ) (fun r_19 s_20 p_s_20 => ?_)
                    have g_s_20 : FA_ s0 s_20 := (g_s_18).tr p_s_20
                    refine pf_if ?_ ?_
                    · skip
                      refine pf_bnd (ya_fX7_reads 110 s_20 ) (fun r_21 s_22 p_s_22 => ?_)
                      have g_s_22 : FA_ s0 s_22 := (g_s_20).tr p_s_22
                      refine pf_if ?_ ?_
                      · skip
                        refine pf_bnd (ya_fX7_reads 111 s_22 ) (fun r_23 s_24 p_s_24 => ?_)
                        have g_s_24 : FA_ s0 s_24 := (g_s_22).tr p_s_24
                        refine pf_if ?_ ?_
                        · skip
                          refine pf_bnd (ya_fX7_reads 112 s_24 ) (fun r_25 s_26 p_s_26 => ?_)
                          have g_s_26 : FA_ s0 s_26 := (g_s_24).tr p_s_26
                          refine pf_if ?_ ?_
                          · skip
                            refine pf_bnd (ya_fX7_reads 113 s_26 ) (fun r_27 s_28 p_s_28 => ?_)
                            have g_s_28 : FA_ s0 s_28 := (g_s_26).tr p_s_28
                            refine pf_if ?_ ?_
                            · skip
                              refine pf_bnd (ya_fX7_reads 114 s_28 ) (fun r_29 s_30 p_s_30 => ?_)
                              have g_s_30 : FA_ s0 s_30 := (g_s_28).tr p_s_30
                              refine pf_if ?_ ?_
                              · skip
                                refine pf_bnd (ya_fX7_reads 115 s_30 ) (fun r_31 s_32 p_s_32 => ?_)
                                have g_s_32 : FA_ s0 s_32 := (g_s_30).tr p_s_32
                                refine pf_if ?_ ?_
                                · skip
                                  refine pf_bnd (ya_fX7_reads 116 s_32 ) (fun r_33 s_34 p_s_34 => ?_)
                                  have g_s_34 : FA_ s0 s_34 := (g_s_32).tr p_s_34
                                  refine pf_if ?_ ?_
                                  · skip
                                    refine pf_bnd (ya_fX7_reads 117 s_34 ) (fun r_35 s_36 p_s_36 => ?_)
                                    have g_s_36 : FA_ s0 s_36 := (g_s_34).tr p_s_36
                                    refine pf_if ?_ ?_
                                    · skip
                                      refine pf_bnd (ya_fX7_reads 118 s_36 ) (fun r_37 s_38 p_s_38 => ?_)
                                      have g_s_38 : FA_ s0 s_38 := (g_s_36).tr p_s_38
                                      refine pf_if ?_ ?_
                                      · skip
                                        refine pf_bnd (ya_fX7_reads 119 s_38 ) (fun r_39 s_40 p_s_40 => ?_)
                                        have g_s_40 : FA_ s0 s_40 := (g_s_38).tr p_s_40
                                        refine pf_if ?_ ?_
                                        · skip
                                          exact pf_some (hQ _ g_s_40)
                                        · skip
                                          exact pf_some (hQ _ g_s_40)
                                      · skip
                                        exact pf_some (hQ _ g_s_38)
                                    · skip
                                      exact pf_some (hQ _ g_s_36)
                                  · skip
                                    exact pf_some (hQ _ g_s_34)
                                · skip
                                  exact pf_some (hQ _ g_s_32)
                              · skip
                                exact pf_some (hQ _ g_s_30)
                            · skip
                              exact pf_some (hQ _ g_s_28)
                          · skip
                            exact pf_some (hQ _ g_s_26)
                        · skip
                          exact pf_some (hQ _ g_s_24)
                      · skip
                        exact pf_some (hQ _ g_s_22)
                    · skip
                      exact pf_some (hQ _ g_s_20)
                  · skip
                    exact pf_some (hQ _ g_s_18)
                · skip
                  exact pf_some (hQ _ g_s_16)
              · skip
                exact pf_some (hQ _ g_s_14)
            · skip
              exact pf_some (hQ _ g_s_12)
          · skip
            exact pf_some (hQ _ g_s_10)
        · skip
          exact pf_some (hQ _ g_s_8)
      · skip
        exact pf_some (hQ _ g_s_6)
    · skip
      exact pf_some (hQ _ g_s_4)
  · skip
    exact pf_some (hQ _ g_s_2)
set_option maxRecDepth 20000 in
theorem ya_fX7_isDigit (a1 : Int32) (s0 : Sg)  : pf_ (fX7_isDigit a1 s0) (fun q => FA_ s0 q.2) := by
  generalize hQ0 : (fun q : (Bool × Sg) => FA_ s0 q.2) = Q
  have hQ : ∀ r {x : Sg}, FA_ s0 x → Q (r, x) := fun r x h => by rw [← hQ0]; exact h
  clear hQ0
  unfold fX7_isDigit
  refine pf_if ?_ ?_
  · skip
    exact pf_some (hQ _ FA_.rf)
  · skip
    refine pf_if ?_ ?_
    · skip
      exact pf_some (hQ _ FA_.rf)
    · skip
      exact pf_some (hQ _ FA_.rf)
set_option maxRecDepth 20000 in
theorem ya_fX7_signToken (a1 : Int32) (a2 : Int32) (s0 : Sg)  : pf_ (fX7_signToken a1 a2 s0) (fun q => FA_ s0 q.2) := by
  generalize hQ0 : (fun q : (Int32 × Sg) => FA_ s0 q.2) = Q
  have hQ : ∀ r {x : Sg}, FA_ s0 x → Q (r, x) := fun r x h => by rw [← hQ0]; exact h
  clear hQ0
  unfold fX7_signToken
  refine pf_if ?_ ?_
  · skip
    exact pf_some (hQ _ FA_.rf)
  · skip
    refine pf_if ?_ ?_
    · skip
      exact pf_some (hQ _ FA_.rf)
    · skip
      refine pf_if ?_ ?_
      · skip
        exact pf_some (hQ _ FA_.rf)
      · skip
        refine pf_if ?_ ?_
        · skip
          exact pf_some (hQ _ FA_.rf)
        · skip
          refine pf_if ?_ ?_
          · skip
            exact pf_some (hQ _ FA_.rf)
          · skip
            refine pf_if ?_ ?_
            · skip
              exact pf_some (hQ _ FA_.rf)
            · skip
              refine pf_if ?_ ?_
              · skip
                exact pf_some (hQ _ FA_.rf)
              · skip
                refine pf_if ?_ ?_
                · skip
                  exact pf_some (hQ _ FA_.rf)
                · skip
                  refine pf_if ?_ ?_
                  · skip
                    refine pf_if ?_ ?_
                    · skip
                      exact pf_some (hQ _ FA_.rf)
                    · skip
                      exact pf_some (hQ _ FA_.rf)
                  · skip
                    refine pf_if ?_ ?_
                    · skip
                      exact pf_some (hQ _ FA_.rf)
                    · skip
                      refine pf_if ?_ ?_
                      · skip
                        refine pf_if ?_ ?_
                        · skip
                          exact pf_some (hQ _ FA_.rf)
                        · skip
                          exact pf_some (hQ _ FA_.rf)
                      · skip
                        exact pf_some (hQ _ FA_.rf)
set_option maxRecDepth 20000 in
theorem ya_fX7_readNumber (s0 : Sg)  : pf_ (fX7_readNumber s0) (fun q => FA_ s0 q) := by
  generalize hQ0 : (fun q : (Sg) => FA_ s0 q) = Q
  have hQ : ∀ (_ : Unit) {x : Sg}, FA_ s0 x → Q x := fun _ x h => by rw [← hQ0]; exact h
  clear hQ0
  unfold fX7_readNumber
  refine pf_bv (fun s_1 e_s_1 => ?_)
  have g_s_1 : FA_ s0 s_1 := by rw [e_s_1]; exact FA_.si FA_.rf rfl
  clear e_s_1
  refine pf_bv (fun s_2 e_s_2 => ?_)
  have g_s_2 : FA_ s0 s_2 := by rw [e_s_2]; exact FA_.si g_s_1 rfl
  clear e_s_2
  refine pf_lo1 (fun s_3 => FA_ s0 s_3) ?_ FU s_2 g_s_2
  intro rec11 s_3 g_s_3 hr0_
  have hrec11 : ∀ (s_3 : Sg), FA_ s0 s_3 → pf_ (rec11 s_3) Q := fun s_3 z_s_3 => hr0_ s_3 z_s_3
  clear hr0_
  unfold fX7_readNumber_11_b
  refine pf_if ?_ ?_
  · skip
    exact pf_some (hQ () g_s_3)
  · skip
    refine pf_chk (fun _ => ?_)
    refine pf_bnd (ya_fX7_isDigit (gi s_3 17 (ix (gi s_3 3 4))) s_3 ) (fun r_5 s_6 p_s_6 => ?_)
    have g_s_6 : FA_ s0 s_6 := (g_s_3).tr p_s_6
    refine pf_if ?_ ?_
    · skip
      exact pf_some (hQ () g_s_6)
    · skip
      refine pf_chk (fun _ => ?_)
      refine pf_bv (fun s_8 e_s_8 => ?_)
      have g_s_8 : FA_ s0 s_8 := by rw [e_s_8]; exact FA_.si g_s_6 rfl
      clear e_s_8
      refine pf_bv (fun s_9 e_s_9 => ?_)
      have g_s_9 : FA_ s0 s_9 := by rw [e_s_9]; exact FA_.si g_s_8 rfl
      clear e_s_9
      exact hrec11 s_9 g_s_9
set_option maxRecDepth 20000 in
theorem ya_fX7_advance (s0 : Sg)  : pf_ (fX7_advance s0) (fun q => FA_ s0 q) := by
  generalize hQ0 : (fun q : (Sg) => FA_ s0 q) = Q
  have hQ : ∀ (_ : Unit) {x : Sg}, FA_ s0 x → Q x := fun _ x h => by rw [← hQ0]; exact h
  clear hQ0
  unfold fX7_advance
  refine pf_jn (fun k_2 => ∀ (s_1 : Sg), FA_ s0 s_1 → pf_ (k_2 s_1) Q) ?_ (fun k_2 hk_2 => ?_)
  · intro s_1 g_s_1
    try dsimp only
    refine pf_bv (fun s_3 e_s_3 => ?_)
    have g_s_3 : FA_ s0 s_3 := by rw [e_s_3]; exact FA_.si g_s_1 rfl
    clear e_s_3
    refine pf_if ?_ ?_
    · skip
      refine pf_chk (fun _ => ?_)
      refine pf_bnd (ya_fX7_isLetter (gi s_3 17 (ix (gi s_3 3 4))) s_3 ) (fun r_5 s_6 p_s_6 => ?_)
      have g_s_6 : FA_ s0 s_6 := (g_s_3).tr p_s_6
      refine pf_jn (fun k_8 => ∀ (s_7 : Sg), FA_ s0 s_7 → pf_ (k_8 s_7) Q) ?_ (fun k_8 hk_8 => ?_)
      · intro s_7 g_s_7
        try dsimp only
        refine pf_bnd (ya_fX7_wordToken s_7 ) (fun r_9 s_10 p_s_10 => ?_)
        have g_s_10 : FA_ s0 s_10 := (g_s_7).tr p_s_10
        refine pf_bv (fun s_11 e_s_11 => ?_)
        have g_s_11 : FA_ s0 s_11 := by rw [e_s_11]; exact FA_.si g_s_10 rfl
        clear e_s_11
        exact pf_some (hQ () g_s_11)
      refine pf_if ?_ ?_
      · skip
        refine pf_chk (fun _ => ?_)
        refine pf_bnd (ya_fX7_isDigit (gi s_6 17 (ix (gi s_6 3 4))) s_6 ) (fun r_18 s_19 p_s_19 => ?_)
        have g_s_19 : FA_ s0 s_19 := (g_s_6).tr p_s_19
        refine pf_if ?_ ?_
        · skip
          refine pf_chk (fun _ => ?_)
          refine pf_jn (fun k_23 => ∀ (y_21 : Int32) (y_22 : Bool), pf_ (k_23 y_21 y_22) Q) ?_ (fun k_23 hk_23 => ?_)
          · intro y_21 y_22
            try dsimp only
            refine pf_bnd (ya_fX7_signToken y_21 (b2i y_22) s_19 ) (fun r_24 s_25 p_s_25 => ?_)
            have g_s_25 : FA_ s0 s_25 := (g_s_19).tr p_s_25
            refine pf_bv (fun s_26 e_s_26 => ?_)
            have g_s_26 : FA_ s0 s_26 := by rw [e_s_26]; exact FA_.si g_s_25 rfl
            clear e_s_26
            refine pf_jn (fun k_29 => ∀ (y_27 : Int32) (y_28 : Int32), pf_ (k_29 y_27 y_28) Q) ?_ (fun k_29 hk_29 => ?_)
            · intro y_27 y_28
              try dsimp only
              refine pf_bv (fun s_30 e_s_30 => ?_)
              have g_s_30 : FA_ s0 s_30 := by rw [e_s_30]; exact FA_.si g_s_26 rfl
              clear e_s_30
              exact pf_some (hQ () g_s_30)
            refine pf_jn (fun k_32 => ∀ (y_31 : Int32), pf_ (k_32 y_31) Q) ?_ (fun k_32 hk_32 => ?_)
            · intro y_31
              try dsimp only
              exact hk_29 y_31 2 
            refine pf_if ?_ ?_
            · skip
              exact hk_32 (gi s_26 3 4) 
            · skip
              refine pf_if ?_ ?_
              · skip
                exact hk_32 (gi s_26 3 4) 
              · skip
                exact hk_29 (gi s_26 3 4) 1 
          refine pf_jn (fun k_34 => ∀ (y_33 : Int32), pf_ (k_34 y_33) Q) ?_ (fun k_34 hk_34 => ?_)
          · intro y_33
            try dsimp only
            exact hk_23 y_33 false 
          refine pf_if ?_ ?_
          · skip
            exact hk_34 (gi s_19 17 (ix (gi s_19 3 4))) 
          · skip
            refine pf_chk (fun _ => ?_)
            refine pf_if ?_ ?_
            · skip
              exact hk_23 (gi s_19 17 (ix (gi s_19 3 4))) true 
            · skip
              exact hk_34 (gi s_19 17 (ix (gi s_19 3 4))) 
        · skip
          refine pf_bnv (ya_fX7_readNumber s_19 ) (fun s_36 p_s_36 => ?_)
          have g_s_36 : FA_ s0 s_36 := (g_s_19).tr p_s_36
          exact pf_some (hQ () g_s_36)
      · skip
        refine pf_lo1 (fun s_12 => FA_ s0 s_12) ?_ FU s_6 g_s_6
        intro rec95 s_12 g_s_12 hr0_
        have hrec95 : ∀ (s_12 : Sg), FA_ s0 s_12 → pf_ (rec95 s_12) Q := fun s_12 z_s_12 => hr0_ s_12 z_s_12
        clear hr0_
        unfold fX7_advance_95_b
        refine pf_if ?_ ?_
        · skip
          exact hk_8 s_12 g_s_12
        · skip
          refine pf_chk (fun _ => ?_)
          refine pf_bnd (ya_fX7_isLetter (gi s_12 17 (ix (gi s_12 3 4))) s_12 ) (fun r_14 s_15 p_s_15 => ?_)
          have g_s_15 : FA_ s0 s_15 := (g_s_12).tr p_s_15
          refine pf_if ?_ ?_
          · skip
            exact hk_8 s_15 g_s_15
          · skip
            refine pf_bv (fun s_16 e_s_16 => ?_)
            have g_s_16 : FA_ s0 s_16 := by rw [e_s_16]; exact FA_.si g_s_15 rfl
            clear e_s_16
            exact hrec95 s_16 g_s_16
    · skip
      refine pf_bv (fun s_37 e_s_37 => ?_)
      have g_s_37 : FA_ s0 s_37 := by rw [e_s_37]; exact FA_.si g_s_3 rfl
      clear e_s_37
      exact pf_some (hQ () g_s_37)
  refine pf_lo1 (fun s_38 => FA_ s0 s_38) ?_ FU s0 FA_.rf
  intro rec0 s_38 g_s_38 hr0_
  have hrec0 : ∀ (s_38 : Sg), FA_ s0 s_38 → pf_ (rec0 s_38) Q := fun s_38 z_s_38 => hr0_ s_38 z_s_38
  clear hr0_
  unfold fX7_advance_0_b
  refine pf_if ?_ ?_
  · skip
    exact hk_2 s_38 g_s_38
  · skip
    refine pf_chk (fun _ => ?_)
    refine pf_jn (fun k_40 => pf_ k_40 Q) ?_ (fun k_40 hk_40 => ?_)
    · skip
      refine pf_bv (fun s_41 e_s_41 => ?_)
      have g_s_41 : FA_ s0 s_41 := by rw [e_s_41]; exact FA_.si g_s_38 rfl
      clear e_s_41
      exact hrec0 s_41 g_s_41
    refine pf_if ?_ ?_
    · skip
      exact hk_40  
    · skip
      refine pf_if ?_ ?_
      · skip
        exact hk_40  
      · skip
        exact hk_2 s_38 g_s_38
set_option maxRecDepth 20000 in
theorem ya_fX7_begin (s0 : Sg)  : pf_ (fX7_begin s0) (fun q => FA_ s0 q) := by
  generalize hQ0 : (fun q : (Sg) => FA_ s0 q) = Q
  have hQ : ∀ (_ : Unit) {x : Sg}, FA_ s0 x → Q x := fun _ x h => by rw [← hQ0]; exact h
  clear hQ0
  unfold fX7_begin
  refine pf_bv (fun s_1 e_s_1 => ?_)
  have g_s_1 : FA_ s0 s_1 := by rw [e_s_1]; exact FA_.si FA_.rf rfl
  clear e_s_1
  refine pf_bnv (ya_fX7_advance s_1 ) (fun s_2 p_s_2 => ?_)
  have g_s_2 : FA_ s0 s_2 := (g_s_1).tr p_s_2
  exact pf_some (hQ () g_s_2)
set_option maxRecDepth 20000 in
theorem ya_fX2_headFault (a1 : Int32) (s0 : Sg)  : pf_ (fX2_headFault a1 s0) (fun q => FA_ s0 q.2) := by
  generalize hQ0 : (fun q : (Int32 × Sg) => FA_ s0 q.2) = Q
  have hQ : ∀ r {x : Sg}, FA_ s0 x → Q (r, x) := fun r x h => by rw [← hQ0]; exact h
  clear hQ0
  unfold fX2_headFault
  refine pf_if ?_ ?_
  · skip
    exact pf_some (hQ _ FA_.rf)
  · skip
    refine pf_if ?_ ?_
    · skip
      refine pf_jn (fun k_1 => pf_ k_1 Q) ?_ (fun k_1 hk_1 => ?_)
      · skip
        refine pf_jn (fun k_2 => pf_ k_2 Q) ?_ (fun k_2 hk_2 => ?_)
        · skip
          refine pf_bv (fun q_3 e_q_3 => ?_)
          refine pf_chk (fun h_ => ?_)
          have c_17_ := scr_cases h_
          refine pf_if ?_ ?_
          · skip
            exact pf_some (hQ _ FA_.rf)
          · skip
            exact pf_some (hQ _ FA_.rf)
        refine pf_if ?_ ?_
        · skip
          refine pf_bv (fun q_5 e_q_5 => ?_)
          refine pf_chk (fun h_ => ?_)
          have c_27_ := scr_cases h_
          refine pf_if ?_ ?_
          · skip
            exact hk_2  
          · skip
            exact pf_some (hQ _ FA_.rf)
        · skip
          exact hk_2  
      refine pf_if ?_ ?_
      · skip
        refine pf_bv (fun q_7 e_q_7 => ?_)
        refine pf_chk (fun h_ => ?_)
        have c_39_ := scr_cases h_
        refine pf_if ?_ ?_
        · skip
          exact hk_1  
        · skip
          exact pf_some (hQ _ FA_.rf)
      · skip
        exact hk_1  
    · skip
      exact pf_some (hQ _ FA_.rf)
set_option maxRecDepth 20000 in
theorem ya_fX2_fail (a1 : Int32) (s0 : Sg)  : pf_ (fX2_fail a1 s0) (fun q => FA_ s0 q) := by
  generalize hQ0 : (fun q : (Sg) => FA_ s0 q) = Q
  have hQ : ∀ (_ : Unit) {x : Sg}, FA_ s0 x → Q x := fun _ x h => by rw [← hQ0]; exact h
  clear hQ0
  unfold fX2_fail
  refine pf_if ?_ ?_
  · skip
    refine pf_bv (fun s_1 e_s_1 => ?_)
    have g_s_1 : FA_ s0 s_1 := by rw [e_s_1]; exact FA_.si FA_.rf rfl
    clear e_s_1
    refine pf_bv (fun s_2 e_s_2 => ?_)
    have g_s_2 : FA_ s0 s_2 := by rw [e_s_2]; exact FA_.si g_s_1 rfl
    clear e_s_2
    exact pf_some (hQ () g_s_2)
  · skip
    exact pf_some (hQ () FA_.rf)
set_option maxRecDepth 20000 in
theorem ya_fX2_takeToken (a1 : Int32) (s0 : Sg)  : pf_ (fX2_takeToken a1 s0) (fun q => FA_ s0 q) := by
  generalize hQ0 : (fun q : (Sg) => FA_ s0 q) = Q
  have hQ : ∀ (_ : Unit) {x : Sg}, FA_ s0 x → Q x := fun _ x h => by rw [← hQ0]; exact h
  clear hQ0
  unfold fX2_takeToken
  refine pf_jn (fun k_2 => ∀ (s_1 : Sg), FA_ s0 s_1 → pf_ (k_2 s_1) Q) ?_ (fun k_2 hk_2 => ?_)
  · intro s_1 g_s_1
    try dsimp only
    refine pf_if ?_ ?_
    · skip
      refine pf_bnv (ya_fX7_advance s_1 ) (fun s_4 p_s_4 => ?_)
      have g_s_4 : FA_ s0 s_4 := (g_s_1).tr p_s_4
      exact pf_some (hQ () g_s_4)
    · skip
      exact pf_some (hQ () g_s_1)
  refine pf_if ?_ ?_
  · skip
    exact hk_2 s0 FA_.rf
  · skip
    refine pf_bnv (ya_fX2_fail 1 s0 ) (fun s_6 p_s_6 => ?_)
    have g_s_6 : FA_ s0 s_6 := (FA_.rf).tr p_s_6
    exact hk_2 s_6 g_s_6
set_option maxRecDepth 20000 in
theorem ya_fX5_addClause (q0 : Nat) (a1 : Int32) (a2 : Int32) (a3 : Int32) (s0 : Sg) (h_q0 : 48 ≤ q0) : pf_ (fX5_addClause q0 a1 a2 a3 s0) (fun q => FA_ s0 q) := by
  generalize hQ0 : (fun q : (Sg) => FA_ s0 q) = Q
  have hQ : ∀ (_ : Unit) {x : Sg}, FA_ s0 x → Q x := fun _ x h => by rw [← hQ0]; exact h
  clear hQ0
  unfold fX5_addClause
  refine pf_if ?_ ?_
  · skip
    exact pf_some (hQ () FA_.rf)
  · skip
    refine pf_chk (fun _ => ?_)
    refine pf_bv (fun s_2 e_s_2 => ?_)
    have g_s_2 : FA_ s0 s_2 := by rw [e_s_2]; exact FA_.si FA_.rf (pa_big (by omega))
    clear e_s_2
    refine pf_chk (fun _ => ?_)
    refine pf_bv (fun s_4 e_s_4 => ?_)
    have g_s_4 : FA_ s0 s_4 := by rw [e_s_4]; exact FA_.si g_s_2 (pa_big (by omega))
    clear e_s_4
    refine pf_chk (fun _ => ?_)
    refine pf_bv (fun s_6 e_s_6 => ?_)
    have g_s_6 : FA_ s0 s_6 := by rw [e_s_6]; exact FA_.si g_s_4 (pa_big (by omega))
    clear e_s_6
    refine pf_bv (fun s_7 e_s_7 => ?_)
    have g_s_7 : FA_ s0 s_7 := by rw [e_s_7]; exact FA_.si g_s_6 (pa_big (by omega))
    clear e_s_7
    exact pf_some (hQ () g_s_7)
set_option maxRecDepth 20000 in
theorem ya_fX5_emit (q0 : Nat) (a1 : Int32) (s0 : Sg) (h_q0 : 48 ≤ q0) : pf_ (fX5_emit q0 a1 s0) (fun q => FA_ s0 q) := by
  generalize hQ0 : (fun q : (Sg) => FA_ s0 q) = Q
  have hQ : ∀ (_ : Unit) {x : Sg}, FA_ s0 x → Q x := fun _ x h => by rw [← hQ0]; exact h
  clear hQ0
  unfold fX5_emit
  refine pf_if ?_ ?_
  · skip
    exact pf_some (hQ () FA_.rf)
  · skip
    refine pf_chk (fun _ => ?_)
    refine pf_bv (fun s_2 e_s_2 => ?_)
    have g_s_2 : FA_ s0 s_2 := by rw [e_s_2]; exact FA_.si FA_.rf (pa_big (by omega))
    clear e_s_2
    refine pf_bv (fun s_3 e_s_3 => ?_)
    have g_s_3 : FA_ s0 s_3 := by rw [e_s_3]; exact FA_.si g_s_2 (pa_big (by omega))
    clear e_s_3
    exact pf_some (hQ () g_s_3)
set_option maxRecDepth 20000 in
theorem ya_fX2_settle (a1 : Int32) (s0 : Sg)  : pf_ (fX2_settle a1 s0) (fun q => FA_ s0 q) := by
  generalize hQ0 : (fun q : (Sg) => FA_ s0 q) = Q
  have hQ : ∀ (_ : Unit) {x : Sg}, FA_ s0 x → Q x := fun _ x h => by rw [← hQ0]; exact h
  clear hQ0
  unfold fX2_settle
  refine pf_lo1 (fun s_1 => FA_ s0 s_1) ?_ FU s0 FA_.rf
  intro rec0 s_1 g_s_1 hr0_
  have hrec0 : ∀ (s_1 : Sg), FA_ s0 s_1 → pf_ (rec0 s_1) Q := fun s_1 z_s_1 => hr0_ s_1 z_s_1
  clear hr0_
  unfold fX2_settle_0_b
  refine pf_if ?_ ?_
  · skip
    exact pf_some (hQ () g_s_1)
  · skip
    refine pf_chk (fun _ => ?_)
    refine pf_chk (fun _ => ?_)
    refine pf_if ?_ ?_
    · skip
      exact pf_some (hQ () g_s_1)
    · skip
      refine pf_bv (fun s_4 e_s_4 => ?_)
      have g_s_4 : FA_ s0 s_4 := by rw [e_s_4]; exact FA_.si g_s_1 rfl
      clear e_s_4
      refine pf_chk (fun _ => ?_)
      refine pf_bv (fun v_6 e_v_6 => ?_)
      clear e_v_6
      refine pf_bv (fun q_7 e_q_7 => ?_)
      refine pf_chk (fun h_ => ?_)
      have c_28_ := scr_cases h_
      refine pf_bnv (ya_fX5_emit q_7 (20000 + v_6) s_4 (by omega)) (fun s_9 p_s_9 => ?_)
      have g_s_9 : FA_ s0 s_9 := (g_s_4).tr p_s_9
      refine pf_jn (fun k_12 => ∀ (y_10 : Int32) (y_11 : Bool), pf_ (k_12 y_10 y_11) Q) ?_ (fun k_12 hk_12 => ?_)
      · intro y_10 y_11
        try dsimp only
        refine pf_bv (fun s_13 e_s_13 => ?_)
        have g_s_13 : FA_ s0 s_13 := by rw [e_s_13]; exact FA_.si g_s_9 rfl
        clear e_s_13
        exact hrec0 s_13 g_s_13
      refine pf_jn (fun k_15 => ∀ (y_14 : Int32), pf_ (k_15 y_14) Q) ?_ (fun k_15 hk_15 => ?_)
      · intro y_14
        try dsimp only
        exact hk_12 y_14 true 
      refine pf_if ?_ ?_
      · skip
        exact hk_15 (gi s_9 4 6) 
      · skip
        refine pf_if ?_ ?_
        · skip
          exact hk_15 (gi s_9 4 6) 
        · skip
          exact hk_12 (gi s_9 4 6) false 
set_option maxRecDepth 20000 in
theorem ya_fX2_keepWaiting (a1 : Int32) (s0 : Sg)  : pf_ (fX2_keepWaiting a1 s0) (fun q => FA_ s0 q) := by
  generalize hQ0 : (fun q : (Sg) => FA_ s0 q) = Q
  have hQ : ∀ (_ : Unit) {x : Sg}, FA_ s0 x → Q x := fun _ x h => by rw [← hQ0]; exact h
  clear hQ0
  unfold fX2_keepWaiting
  refine pf_if ?_ ?_
  · skip
    exact pf_some (hQ () FA_.rf)
  · skip
    refine pf_chk (fun _ => ?_)
    refine pf_bv (fun s_2 e_s_2 => ?_)
    have g_s_2 : FA_ s0 s_2 := by rw [e_s_2]; exact FA_.si FA_.rf rfl
    clear e_s_2
    refine pf_bv (fun s_3 e_s_3 => ?_)
    have g_s_3 : FA_ s0 s_3 := by rw [e_s_3]; exact FA_.si g_s_2 rfl
    clear e_s_3
    exact pf_some (hQ () g_s_3)
set_option maxRecDepth 20000 in
theorem ya_fX2_joinBy (a1 : Int32) (s0 : Sg)  : pf_ (fX2_joinBy a1 s0) (fun q => FA_ s0 q) := by
  generalize hQ0 : (fun q : (Sg) => FA_ s0 q) = Q
  have hQ : ∀ (_ : Unit) {x : Sg}, FA_ s0 x → Q x := fun _ x h => by rw [← hQ0]; exact h
  clear hQ0
  unfold fX2_joinBy
  refine pf_chk (fun _ => ?_)
  refine pf_bnv (ya_fX2_settle (tB.getD (ix a1) 0) s0 ) (fun s_2 p_s_2 => ?_)
  have g_s_2 : FA_ s0 s_2 := (FA_.rf).tr p_s_2
  refine pf_bnv (ya_fX2_keepWaiting a1 s_2 ) (fun s_3 p_s_3 => ?_)
  have g_s_3 : FA_ s0 s_3 := (g_s_2).tr p_s_3
  refine pf_bv (fun s_4 e_s_4 => ?_)
  have g_s_4 : FA_ s0 s_4 := by rw [e_s_4]; exact FA_.si g_s_3 rfl
  clear e_s_4
  exact pf_some (hQ () g_s_4)
set_option maxRecDepth 20000 in
theorem ya_fX2_closeBracket (s0 : Sg)  : pf_ (fX2_closeBracket s0) (fun q => FA_ s0 q) := by
  generalize hQ0 : (fun q : (Sg) => FA_ s0 q) = Q
  have hQ : ∀ (_ : Unit) {x : Sg}, FA_ s0 x → Q x := fun _ x h => by rw [← hQ0]; exact h
  clear hQ0
  unfold fX2_closeBracket
  refine pf_bnv (ya_fX2_settle 1 s0 ) (fun s_1 p_s_1 => ?_)
  have g_s_1 : FA_ s0 s_1 := (FA_.rf).tr p_s_1
  refine pf_jn (fun k_4 => ∀ (y_2 : Int32) (y_3 : Bool), pf_ (k_4 y_2 y_3) Q) ?_ (fun k_4 hk_4 => ?_)
  · intro y_2 y_3
    try dsimp only
    refine pf_bv (fun s_5 e_s_5 => ?_)
    have g_s_5 : FA_ s0 s_5 := by rw [e_s_5]; exact FA_.si g_s_1 rfl
    clear e_s_5
    refine pf_bv (fun s_6 e_s_6 => ?_)
    have g_s_6 : FA_ s0 s_6 := by rw [e_s_6]; exact FA_.si g_s_5 rfl
    clear e_s_6
    refine pf_bv (fun s_7 e_s_7 => ?_)
    have g_s_7 : FA_ s0 s_7 := by rw [e_s_7]; exact FA_.si g_s_6 rfl
    clear e_s_7
    exact pf_some (hQ () g_s_7)
  refine pf_if ?_ ?_
  · skip
    exact hk_4 (gi s_1 4 2) false 
  · skip
    exact hk_4 (gi s_1 4 2) true 
set_option maxRecDepth 20000 in
theorem ya_fX2_readOperation (s0 : Sg)  : pf_ (fX2_readOperation s0) (fun q => FA_ s0 q) := by
  generalize hQ0 : (fun q : (Sg) => FA_ s0 q) = Q
  have hQ : ∀ (_ : Unit) {x : Sg}, FA_ s0 x → Q x := fun _ x h => by rw [← hQ0]; exact h
  clear hQ0
  unfold fX2_readOperation
  refine pf_bv (fun v_1 e_v_1 => ?_)
  clear e_v_1
  refine pf_jn (fun k_2 => pf_ k_2 Q) ?_ (fun k_2 hk_2 => ?_)
  · skip
    refine pf_jn (fun k_3 => pf_ k_3 Q) ?_ (fun k_3 hk_3 => ?_)
    · skip
      refine pf_jn (fun k_4 => pf_ k_4 Q) ?_ (fun k_4 hk_4 => ?_)
      · skip
        refine pf_jn (fun k_5 => pf_ k_5 Q) ?_ (fun k_5 hk_5 => ?_)
        · skip
          refine pf_jn (fun k_6 => pf_ k_6 Q) ?_ (fun k_6 hk_6 => ?_)
          · skip
            refine pf_bnv (ya_fX2_fail 1 s0 ) (fun s_8 p_s_8 => ?_)
            have g_s_8 : FA_ s0 s_8 := (FA_.rf).tr p_s_8
            exact pf_some (hQ () g_s_8)
          refine pf_if ?_ ?_
          · skip
            refine pf_if ?_ ?_
            · skip
              refine pf_if ?_ ?_
              · skip
                refine pf_bnv (ya_fX2_settle 1 s0 ) (fun s_9 p_s_9 => ?_)
                have g_s_9 : FA_ s0 s_9 := (FA_.rf).tr p_s_9
                refine pf_bv (fun s_10 e_s_10 => ?_)
                have g_s_10 : FA_ s0 s_10 := by rw [e_s_10]; exact FA_.si g_s_9 rfl
                clear e_s_10
                exact pf_some (hQ () g_s_10)
              · skip
                exact hk_6  
            · skip
              exact hk_6  
          · skip
            exact hk_6  
        refine pf_jn (fun k_11 => pf_ k_11 Q) ?_ (fun k_11 hk_11 => ?_)
        · skip
          refine pf_if ?_ ?_
          · skip
            refine pf_if ?_ ?_
            · skip
              exact hk_5  
            · skip
              refine pf_bnv (ya_fX2_joinBy v_1 s0 ) (fun s_12 p_s_12 => ?_)
              have g_s_12 : FA_ s0 s_12 := (FA_.rf).tr p_s_12
              refine pf_bv (fun s_13 e_s_13 => ?_)
              have g_s_13 : FA_ s0 s_13 := by rw [e_s_13]; exact FA_.si g_s_12 rfl
              clear e_s_13
              refine pf_bv (fun s_14 e_s_14 => ?_)
              have g_s_14 : FA_ s0 s_14 := by rw [e_s_14]; exact FA_.si g_s_13 rfl
              clear e_s_14
              exact pf_some (hQ () g_s_14)
          · skip
            exact hk_5  
        refine pf_if ?_ ?_
        · skip
          exact hk_11  
        · skip
          refine pf_if ?_ ?_
          · skip
            exact hk_11  
          · skip
            exact hk_5  
      refine pf_if ?_ ?_
      · skip
        exact hk_4  
      · skip
        refine pf_if ?_ ?_
        · skip
          exact hk_4  
        · skip
          refine pf_if ?_ ?_
          · skip
            exact hk_4  
          · skip
            refine pf_if ?_ ?_
            · skip
              refine pf_if ?_ ?_
              · skip
                refine pf_bnv (ya_fX2_joinBy v_1 s0 ) (fun s_15 p_s_15 => ?_)
                have g_s_15 : FA_ s0 s_15 := (FA_.rf).tr p_s_15
                refine pf_bv (fun s_16 e_s_16 => ?_)
                have g_s_16 : FA_ s0 s_16 := by rw [e_s_16]; exact FA_.si g_s_15 rfl
                clear e_s_16
                exact pf_some (hQ () g_s_16)
              · skip
                exact hk_4  
            · skip
              exact hk_4  
    refine pf_if ?_ ?_
    · skip
      refine pf_if ?_ ?_
      · skip
        exact hk_3  
      · skip
        refine pf_bnv (ya_fX2_closeBracket s0 ) (fun s_17 p_s_17 => ?_)
        have g_s_17 : FA_ s0 s_17 := (FA_.rf).tr p_s_17
        exact pf_some (hQ () g_s_17)
    · skip
      exact hk_3  
  refine pf_if ?_ ?_
  · skip
    exact hk_2  
  · skip
    refine pf_if ?_ ?_
    · skip
      exact hk_2  
    · skip
      refine pf_bnv (ya_fX2_joinBy v_1 s0 ) (fun s_18 p_s_18 => ?_)
      have g_s_18 : FA_ s0 s_18 := (FA_.rf).tr p_s_18
      exact pf_some (hQ () g_s_18)
set_option maxRecDepth 20000 in
theorem ya_fX2_openOne (a1 : Int32) (s0 : Sg)  : pf_ (fX2_openOne a1 s0) (fun q => FA_ s0 q) := by
  generalize hQ0 : (fun q : (Sg) => FA_ s0 q) = Q
  have hQ : ∀ (_ : Unit) {x : Sg}, FA_ s0 x → Q x := fun _ x h => by rw [← hQ0]; exact h
  clear hQ0
  unfold fX2_openOne
  refine pf_if ?_ ?_
  · skip
    refine pf_bv (fun s_1 e_s_1 => ?_)
    have g_s_1 : FA_ s0 s_1 := by rw [e_s_1]; exact FA_.si FA_.rf rfl
    clear e_s_1
    refine pf_jn (fun k_4 => ∀ (y_2 : Int32) (y_3 : Bool), pf_ (k_4 y_2 y_3) Q) ?_ (fun k_4 hk_4 => ?_)
    · intro y_2 y_3
      try dsimp only
      refine pf_bv (fun s_5 e_s_5 => ?_)
      have g_s_5 : FA_ s0 s_5 := by rw [e_s_5]; exact FA_.si g_s_1 rfl
      clear e_s_5
      refine pf_jn (fun k_7 => ∀ (y_6 : Bool), pf_ (k_7 y_6) Q) ?_ (fun k_7 hk_7 => ?_)
      · intro y_6
        try dsimp only
        refine pf_bv (fun s_8 e_s_8 => ?_)
        have g_s_8 : FA_ s0 s_8 := by rw [e_s_8]; exact FA_.si g_s_5 rfl
        clear e_s_8
        refine pf_bnv (ya_fX2_keepWaiting a1 s_8 ) (fun s_9 p_s_9 => ?_)
        have g_s_9 : FA_ s0 s_9 := (g_s_8).tr p_s_9
        exact pf_some (hQ () g_s_9)
      refine pf_if ?_ ?_
      · skip
        exact hk_7 true 
      · skip
        exact hk_7 false 
    refine pf_if ?_ ?_
    · skip
      exact hk_4 (gi s_1 4 7) true 
    · skip
      exact hk_4 (gi s_1 4 7) false 
  · skip
    refine pf_bnv (ya_fX2_fail 3 s0 ) (fun s_10 p_s_10 => ?_)
    have g_s_10 : FA_ s0 s_10 := (FA_.rf).tr p_s_10
    exact pf_some (hQ () g_s_10)
set_option maxRecDepth 20000 in
theorem ya_fX2_operandFault (a1 : Int32) (s0 : Sg)  : pf_ (fX2_operandFault a1 s0) (fun q => FA_ s0 q.2) := by
  generalize hQ0 : (fun q : (Int32 × Sg) => FA_ s0 q.2) = Q
  have hQ : ∀ r {x : Sg}, FA_ s0 x → Q (r, x) := fun r x h => by rw [← hQ0]; exact h
  clear hQ0
  unfold fX2_operandFault
  refine pf_if ?_ ?_
  · skip
    refine pf_if ?_ ?_
    · skip
      exact pf_some (hQ _ FA_.rf)
    · skip
      exact pf_some (hQ _ FA_.rf)
  · skip
    refine pf_if ?_ ?_
    · skip
      refine pf_bv (fun v_1 e_v_1 => ?_)
      clear e_v_1
      refine pf_jn (fun k_3 => ∀ (y_2 : Bool), pf_ (k_3 y_2) Q) ?_ (fun k_3 hk_3 => ?_)
      · intro y_2
        try dsimp only
        refine pf_if ?_ ?_
        · skip
          exact pf_some (hQ _ FA_.rf)
        · skip
          exact pf_some (hQ _ FA_.rf)
      refine pf_jn (fun k_4 => pf_ k_4 Q) ?_ (fun k_4 hk_4 => ?_)
      · skip
        exact hk_3 true 
      refine pf_if ?_ ?_
      · skip
        exact hk_4  
      · skip
        refine pf_jn (fun k_6 => ∀ (y_5 : Bool), pf_ (k_6 y_5) Q) ?_ (fun k_6 hk_6 => ?_)
        · intro y_5
          try dsimp only
          refine pf_if ?_ ?_
          · skip
            exact hk_4  
          · skip
            exact hk_3 false 
        refine pf_if ?_ ?_
        · skip
          exact hk_6 false 
        · skip
          exact hk_6 true 
    · skip
      exact pf_some (hQ _ FA_.rf)
set_option maxRecDepth 20000 in
theorem ya_fX2_takeOperand (a1 : Int32) (s0 : Sg)  : pf_ (fX2_takeOperand a1 s0) (fun q => FA_ s0 q) := by
  generalize hQ0 : (fun q : (Sg) => FA_ s0 q) = Q
  have hQ : ∀ (_ : Unit) {x : Sg}, FA_ s0 x → Q x := fun _ x h => by rw [← hQ0]; exact h
  clear hQ0
  unfold fX2_takeOperand
  refine pf_bv (fun q_1 e_q_1 => ?_)
  refine pf_chk (fun h_ => ?_)
  have c_7_ := scr_cases h_
  refine pf_bnv (ya_fX5_emit q_1 a1 s0 (by omega)) (fun s_3 p_s_3 => ?_)
  have g_s_3 : FA_ s0 s_3 := (FA_.rf).tr p_s_3
  refine pf_bv (fun s_4 e_s_4 => ?_)
  have g_s_4 : FA_ s0 s_4 := by rw [e_s_4]; exact FA_.si g_s_3 rfl
  clear e_s_4
  refine pf_bv (fun s_5 e_s_5 => ?_)
  have g_s_5 : FA_ s0 s_5 := by rw [e_s_5]; exact FA_.si g_s_4 rfl
  clear e_s_5
  exact pf_some (hQ () g_s_5)
set_option maxRecDepth 20000 in
theorem ya_fX2_readOperand (s0 : Sg)  : pf_ (fX2_readOperand s0) (fun q => FA_ s0 q) := by
  generalize hQ0 : (fun q : (Sg) => FA_ s0 q) = Q
  have hQ : ∀ (_ : Unit) {x : Sg}, FA_ s0 x → Q x := fun _ x h => by rw [← hQ0]; exact h
  clear hQ0
  unfold fX2_readOperand
  refine pf_bv (fun v_1 e_v_1 => ?_)
  clear e_v_1
  refine pf_jn (fun k_2 => pf_ k_2 Q) ?_ (fun k_2 hk_2 => ?_)
  · skip
    refine pf_jn (fun k_4 => ∀ (y_3 : Int32), pf_ (k_4 y_3) Q) ?_ (fun k_4 hk_4 => ?_)
    · intro y_3
      try dsimp only
      refine pf_bnv (ya_fX2_openOne y_3 s0 ) (fun s_5 p_s_5 => ?_)
      have g_s_5 : FA_ s0 s_5 := (FA_.rf).tr p_s_5
      exact pf_some (hQ () g_s_5)
    refine pf_if ?_ ?_
    · skip
      exact hk_4 14 
    · skip
      exact hk_4 v_1 
  refine pf_if ?_ ?_
  · skip
    exact hk_2  
  · skip
    refine pf_if ?_ ?_
    · skip
      exact hk_2  
    · skip
      refine pf_jn (fun k_6 => pf_ k_6 Q) ?_ (fun k_6 hk_6 => ?_)
      · skip
        refine pf_bnd (ya_fX2_operandFault v_1 s0 ) (fun r_7 s_8 p_s_8 => ?_)
        have g_s_8 : FA_ s0 s_8 := (FA_.rf).tr p_s_8
        refine pf_if ?_ ?_
        · skip
          refine pf_jn (fun k_10 => ∀ (y_9 : Int32), pf_ (k_10 y_9) Q) ?_ (fun k_10 hk_10 => ?_)
          · intro y_9
            try dsimp only
            refine pf_bnv (ya_fX2_takeOperand y_9 s_8 ) (fun s_12 p_s_12 => ?_)
            have g_s_12 : FA_ s0 s_12 := (g_s_8).tr p_s_12
            exact pf_some (hQ () g_s_12)
          refine pf_if ?_ ?_
          · skip
            exact hk_10 (gi s_8 3 5) 
          · skip
            exact hk_10 ((10000 + v_1) - 26) 
        · skip
          refine pf_bnv (ya_fX2_fail r_7 s_8 ) (fun s_13 p_s_13 => ?_)
          have g_s_13 : FA_ s0 s_13 := (g_s_8).tr p_s_13
          exact pf_some (hQ () g_s_13)
      refine pf_if ?_ ?_
      · skip
        refine pf_if ?_ ?_
        · skip
          exact hk_6  
        · skip
          exact hk_2  
      · skip
        exact hk_6  
set_option maxRecDepth 20000 in
theorem ya_fX2_readLaw (a1 : Int32) (s0 : Sg)  : pf_ (fX2_readLaw a1 s0) (fun q => FA_ s0 q) := by
  generalize hQ0 : (fun q : (Sg) => FA_ s0 q) = Q
  have hQ : ∀ (_ : Unit) {x : Sg}, FA_ s0 x → Q x := fun _ x h => by rw [← hQ0]; exact h
  clear hQ0
  unfold fX2_readLaw
  refine pf_bv (fun q_1 e_q_1 => ?_)
  refine pf_chk (fun h_ => ?_)
  have c_7_ := scr_cases h_
  refine pf_bv (fun v_3 e_v_3 => ?_)
  clear e_v_3
  refine pf_jn (fun k_5 => ∀ (y_4 : Bool), pf_ (k_5 y_4) Q) ?_ (fun k_5 hk_5 => ?_)
  · intro y_4
    try dsimp only
    refine pf_bv (fun s_6 e_s_6 => ?_)
    have g_s_6 : FA_ s0 s_6 := by rw [e_s_6]; exact FA_.si FA_.rf rfl
    clear e_s_6
    refine pf_bv (fun s_7 e_s_7 => ?_)
    have g_s_7 : FA_ s0 s_7 := by rw [e_s_7]; exact FA_.si g_s_6 rfl
    clear e_s_7
    refine pf_bv (fun s_8 e_s_8 => ?_)
    have g_s_8 : FA_ s0 s_8 := by rw [e_s_8]; exact FA_.si g_s_7 rfl
    clear e_s_8
    refine pf_bv (fun s_9 e_s_9 => ?_)
    have g_s_9 : FA_ s0 s_9 := by rw [e_s_9]; exact FA_.si g_s_8 rfl
    clear e_s_9
    refine pf_bv (fun s_10 e_s_10 => ?_)
    have g_s_10 : FA_ s0 s_10 := by rw [e_s_10]; exact FA_.si g_s_9 rfl
    clear e_s_10
    refine pf_chk (fun _ => ?_)
    refine pf_bv (fun s_11 e_s_11 => ?_)
    have g_s_11 : FA_ s0 s_11 := by rw [e_s_11]; exact FA_.si g_s_10 rfl
    clear e_s_11
    refine pf_bv (fun s_13 e_s_13 => ?_)
    have g_s_13 : FA_ s0 s_13 := by rw [e_s_13]; exact FA_.si g_s_11 rfl
    clear e_s_13
    refine pf_bv (fun s_14 e_s_14 => ?_)
    have g_s_14 : FA_ s0 s_14 := by rw [e_s_14]; exact FA_.si g_s_13 rfl
    clear e_s_14
    refine pf_jn (fun k_16 => ∀ (s_15 : Sg), FA_ s0 s_15 → pf_ (k_16 s_15) Q) ?_ (fun k_16 hk_16 => ?_)
    · intro s_15 g_s_15
      try dsimp only
      refine pf_bnv (ya_fX2_takeToken 16 s_15 ) (fun s_17 p_s_17 => ?_)
      have g_s_17 : FA_ s0 s_17 := (g_s_15).tr p_s_17
      refine pf_bv (fun q_18 e_q_18 => ?_)
      refine pf_chk (fun h_ => ?_)
      have c_45_ := scr_cases h_
      refine pf_bnv (ya_fX5_addClause q_18 a1 0 0 s_17 (by omega)) (fun s_20 p_s_20 => ?_)
      have g_s_20 : FA_ s0 s_20 := (g_s_17).tr p_s_20
      refine pf_if ?_ ?_
      · skip
        refine pf_bv (fun q_21 e_q_21 => ?_)
        refine pf_chk (fun h_ => ?_)
        have c_52_ := scr_cases h_
        refine pf_bv (fun s_23 e_s_23 => ?_)
        have g_s_23 : FA_ s0 s_23 := by rw [e_s_23]; exact FA_.si g_s_20 (pa_big (by omega))
        clear e_s_23
        refine pf_bv (fun q_24 e_q_24 => ?_)
        refine pf_chk (fun h_ => ?_)
        have c_58_ := scr_cases h_
        refine pf_bv (fun q_26 e_q_26 => ?_)
        refine pf_chk (fun h_ => ?_)
        have c_61_ := scr_cases h_
        refine pf_bv (fun s_28 e_s_28 => ?_)
        have g_s_28 : FA_ s0 s_28 := by rw [e_s_28]; exact FA_.si g_s_23 (pa_big (by omega))
        clear e_s_28
        exact pf_some (hQ () g_s_28)
      · skip
        refine pf_bv (fun q_29 e_q_29 => ?_)
        refine pf_chk (fun h_ => ?_)
        have c_69_ := scr_cases h_
        refine pf_bv (fun s_31 e_s_31 => ?_)
        have g_s_31 : FA_ s0 s_31 := by rw [e_s_31]; exact FA_.si g_s_20 (pa_big (by omega))
        clear e_s_31
        refine pf_bv (fun q_32 e_q_32 => ?_)
        refine pf_chk (fun h_ => ?_)
        have c_75_ := scr_cases h_
        refine pf_bv (fun q_34 e_q_34 => ?_)
        refine pf_chk (fun h_ => ?_)
        have c_78_ := scr_cases h_
        refine pf_bv (fun s_36 e_s_36 => ?_)
        have g_s_36 : FA_ s0 s_36 := by rw [e_s_36]; exact FA_.si g_s_31 (pa_big (by omega))
        clear e_s_36
        exact pf_some (hQ () g_s_36)
    refine pf_lo2 (fun (_ : Int32) s_38 => FA_ s0 s_38) ?_ FU 0 s_14 g_s_14
    intro rec63 x3_37 s_38 g_s_38 hr0_
    have hrec63 : ∀ (x3_37 : Int32) (s_38 : Sg), FA_ s0 s_38 → pf_ (rec63 x3_37 s_38) Q := fun x3_37 s_38 z_s_38 => hr0_ x3_37 s_38 z_s_38
    clear hr0_
    unfold fX2_readLaw_63_b
    refine pf_if ?_ ?_
    · skip
      exact hk_16 s_38 g_s_38
    · skip
      refine pf_if ?_ ?_
      · skip
        refine pf_if ?_ ?_
        · skip
          refine pf_bnv (ya_fX7_advance s_38 ) (fun s_39 p_s_39 => ?_)
          have g_s_39 : FA_ s0 s_39 := (g_s_38).tr p_s_39
          refine pf_jn (fun k_41 => ∀ (s_40 : Sg), FA_ s0 s_40 → pf_ (k_41 s_40) Q) ?_ (fun k_41 hk_41 => ?_)
          · intro s_40 g_s_40
            try dsimp only
            refine pf_bv (fun v_42 e_v_42 => ?_)
            clear e_v_42
            exact hrec63 v_42 s_40 g_s_40
          refine pf_if ?_ ?_
          · skip
            refine pf_bnv (ya_fX2_readOperation s_39 ) (fun s_44 p_s_44 => ?_)
            have g_s_44 : FA_ s0 s_44 := (g_s_39).tr p_s_44
            exact hk_41 s_44 g_s_44
          · skip
            refine pf_bnv (ya_fX2_readOperand s_39 ) (fun s_45 p_s_45 => ?_)
            have g_s_45 : FA_ s0 s_45 := (g_s_39).tr p_s_45
            exact hk_41 s_45 g_s_45
        · skip
          exact hk_16 s_38 g_s_38
      · skip
        exact hk_16 s_38 g_s_38
  refine pf_if ?_ ?_
  · skip
    exact hk_5 true 
  · skip
    exact hk_5 false 
set_option maxRecDepth 20000 in
theorem ya_fX2_takeNumber (a1 : Int32) (s0 : Sg)  : pf_ (fX2_takeNumber a1 s0) (fun q => FA_ s0 q.2) := by
  generalize hQ0 : (fun q : (Int32 × Sg) => FA_ s0 q.2) = Q
  have hQ : ∀ r {x : Sg}, FA_ s0 x → Q (r, x) := fun r x h => by rw [← hQ0]; exact h
  clear hQ0
  unfold fX2_takeNumber
  refine pf_jn (fun k_2 => ∀ (s_1 : Sg), FA_ s0 s_1 → pf_ (k_2 s_1) Q) ?_ (fun k_2 hk_2 => ?_)
  · intro s_1 g_s_1
    try dsimp only
    refine pf_bv (fun v_3 e_v_3 => ?_)
    clear e_v_3
    refine pf_if ?_ ?_
    · skip
      refine pf_bnv (ya_fX7_advance s_1 ) (fun s_5 p_s_5 => ?_)
      have g_s_5 : FA_ s0 s_5 := (g_s_1).tr p_s_5
      exact pf_some (hQ _ g_s_5)
    · skip
      exact pf_some (hQ _ g_s_1)
  refine pf_if ?_ ?_
  · skip
    refine pf_if ?_ ?_
    · skip
      exact hk_2 s0 FA_.rf
    · skip
      refine pf_bnv (ya_fX2_fail 2 s0 ) (fun s_7 p_s_7 => ?_)
      have g_s_7 : FA_ s0 s_7 := (FA_.rf).tr p_s_7
      exact hk_2 s_7 g_s_7
  · skip
    refine pf_bnv (ya_fX2_fail 1 s0 ) (fun s_8 p_s_8 => ?_)
    have g_s_8 : FA_ s0 s_8 := (FA_.rf).tr p_s_8
    exact hk_2 s_8 g_s_8
set_option maxRecDepth 20000 in
theorem ya_fX2_readStep (a1 : Int32) (s0 : Sg)  : pf_ (fX2_readStep a1 s0) (fun q => FA_ s0 q) := by
  generalize hQ0 : (fun q : (Sg) => FA_ s0 q) = Q
  have hQ : ∀ (_ : Unit) {x : Sg}, FA_ s0 x → Q x := fun _ x h => by rw [← hQ0]; exact h
  clear hQ0
  unfold fX2_readStep
  refine pf_bnv (ya_fX7_advance s0 ) (fun s_1 p_s_1 => ?_)
  have g_s_1 : FA_ s0 s_1 := (FA_.rf).tr p_s_1
  refine pf_jn (fun k_3 => ∀ (y_2 : Int32), pf_ (k_3 y_2) Q) ?_ (fun k_3 hk_3 => ?_)
  · intro y_2
    try dsimp only
    refine pf_bnd (ya_fX2_takeNumber y_2 s_1 ) (fun r_4 s_5 p_s_5 => ?_)
    have g_s_5 : FA_ s0 s_5 := (g_s_1).tr p_s_5
    refine pf_jn (fun k_8 => ∀ (x3_6 : Int32) (s_7 : Sg), FA_ s0 s_7 → pf_ (k_8 x3_6 s_7) Q) ?_ (fun k_8 hk_8 => ?_)
    · intro x3_6 s_7 g_s_7
      try dsimp only
      refine pf_bnv (ya_fX2_takeToken 16 s_7 ) (fun s_9 p_s_9 => ?_)
      have g_s_9 : FA_ s0 s_9 := (g_s_7).tr p_s_9
      refine pf_bv (fun q_10 e_q_10 => ?_)
      refine pf_chk (fun h_ => ?_)
      have c_19_ := scr_cases h_
      refine pf_bnv (ya_fX5_addClause q_10 a1 r_4 x3_6 s_9 (by omega)) (fun s_12 p_s_12 => ?_)
      have g_s_12 : FA_ s0 s_12 := (g_s_9).tr p_s_12
      exact pf_some (hQ () g_s_12)
    refine pf_if ?_ ?_
    · skip
      refine pf_bnv (ya_fX2_takeToken 18 s_5 ) (fun s_13 p_s_13 => ?_)
      have g_s_13 : FA_ s0 s_13 := (g_s_5).tr p_s_13
      refine pf_bnd (ya_fX2_takeNumber 1 s_13 ) (fun r_14 s_15 p_s_15 => ?_)
      have g_s_15 : FA_ s0 s_15 := (g_s_13).tr p_s_15
      exact hk_8 r_14 s_15 g_s_15
    · skip
      exact hk_8 0 s_5 g_s_5
  refine pf_if ?_ ?_
  · skip
    exact hk_3 99 
  · skip
    exact hk_3 11 
set_option maxRecDepth 20000 in
theorem ya_fX2_read (a1 : Nat) (s0 : Sg)  : pf_ (fX2_read a1 s0) (fun q => FA_ s0 q.2) := by
  generalize hQ0 : (fun q : (Bool × Sg) => FA_ s0 q.2) = Q
  have hQ : ∀ r {x : Sg}, FA_ s0 x → Q (r, x) := fun r x h => by rw [← hQ0]; exact h
  clear hQ0
  unfold fX2_read
  refine pf_bv (fun s_1 e_s_1 => ?_)
  have g_s_1 : FA_ s0 s_1 := by rw [e_s_1]; exact FA_.sr FA_.rf
  clear e_s_1
  refine pf_bv (fun q_2 e_q_2 => ?_)
  refine pf_chk (fun h_ => ?_)
  have c_10_ := scr_cases h_
  refine pf_bnv (ya_fX5_clear q_2 s_1 (by omega)) (fun s_4 p_s_4 => ?_)
  have g_s_4 : FA_ s0 s_4 := (g_s_1).tr p_s_4
  refine pf_bv (fun s_5 e_s_5 => ?_)
  have g_s_5 : FA_ s0 s_5 := by rw [e_s_5]; exact FA_.si g_s_4 rfl
  clear e_s_5
  refine pf_bv (fun s_6 e_s_6 => ?_)
  have g_s_6 : FA_ s0 s_6 := by rw [e_s_6]; exact FA_.si g_s_5 rfl
  clear e_s_6
  refine pf_bnv (ya_fX7_begin s_6 ) (fun s_7 p_s_7 => ?_)
  have g_s_7 : FA_ s0 s_7 := (g_s_6).tr p_s_7
  refine pf_jn (fun k_9 => ∀ (s_8 : Sg), FA_ s0 s_8 → pf_ (k_9 s_8) Q) ?_ (fun k_9 hk_9 => ?_)
  · intro s_8 g_s_8
    try dsimp only
    refine pf_if ?_ ?_
    · skip
      exact pf_some (hQ _ g_s_8)
    · skip
      exact pf_some (hQ _ g_s_8)
  refine pf_lo2 (fun (_ : Int32) s_11 => FA_ s0 s_11) ?_ FU 0 s_7 g_s_7
  intro rec31 x2_10 s_11 g_s_11 hr0_
  have hrec31 : ∀ (x2_10 : Int32) (s_11 : Sg), FA_ s0 s_11 → pf_ (rec31 x2_10 s_11) Q := fun x2_10 s_11 z_s_11 => hr0_ x2_10 s_11 z_s_11
  clear hr0_
  unfold fX2_read_31_b
  refine pf_if ?_ ?_
  · skip
    exact hk_9 s_11 g_s_11
  · skip
    refine pf_if ?_ ?_
    · skip
      refine pf_if ?_ ?_
      · skip
        exact hk_9 s_11 g_s_11
      · skip
        refine pf_bv (fun v_12 e_v_12 => ?_)
        clear e_v_12
        refine pf_bnd (ya_fX2_headFault v_12 s_11 ) (fun r_13 s_14 p_s_14 => ?_)
        have g_s_14 : FA_ s0 s_14 := (g_s_11).tr p_s_14
        refine pf_jn (fun k_16 => ∀ (s_15 : Sg), FA_ s0 s_15 → pf_ (k_16 s_15) Q) ?_ (fun k_16 hk_16 => ?_)
        · intro s_15 g_s_15
          try dsimp only
          refine pf_bv (fun v_17 e_v_17 => ?_)
          clear e_v_17
          exact hrec31 v_17 s_15 g_s_15
        refine pf_if ?_ ?_
        · skip
          refine pf_jn (fun k_18 => pf_ k_18 Q) ?_ (fun k_18 hk_18 => ?_)
          · skip
            refine pf_bnv (ya_fX2_readLaw v_12 s_14 ) (fun s_19 p_s_19 => ?_)
            have g_s_19 : FA_ s0 s_19 := (g_s_14).tr p_s_19
            exact hk_16 s_19 g_s_19
          refine pf_if ?_ ?_
          · skip
            exact hk_18  
          · skip
            refine pf_if ?_ ?_
            · skip
              exact hk_18  
            · skip
              refine pf_bnv (ya_fX2_readStep v_12 s_14 ) (fun s_21 p_s_21 => ?_)
              have g_s_21 : FA_ s0 s_21 := (g_s_14).tr p_s_21
              exact hk_16 s_21 g_s_21
        · skip
          refine pf_bnv (ya_fX2_fail r_13 s_14 ) (fun s_22 p_s_22 => ?_)
          have g_s_22 : FA_ s0 s_22 := (g_s_14).tr p_s_22
          exact hk_16 s_22 g_s_22
    · skip
      exact hk_9 s_11 g_s_11
set_option maxRecDepth 20000 in
theorem ya_fX9_text (s0 : Sg)  : pf_ (fX9_text s0) (fun q => FA_ s0 q.2) := by
  generalize hQ0 : (fun q : (Int32 × Sg) => FA_ s0 q.2) = Q
  have hQ : ∀ r {x : Sg}, FA_ s0 x → Q (r, x) := fun r x h => by rw [← hQ0]; exact h
  clear hQ0
  unfold fX9_text
  refine pf_if ?_ ?_
  · skip
    refine pf_chk (fun _ => ?_)
    refine pf_bv (fun q_2 e_q_2 => ?_)
    refine pf_chk (fun h_ => ?_)
    have c_10_ := scr_cases h_
    refine pf_bnd (ya_fX2_read q_2 s0 ) (fun r_4 s_5 p_s_5 => ?_)
    have g_s_5 : FA_ s0 s_5 := (FA_.rf).tr p_s_5
    refine pf_bv (fun s_6 e_s_6 => ?_)
    have g_s_6 : FA_ s0 s_6 := by rw [e_s_6]; exact FA_.si g_s_5 rfl
    clear e_s_6
    refine pf_if ?_ ?_
    · skip
      exact pf_some (hQ _ g_s_6)
    · skip
      refine pf_bv (fun s_7 e_s_7 => ?_)
      have g_s_7 : FA_ s0 s_7 := by rw [e_s_7]; exact FA_.si g_s_6 rfl
      clear e_s_7
      exact pf_some (hQ _ g_s_7)
  · skip
    exact pf_some (hQ _ FA_.rf)
set_option maxRecDepth 20000 in
theorem ya_fX9_fault (a1 : Int32) (s0 : Sg)  : pf_ (fX9_fault a1 s0) (fun q => FA_ s0 q.2) := by
  generalize hQ0 : (fun q : (Int32 × Sg) => FA_ s0 q.2) = Q
  have hQ : ∀ r {x : Sg}, FA_ s0 x → Q (r, x) := fun r x h => by rw [← hQ0]; exact h
  clear hQ0
  unfold fX9_fault
  refine pf_if ?_ ?_
  · skip
    exact pf_some (hQ _ FA_.rf)
  · skip
    refine pf_if ?_ ?_
    · skip
      exact pf_some (hQ _ FA_.rf)
    · skip
      exact pf_some (hQ _ FA_.rf)
set_option maxRecDepth 20000 in
theorem ya_fX9_isText (a1 : Int32) (s0 : Sg)  : pf_ (fX9_isText a1 s0) (fun q => FA_ s0 q.2) := by
  generalize hQ0 : (fun q : (Bool × Sg) => FA_ s0 q.2) = Q
  have hQ : ∀ r {x : Sg}, FA_ s0 x → Q (r, x) := fun r x h => by rw [← hQ0]; exact h
  clear hQ0
  unfold fX9_isText
  refine pf_bnd (ya_fX9_within a1 0 ((gi s0 1 11) - 1) s0 ) (fun r_1 s_2 p_s_2 => ?_)
  have g_s_2 : FA_ s0 s_2 := (FA_.rf).tr p_s_2
  exact pf_some (hQ _ g_s_2)
set_option maxRecDepth 20000 in
theorem ya_fX9_by (a1 : Int32) (s0 : Sg)  : pf_ (fX9_by a1 s0) (fun q => FA_ s0 q.2) := by
  generalize hQ0 : (fun q : (Bool × Sg) => FA_ s0 q.2) = Q
  have hQ : ∀ r {x : Sg}, FA_ s0 x → Q (r, x) := fun r x h => by rw [← hQ0]; exact h
  clear hQ0
  unfold fX9_by
  refine pf_jn (fun k_2 => ∀ (s_1 : Sg), FA_ s0 s_1 → pf_ (k_2 s_1) Q) ?_ (fun k_2 hk_2 => ?_)
  · intro s_1 g_s_1
    try dsimp only
    refine pf_bv (fun s_3 e_s_3 => ?_)
    have g_s_3 : FA_ s0 s_3 := by rw [e_s_3]; exact FA_.si g_s_1 rfl
    clear e_s_3
    refine pf_jn (fun k_5 => ∀ (y_4 : Nat), pf_ (k_5 y_4) Q) ?_ (fun k_5 hk_5 => ?_)
    · intro y_4
      try dsimp only
      refine pf_bv (fun s_6 e_s_6 => ?_)
      have g_s_6 : FA_ s0 s_6 := by rw [e_s_6]; exact FA_.sr g_s_3
      clear e_s_6
      exact pf_some (hQ _ g_s_6)
    refine pf_if ?_ ?_
    · skip
      exact hk_5 0 
    · skip
      refine pf_chk (fun _ => ?_)
      refine pf_bv (fun q_8 e_q_8 => ?_)
      refine pf_chk (fun h_ => ?_)
      have c_25_ := scr_cases h_
      exact hk_5 q_8 
  refine pf_if ?_ ?_
  · skip
    exact hk_2 s0 FA_.rf
  · skip
    refine pf_bnd (ya_fX9_isText a1 s0 ) (fun r_10 s_11 p_s_11 => ?_)
    have g_s_11 : FA_ s0 s_11 := (FA_.rf).tr p_s_11
    refine pf_if ?_ ?_
    · skip
      exact pf_some (hQ _ g_s_11)
    · skip
      exact hk_2 s_11 g_s_11
set_option maxRecDepth 20000 in
theorem ya_fX9_isPan (a1 : Int32) (s0 : Sg)  : pf_ (fX9_isPan a1 s0) (fun q => FA_ s0 q.2) := by
  generalize hQ0 : (fun q : (Bool × Sg) => FA_ s0 q.2) = Q
  have hQ : ∀ r {x : Sg}, FA_ s0 x → Q (r, x) := fun r x h => by rw [← hQ0]; exact h
  clear hQ0
  unfold fX9_isPan
  refine pf_if ?_ ?_
  · skip
    exact pf_some (hQ _ FA_.rf)
  · skip
    refine pf_if ?_ ?_
    · skip
      exact pf_some (hQ _ FA_.rf)
    · skip
      exact pf_some (hQ _ FA_.rf)
set_option maxRecDepth 20000 in
theorem ya_fX6_panOf (a1 : Int32) (s0 : Sg)  : pf_ (fX6_panOf a1 s0) (fun q => FA_ s0 q.2) := by
  generalize hQ0 : (fun q : (Int32 × Sg) => FA_ s0 q.2) = Q
  have hQ : ∀ r {x : Sg}, FA_ s0 x → Q (r, x) := fun r x h => by rw [← hQ0]; exact h
  clear hQ0
  unfold fX6_panOf
  refine pf_bnd (ya_fX9_within a1 0 ((gi s0 1 6) - 1) s0 ) (fun r_1 s_2 p_s_2 => ?_)
  have g_s_2 : FA_ s0 s_2 := (FA_.rf).tr p_s_2
  refine pf_if ?_ ?_
  · skip
    exact pf_some (hQ _ g_s_2)
  · skip
    refine pf_if ?_ ?_
    · skip
      exact pf_some (hQ _ g_s_2)
    · skip
      refine pf_if ?_ ?_
      · skip
        exact pf_some (hQ _ g_s_2)
      · skip
        exact pf_some (hQ _ g_s_2)
set_option maxRecDepth 20000 in
theorem ya_fX4_setAir (a1 : Int32) (a2 : Int32) (a3 : Int32) (s0 : Sg)  : pf_ (fX4_setAir a1 a2 a3 s0) (fun q => FA_ s0 q) := by
  generalize hQ0 : (fun q : (Sg) => FA_ s0 q) = Q
  have hQ : ∀ (_ : Unit) {x : Sg}, FA_ s0 x → Q x := fun _ x h => by rw [← hQ0]; exact h
  clear hQ0
  unfold fX4_setAir
  refine pf_bv (fun s_1 e_s_1 => ?_)
  have g_s_1 : FA_ s0 s_1 := by rw [e_s_1]; exact FA_.si FA_.rf rfl
  clear e_s_1
  refine pf_bv (fun s_2 e_s_2 => ?_)
  have g_s_2 : FA_ s0 s_2 := by rw [e_s_2]; exact FA_.si g_s_1 rfl
  clear e_s_2
  refine pf_bv (fun s_3 e_s_3 => ?_)
  have g_s_3 : FA_ s0 s_3 := by rw [e_s_3]; exact FA_.si g_s_2 rfl
  clear e_s_3
  exact pf_some (hQ () g_s_3)
set_option maxRecDepth 20000 in
theorem ya_fX4_hang (a2 : Int32) (a3 : Int32) (s0 : Sg)  : pf_ (fX4_hang a2 a3 s0) (fun q => FA_ s0 q) := by
  generalize hQ0 : (fun q : (Sg) => FA_ s0 q) = Q
  have hQ : ∀ (_ : Unit) {x : Sg}, FA_ s0 x → Q x := fun _ x h => by rw [← hQ0]; exact h
  clear hQ0
  unfold fX4_hang
  refine pf_bv (fun s_1 e_s_1 => ?_)
  have g_s_1 : FA_ s0 s_1 := by rw [e_s_1]; exact FA_.si FA_.rf rfl
  clear e_s_1
  refine pf_bv (fun s_2 e_s_2 => ?_)
  have g_s_2 : FA_ s0 s_2 := by rw [e_s_2]; exact FA_.si g_s_1 rfl
  clear e_s_2
  refine pf_bv (fun s_3 e_s_3 => ?_)
  have g_s_3 : FA_ s0 s_3 := by rw [e_s_3]; exact FA_.si g_s_2 rfl
  clear e_s_3
  exact pf_some (hQ () g_s_3)
set_option maxRecDepth 20000 in
theorem ya_fX4_joined (a1 : Int32) (a2 : Int64) (a3 : Int64) (s0 : Sg)  : pf_ (fX4_joined a1 a2 a3 s0) (fun q => FA_ s0 q.2) := by
  generalize hQ0 : (fun q : (Int64 × Sg) => FA_ s0 q.2) = Q
  have hQ : ∀ r {x : Sg}, FA_ s0 x → Q (r, x) := fun r x h => by rw [← hQ0]; exact h
  clear hQ0
  unfold fX4_joined
  refine pf_if ?_ ?_
  · skip
    exact pf_some (hQ _ FA_.rf)
  · skip
    refine pf_if ?_ ?_
    · skip
      exact pf_some (hQ _ FA_.rf)
    · skip
      refine pf_if ?_ ?_
      · skip
        refine pf_if ?_ ?_
        · skip
          exact pf_some (hQ _ FA_.rf)
        · skip
          exact pf_some (hQ _ FA_.rf)
      · skip
        refine pf_if ?_ ?_
        · skip
          refine pf_if ?_ ?_
          · skip
            exact pf_some (hQ _ FA_.rf)
          · skip
            exact pf_some (hQ _ FA_.rf)
        · skip
          refine pf_if ?_ ?_
          · skip
            refine pf_if ?_ ?_
            · skip
              exact pf_some (hQ _ FA_.rf)
            · skip
              exact pf_some (hQ _ FA_.rf)
          · skip
            refine pf_if ?_ ?_
            · skip
              refine pf_if ?_ ?_
              · skip
                exact pf_some (hQ _ FA_.rf)
              · skip
                exact pf_some (hQ _ FA_.rf)
            · skip
              refine pf_if ?_ ?_
              · skip
                refine pf_if ?_ ?_
                · skip
                  exact pf_some (hQ _ FA_.rf)
                · skip
                  exact pf_some (hQ _ FA_.rf)
              · skip
                refine pf_if ?_ ?_
                · skip
                  refine pf_if ?_ ?_
                  · skip
                    exact pf_some (hQ _ FA_.rf)
                  · skip
                    exact pf_some (hQ _ FA_.rf)
                · skip
                  refine pf_if ?_ ?_
                  · skip
                    exact pf_some (hQ _ FA_.rf)
                  · skip
                    refine pf_if ?_ ?_
                    · skip
                      exact pf_some (hQ _ FA_.rf)
                    · skip
                      refine pf_if ?_ ?_
                      · skip
                        exact pf_some (hQ _ FA_.rf)
                      · skip
                        refine pf_if ?_ ?_
                        · skip
                          refine pf_if ?_ ?_
                          · skip
                            exact pf_some (hQ _ FA_.rf)
                          · skip
                            refine pf_chk (fun _ => ?_)
                            exact pf_some (hQ _ FA_.rf)
                        · skip
                          exact pf_some (hQ _ FA_.rf)
set_option maxRecDepth 20000 in
theorem ya_fX4_held (a1 : Int64) (s0 : Sg)  : pf_ (fX4_held a1 s0) (fun q => FA_ s0 q.2) := by
  generalize hQ0 : (fun q : (Int32 × Sg) => FA_ s0 q.2) = Q
  have hQ : ∀ r {x : Sg}, FA_ s0 x → Q (r, x) := fun r x h => by rw [← hQ0]; exact h
  clear hQ0
  unfold fX4_held
  refine pf_if ?_ ?_
  · skip
    refine pf_if ?_ ?_
    · skip
      exact pf_some (hQ _ FA_.rf)
    · skip
      exact pf_some (hQ _ FA_.rf)
  · skip
    exact pf_some (hQ _ FA_.rf)
set_option maxRecDepth 20000 in
theorem ya_fX4_valueOf (a1 : Nat) (a2 : Int32) (a3 : Int32) (s0 : Sg)  : pf_ (fX4_valueOf a1 a2 a3 s0) (fun q => FA_ s0 q.2) := by
  generalize hQ0 : (fun q : (Int32 × Sg) => FA_ s0 q.2) = Q
  have hQ : ∀ r {x : Sg}, FA_ s0 x → Q (r, x) := fun r x h => by rw [← hQ0]; exact h
  clear hQ0
  unfold fX4_valueOf
  refine pf_jn (fun k_3 => ∀ (x4_1 : Int32) (s_2 : Sg), FA_ s0 s_2 → pf_ (k_3 x4_1 s_2) Q) ?_ (fun k_3 hk_3 => ?_)
  · intro x4_1 s_2 g_s_2
    try dsimp only
    refine pf_if ?_ ?_
    · skip
      exact pf_some (hQ _ g_s_2)
    · skip
      exact pf_some (hQ _ g_s_2)
  refine pf_lo3 (fun (_ : Int32) (_ : Int32) s_6 => FA_ s0 s_6) ?_ FU (-1) a2 s0 FA_.rf
  intro rec6 x4_4 x5_5 s_6 g_s_6 hr0_
  have hrec6 : ∀ (x4_4 : Int32) (x5_5 : Int32) (s_6 : Sg), FA_ s0 s_6 → pf_ (rec6 x4_4 x5_5 s_6) Q := fun x4_4 x5_5 s_6 z_s_6 => hr0_ x4_4 x5_5 s_6 z_s_6
  clear hr0_
  unfold fX4_valueOf_6_b
  refine pf_if ?_ ?_
  · skip
    exact hk_3 x4_4 s_6 g_s_6
  · skip
    refine pf_chk (fun _ => ?_)
    refine pf_bv (fun v_8 e_v_8 => ?_)
    clear e_v_8
    refine pf_bv (fun v_9 e_v_9 => ?_)
    clear e_v_9
    refine pf_jn (fun k_12 => ∀ (x4_10 : Int32) (s_11 : Sg), FA_ s0 s_11 → pf_ (k_12 x4_10 s_11) Q) ?_ (fun k_12 hk_12 => ?_)
    · intro x4_10 s_11 g_s_11
      try dsimp only
      refine pf_bv (fun v_13 e_v_13 => ?_)
      clear e_v_13
      exact hrec6 x4_10 v_13 s_11 g_s_11
    refine pf_jn (fun k_14 => pf_ k_14 Q) ?_ (fun k_14 hk_14 => ?_)
    · skip
      refine pf_jn (fun k_15 => pf_ k_15 Q) ?_ (fun k_15 hk_15 => ?_)
      · skip
        refine pf_jn (fun k_16 => pf_ k_16 Q) ?_ (fun k_16 hk_16 => ?_)
        · skip
          refine pf_if ?_ ?_
          · skip
            exact hk_12 x4_4 s_6 g_s_6
          · skip
            refine pf_bv (fun v_17 e_v_17 => ?_)
            clear e_v_17
            refine pf_chk (fun _ => ?_)
            refine pf_chk (fun _ => ?_)
            refine pf_bnd (ya_fX4_joined v_9 (Int32.toInt64 (gi s_6 20 (ix v_17))) (Int32.toInt64 (gi s_6 20 (ix (v_17 + 1)))) s_6 ) (fun r_20 s_21 p_s_21 => ?_)
            have g_s_21 : FA_ s0 s_21 := (g_s_6).tr p_s_21
            refine pf_bnd (ya_fX4_held r_20 s_21 ) (fun r_22 s_23 p_s_23 => ?_)
            have g_s_23 : FA_ s0 s_23 := (g_s_21).tr p_s_23
            refine pf_bv (fun s_24 e_s_24 => ?_)
            have g_s_24 : FA_ s0 s_24 := by rw [e_s_24]; exact FA_.si g_s_23 rfl
            clear e_s_24
            exact hk_12 v_17 s_24 g_s_24
        refine pf_if ?_ ?_
        · skip
          refine pf_if ?_ ?_
          · skip
            exact hk_16  
          · skip
            refine pf_chk (fun _ => ?_)
            refine pf_bv (fun s_26 e_s_26 => ?_)
            have g_s_26 : FA_ s0 s_26 := by rw [e_s_26]; exact FA_.si g_s_6 rfl
            clear e_s_26
            exact hk_12 x4_4 s_26 g_s_26
        · skip
          exact hk_16  
      refine pf_if ?_ ?_
      · skip
        refine pf_if ?_ ?_
        · skip
          exact hk_15  
        · skip
          refine pf_chk (fun _ => ?_)
          refine pf_bv (fun s_28 e_s_28 => ?_)
          have g_s_28 : FA_ s0 s_28 := by rw [e_s_28]; exact FA_.si g_s_6 rfl
          clear e_s_28
          exact hk_12 x4_4 s_28 g_s_28
      · skip
        exact hk_15  
    refine pf_if ?_ ?_
    · skip
      exact hk_14  
    · skip
      refine pf_if ?_ ?_
      · skip
        exact hk_14  
      · skip
        refine pf_bv (fun v_29 e_v_29 => ?_)
        clear e_v_29
        refine pf_jn (fun k_32 => ∀ (y_30 : Int32) (y_31 : Int32), pf_ (k_32 y_30 y_31) Q) ?_ (fun k_32 hk_32 => ?_)
        · intro y_30 y_31
          try dsimp only
          refine pf_chk (fun _ => ?_)
          refine pf_bv (fun s_34 e_s_34 => ?_)
          have g_s_34 : FA_ s0 s_34 := by rw [e_s_34]; exact FA_.si g_s_6 rfl
          clear e_s_34
          exact hk_12 v_29 s_34 g_s_34
        refine pf_if ?_ ?_
        · skip
          refine pf_chk (fun _ => ?_)
          exact hk_32 v_29 (gi s_6 19 (ix (v_8 - 10000))) 
        · skip
          exact hk_32 v_29 v_8 
set_option maxRecDepth 20000 in
theorem ya_fX4_borne (a1 : Nat) (a2 : Int32) (a3 : Int32) (a4 : Int32) (a5 : Int32) (s0 : Sg)  : pf_ (fX4_borne a1 a2 a3 a4 a5 s0) (fun q => FA_ s0 q.2) := by
  generalize hQ0 : (fun q : (Int32 × Sg) => FA_ s0 q.2) = Q
  have hQ : ∀ r {x : Sg}, FA_ s0 x → Q (r, x) := fun r x h => by rw [← hQ0]; exact h
  clear hQ0
  unfold fX4_borne
  refine pf_if ?_ ?_
  · skip
    exact pf_some (hQ _ FA_.rf)
  · skip
    refine pf_chk (fun h_ => ?_)
    have c_10_ := scr_cases h_
    refine pf_if ?_ ?_
    · skip
      exact pf_some (hQ _ FA_.rf)
    · skip
      refine pf_bv (fun s_2 e_s_2 => ?_)
      have g_s_2 : FA_ s0 s_2 := by rw [e_s_2]; exact FA_.si FA_.rf rfl
      clear e_s_2
      refine pf_bv (fun s_3 e_s_3 => ?_)
      have g_s_3 : FA_ s0 s_3 := by rw [e_s_3]; exact FA_.si g_s_2 rfl
      clear e_s_3
      refine pf_bv (fun s_4 e_s_4 => ?_)
      have g_s_4 : FA_ s0 s_4 := by rw [e_s_4]; exact FA_.si g_s_3 rfl
      clear e_s_4
      refine pf_bv (fun s_5 e_s_5 => ?_)
      have g_s_5 : FA_ s0 s_5 := by rw [e_s_5]; exact FA_.si g_s_4 rfl
      clear e_s_5
      refine pf_bnd (ya_fX4_valueOf (a1 + 1) (gi s_5 a1 2) (gi s_5 a1 3) s_5 ) (fun r_6 s_7 p_s_7 => ?_)
      have g_s_7 : FA_ s0 s_7 := (g_s_5).tr p_s_7
      refine pf_if ?_ ?_
      · skip
        refine pf_if ?_ ?_
        · skip
          exact pf_some (hQ _ g_s_7)
        · skip
          exact pf_some (hQ _ g_s_7)
      · skip
        exact pf_some (hQ _ g_s_7)
set_option maxRecDepth 20000 in
theorem ya_fX4_weigh (a2 : Int32) (a3 : Int32) (s0 : Sg)  : pf_ (fX4_weigh a2 a3 s0) (fun q => FA_ s0 q) := by
  generalize hQ0 : (fun q : (Sg) => FA_ s0 q) = Q
  have hQ : ∀ (_ : Unit) {x : Sg}, FA_ s0 x → Q x := fun _ x h => by rw [← hQ0]; exact h
  clear hQ0
  unfold fX4_weigh
  refine pf_jn (fun k_4 => ∀ (x4_1 : Int32) (x5_2 : Int32) (s_3 : Sg), FA_ s0 s_3 → pf_ (k_4 x4_1 x5_2 s_3) Q) ?_ (fun k_4 hk_4 => ?_)
  · intro x4_1 x5_2 s_3 g_s_3
    try dsimp only
    refine pf_bnv (ya_fX4_hang x4_1 x5_2 s_3 ) (fun s_5 p_s_5 => ?_)
    have g_s_5 : FA_ s0 s_5 := (g_s_3).tr p_s_5
    exact pf_some (hQ () g_s_5)
  refine pf_lo4 (fun (_ : Int32) (_ : Int32) (_ : Int32) s_9 => FA_ s0 s_9) ?_ FU 0 0 0 s0 FA_.rf
  intro rec9 x4_6 x5_7 x6_8 s_9 g_s_9 hr0_
  have hrec9 : ∀ (x4_6 : Int32) (x5_7 : Int32) (x6_8 : Int32) (s_9 : Sg), FA_ s0 s_9 → pf_ (rec9 x4_6 x5_7 x6_8 s_9) Q := fun x4_6 x5_7 x6_8 s_9 z_s_9 => hr0_ x4_6 x5_7 x6_8 s_9 z_s_9
  clear hr0_
  unfold fX4_weigh_9_b
  refine pf_if ?_ ?_
  · skip
    exact hk_4 x4_6 x5_7 s_9 g_s_9
  · skip
    refine pf_jn (fun k_13 => ∀ (x4_10 : Int32) (x5_11 : Int32) (s_12 : Sg), FA_ s0 s_12 → pf_ (k_13 x4_10 x5_11 s_12) Q) ?_ (fun k_13 hk_13 => ?_)
    · intro x4_10 x5_11 s_12 g_s_12
      try dsimp only
      refine pf_bv (fun v_14 e_v_14 => ?_)
      clear e_v_14
      exact hrec9 x4_10 x5_11 v_14 s_12 g_s_12
    refine pf_if ?_ ?_
    · skip
      refine pf_chk (fun _ => ?_)
      refine pf_bnd (ya_fX4_borne (gr s_9 1 13) x6_8 (gi s_9 9 (ix x6_8)) (gi s_9 10 (ix x6_8)) 0 s_9 ) (fun r_20 s_21 p_s_21 => ?_)
      have g_s_21 : FA_ s0 s_21 := (g_s_9).tr p_s_21
      refine pf_bv (fun v_22 e_v_22 => ?_)
      clear e_v_22
      exact hk_13 v_22 x5_7 s_21 g_s_21
    · skip
      refine pf_if ?_ ?_
      · skip
        refine pf_chk (fun _ => ?_)
        refine pf_bnd (ya_fX4_borne (gr s_9 1 13) x6_8 (gi s_9 9 (ix x6_8)) (gi s_9 10 (ix x6_8)) 1 s_9 ) (fun r_16 s_17 p_s_17 => ?_)
        have g_s_17 : FA_ s0 s_17 := (g_s_9).tr p_s_17
        refine pf_bv (fun v_18 e_v_18 => ?_)
        clear e_v_18
        exact hk_13 x4_6 v_18 s_17 g_s_17
      · skip
        exact hk_13 x4_6 x5_7 s_9 g_s_9
set_option maxRecDepth 20000 in
theorem ya_fX4_isSafe (a1 : Nat) (s0 : Sg)  : pf_ (fX4_isSafe a1 s0) (fun q => FA_ s0 q.2) := by
  generalize hQ0 : (fun q : (Bool × Sg) => FA_ s0 q.2) = Q
  have hQ : ∀ r {x : Sg}, FA_ s0 x → Q (r, x) := fun r x h => by rw [← hQ0]; exact h
  clear hQ0
  unfold fX4_isSafe
  refine pf_if ?_ ?_
  · skip
    exact pf_some (hQ _ FA_.rf)
  · skip
    refine pf_chk (fun h_ => ?_)
    have c_10_ := scr_cases h_
    refine pf_if ?_ ?_
    · skip
      exact pf_some (hQ _ FA_.rf)
    · skip
      refine pf_bv (fun s_2 e_s_2 => ?_)
      have g_s_2 : FA_ s0 s_2 := by rw [e_s_2]; exact FA_.si FA_.rf rfl
      clear e_s_2
      refine pf_bv (fun s_3 e_s_3 => ?_)
      have g_s_3 : FA_ s0 s_3 := by rw [e_s_3]; exact FA_.si g_s_2 rfl
      clear e_s_3
      refine pf_bnd (ya_fX4_held (Int32.toInt64 (gi s_3 6 4)) s_3 ) (fun r_4 s_5 p_s_5 => ?_)
      have g_s_5 : FA_ s0 s_5 := (g_s_3).tr p_s_5
      refine pf_bv (fun s_6 e_s_6 => ?_)
      have g_s_6 : FA_ s0 s_6 := by rw [e_s_6]; exact FA_.si g_s_5 rfl
      clear e_s_6
      refine pf_bnd (ya_fX4_held (Int32.toInt64 (iabs (gi s_6 6 4))) s_6 ) (fun r_7 s_8 p_s_8 => ?_)
      have g_s_8 : FA_ s0 s_8 := (g_s_6).tr p_s_8
      refine pf_bv (fun s_9 e_s_9 => ?_)
      have g_s_9 : FA_ s0 s_9 := by rw [e_s_9]; exact FA_.si g_s_8 rfl
      clear e_s_9
      refine pf_bnd (ya_fX4_valueOf (a1 + 1) (gi s_9 a1 4) (gi s_9 a1 5) s_9 ) (fun r_10 s_11 p_s_11 => ?_)
      have g_s_11 : FA_ s0 s_11 := (g_s_9).tr p_s_11
      refine pf_if ?_ ?_
      · skip
        exact pf_some (hQ _ g_s_11)
      · skip
        exact pf_some (hQ _ g_s_11)
set_option maxRecDepth 20000 in
theorem ya_fX6_keepStep (s0 : Sg)  : pf_ (fX6_keepStep s0) (fun q => FA_ s0 q) := by
  generalize hQ0 : (fun q : (Sg) => FA_ s0 q) = Q
  have hQ : ∀ (_ : Unit) {x : Sg}, FA_ s0 x → Q x := fun _ x h => by rw [← hQ0]; exact h
  clear hQ0
  unfold fX6_keepStep
  refine pf_jn (fun k_2 => ∀ (s_1 : Sg), FA_ s0 s_1 → pf_ (k_2 s_1) Q) ?_ (fun k_2 hk_2 => ?_)
  · intro s_1 g_s_1
    try dsimp only
    refine pf_chk (fun _ => ?_)
    refine pf_bv (fun s_4 e_s_4 => ?_)
    have g_s_4 : FA_ s0 s_4 := by rw [e_s_4]; exact FA_.si g_s_1 rfl
    clear e_s_4
    refine pf_bv (fun s_5 e_s_5 => ?_)
    have g_s_5 : FA_ s0 s_5 := by rw [e_s_5]; exact FA_.si g_s_4 rfl
    clear e_s_5
    exact pf_some (hQ () g_s_5)
  refine pf_if ?_ ?_
  · skip
    refine pf_bv (fun s_6 e_s_6 => ?_)
    have g_s_6 : FA_ s0 s_6 := by rw [e_s_6]; exact FA_.sa FA_.rf (fun _ => rfl)
    clear e_s_6
    refine pf_bv (fun s_7 e_s_7 => ?_)
    have g_s_7 : FA_ s0 s_7 := by rw [e_s_7]; exact FA_.si g_s_6 rfl
    clear e_s_7
    exact hk_2 s_7 g_s_7
  · skip
    exact hk_2 s0 FA_.rf
set_option maxRecDepth 20000 in
theorem ya_fX9_rearrange (a1 : Int32) (a2 : Int32) (s0 : Sg)  : pf_ (fX9_rearrange a1 a2 s0) (fun q => FA_ s0 q.2) := by
  generalize hQ0 : (fun q : (Bool × Sg) => FA_ s0 q.2) = Q
  have hQ : ∀ r {x : Sg}, FA_ s0 x → Q (r, x) := fun r x h => by rw [← hQ0]; exact h
  clear hQ0
  unfold fX9_rearrange
  refine pf_bnv (ya_fX4_setAir (gi s0 1 3) (gi s0 1 4) (gi s0 1 5) s0 ) (fun s_1 p_s_1 => ?_)
  have g_s_1 : FA_ s0 s_1 := (FA_.rf).tr p_s_1
  refine pf_bnv (ya_fX4_weigh a1 a2 s_1 ) (fun s_2 p_s_2 => ?_)
  have g_s_2 : FA_ s0 s_2 := (g_s_1).tr p_s_2
  refine pf_bnd (ya_fX4_isSafe (gr s_2 1 13) s_2 ) (fun r_3 s_4 p_s_4 => ?_)
  have g_s_4 : FA_ s0 s_4 := (g_s_2).tr p_s_4
  refine pf_if ?_ ?_
  · skip
    exact pf_some (hQ _ g_s_4)
  · skip
    refine pf_bnv (ya_fX6_keepStep s_4 ) (fun s_5 p_s_5 => ?_)
    have g_s_5 : FA_ s0 s_5 := (g_s_4).tr p_s_5
    refine pf_bv (fun s_6 e_s_6 => ?_)
    have g_s_6 : FA_ s0 s_6 := by rw [e_s_6]; exact FA_.si g_s_5 rfl
    clear e_s_6
    refine pf_bv (fun s_7 e_s_7 => ?_)
    have g_s_7 : FA_ s0 s_7 := by rw [e_s_7]; exact FA_.si g_s_6 rfl
    clear e_s_7
    exact pf_some (hQ _ g_s_7)
set_option maxRecDepth 20000 in
theorem ya_fX9_lay (a1 : Int32) (a2 : Int32) (s0 : Sg)  : pf_ (fX9_lay a1 a2 s0) (fun q => FA_ s0 q.2) := by
  generalize hQ0 : (fun q : (Bool × Sg) => FA_ s0 q.2) = Q
  have hQ : ∀ r {x : Sg}, FA_ s0 x → Q (r, x) := fun r x h => by rw [← hQ0]; exact h
  clear hQ0
  unfold fX9_lay
  refine pf_bnd (ya_fX9_within a1 0 ((gi s0 1 6) - 1) s0 ) (fun r_1 s_2 p_s_2 => ?_)
  have g_s_2 : FA_ s0 s_2 := (FA_.rf).tr p_s_2
  refine pf_if ?_ ?_
  · skip
    exact pf_some (hQ _ g_s_2)
  · skip
    refine pf_bnd (ya_fX9_isPan a2 s_2 ) (fun r_3 s_4 p_s_4 => ?_)
    have g_s_4 : FA_ s0 s_4 := (g_s_2).tr p_s_4
    refine pf_if ?_ ?_
    · skip
      exact pf_some (hQ _ g_s_4)
    · skip
      refine pf_bnd (ya_fX6_panOf a1 s_4 ) (fun r_5 s_6 p_s_6 => ?_)
      have g_s_6 : FA_ s0 s_6 := (g_s_4).tr p_s_6
      refine pf_if ?_ ?_
      · skip
        refine pf_bv (fun v_7 e_v_7 => ?_)
        clear e_v_7
        refine pf_if ?_ ?_
        · skip
          refine pf_bnd (ya_fX9_rearrange ((gi s_6 1 9) ||| v_7) (gi s_6 1 10) s_6 ) (fun r_12 s_13 p_s_13 => ?_)
          have g_s_13 : FA_ s0 s_13 := (g_s_6).tr p_s_13
          exact pf_some (hQ _ g_s_13)
        · skip
          refine pf_bnd (ya_fX9_rearrange (gi s_6 1 9) ((gi s_6 1 10) ||| v_7) s_6 ) (fun r_10 s_11 p_s_11 => ?_)
          have g_s_11 : FA_ s0 s_11 := (g_s_6).tr p_s_11
          exact pf_some (hQ _ g_s_11)
      · skip
        exact pf_some (hQ _ g_s_6)
set_option maxRecDepth 20000 in
theorem ya_fX9_put (a1 : Int32) (a2 : Int32) (s0 : Sg)  : pf_ (fX9_put a1 a2 s0) (fun q => FA_ s0 q.2) := by
  generalize hQ0 : (fun q : (Int32 × Sg) => FA_ s0 q.2) = Q
  have hQ : ∀ r {x : Sg}, FA_ s0 x → Q (r, x) := fun r x h => by rw [← hQ0]; exact h
  clear hQ0
  unfold fX9_put
  refine pf_bnd (ya_fX9_lay a1 a2 s0 ) (fun r_1 s_2 p_s_2 => ?_)
  have g_s_2 : FA_ s0 s_2 := (FA_.rf).tr p_s_2
  refine pf_if ?_ ?_
  · skip
    exact pf_some (hQ _ g_s_2)
  · skip
    refine pf_if ?_ ?_
    · skip
      exact pf_some (hQ _ g_s_2)
    · skip
      exact pf_some (hQ _ g_s_2)
set_option maxRecDepth 20000 in
theorem ya_fX9_lift (a1 : Int32) (s0 : Sg)  : pf_ (fX9_lift a1 s0) (fun q => FA_ s0 q.2) := by
  generalize hQ0 : (fun q : (Bool × Sg) => FA_ s0 q.2) = Q
  have hQ : ∀ r {x : Sg}, FA_ s0 x → Q (r, x) := fun r x h => by rw [← hQ0]; exact h
  clear hQ0
  unfold fX9_lift
  refine pf_bnd (ya_fX6_panOf a1 s0 ) (fun r_1 s_2 p_s_2 => ?_)
  have g_s_2 : FA_ s0 s_2 := (FA_.rf).tr p_s_2
  refine pf_if ?_ ?_
  · skip
    exact pf_some (hQ _ g_s_2)
  · skip
    refine pf_bv (fun v_3 e_v_3 => ?_)
    clear e_v_3
    refine pf_bnd (ya_fX9_rearrange ((gi s_2 1 9) &&& v_3) ((gi s_2 1 10) &&& v_3) s_2 ) (fun r_4 s_5 p_s_5 => ?_)
    have g_s_5 : FA_ s0 s_5 := (g_s_2).tr p_s_5
    exact pf_some (hQ _ g_s_5)
set_option maxRecDepth 20000 in
theorem ya_fX9_take (a1 : Int32) (s0 : Sg)  : pf_ (fX9_take a1 s0) (fun q => FA_ s0 q.2) := by
  generalize hQ0 : (fun q : (Int32 × Sg) => FA_ s0 q.2) = Q
  have hQ : ∀ r {x : Sg}, FA_ s0 x → Q (r, x) := fun r x h => by rw [← hQ0]; exact h
  clear hQ0
  unfold fX9_take
  refine pf_bnd (ya_fX6_panOf a1 s0 ) (fun r_1 s_2 p_s_2 => ?_)
  have g_s_2 : FA_ s0 s_2 := (FA_.rf).tr p_s_2
  refine pf_bnd (ya_fX9_lift a1 s_2 ) (fun r_3 s_4 p_s_4 => ?_)
  have g_s_4 : FA_ s0 s_4 := (g_s_2).tr p_s_4
  refine pf_if ?_ ?_
  · skip
    exact pf_some (hQ _ g_s_4)
  · skip
    exact pf_some (hQ _ g_s_4)
