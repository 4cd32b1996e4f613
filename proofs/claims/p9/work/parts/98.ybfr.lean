/-! where no fault is told, the place is as it was; a fault stays -/
def pq_ (k j : Nat) : Bool := k == 4 && (j == 4 || j == 5)
theorem pq_big {k j : Nat} (h : 48 ≤ k) : pq_ k j = false := by
  have : (k == 4) = false := by simp; omega
  unfold pq_
  rw [this]; rfl
def FQ_ (s t : Sg) : Prop := (gi s 4 4 ≠ 0 → gi t 4 4 ≠ 0) ∧ (gi t 4 5 = gi s 4 5 ∨ gi t 4 4 ≠ 0)
theorem FQ_.rf {s : Sg} : FQ_ s s := ⟨fun h => h, Or.inl rfl⟩
theorem FQ_.tr {s t u : Sg} (h1 : FQ_ s t) (h2 : FQ_ t u) : FQ_ s u := by
  refine ⟨fun h => h2.1 (h1.1 h), ?_⟩
  rcases h2.2 with e | e
  · rcases h1.2 with e1 | e1
    · exact Or.inl (by rw [e, e1])
    · exact Or.inr (h2.1 e1)
  · exact Or.inr e
theorem FQsi_ {t : Sg} {k j i : Nat} {v : Int32} (hp : pq_ k j = false) (hi : pq_ 4 i = true) : gi (si t k j v) 4 i = gi t 4 i := by
  by_cases hk : 4 = k
  · subst hk
    by_cases hj : i = j
    · subst hj; rw [hp] at hi; exact nomatch hi
    · rw [gsi_ne hj]
  · rw [gsi_k hk]
theorem FQ_.si {s t : Sg} {k j : Nat} {v : Int32} (h : FQ_ s t) (hp : pq_ k j = false) : FQ_ s (si t k j v) := by
  unfold FQ_
  rw [FQsi_ hp rfl, FQsi_ hp rfl]
  exact h
theorem FQ_.sr {s t : Sg} {k j v : Nat} (h : FQ_ s t) : FQ_ s (sr t k j v) := h
theorem FQ_.sl {s t : Sg} {k j : Nat} {v : Int64} (h : FQ_ s t) : FQ_ s (sl t k j v) := h
theorem yq_fX2_fail (a1 : Int32) (s0 : Sg) (ha : a1 ≠ 0) : pf_ (fX2_fail a1 s0) (fun q => FQ_ s0 q) := by
  unfold fX2_fail
  refine pf_ifc (fun h => pf_bv (fun s1 e1 => pf_bv (fun s2 e2 => pf_some ⟨fun h' => absurd h h', Or.inr ?_⟩))) (fun h => pf_some FQ_.rf)
  rw [e2, gsi_ne (by decide), e1, gsi_eq]
  exact ha
set_option maxRecDepth 20000 in
theorem yq_fX7_isLetter (a1 : Int32) (s0 : Sg)  : pf_ (fX7_isLetter a1 s0) (fun q => FQ_ s0 q.2) := by
  generalize hQ0 : (fun q : (Bool × Sg) => FQ_ s0 q.2) = Q
  have hQ : ∀ r {x : Sg}, FQ_ s0 x → Q (r, x) := fun r x h => by rw [← hQ0]; exact h
  clear hQ0
  unfold fX7_isLetter
  refine pf_jn (fun k_1 => pf_ k_1 Q) ?_ (fun k_1 hk_1 => ?_)
  · skip
    refine pf_ifc (fun hc7_ => ?_) (fun hc7_ => ?_)
    · skip
      exact pf_some (hQ _ FQ_.rf)
    · skip
      refine pf_ifc (fun hc11_ => ?_) (fun hc11_ => ?_)
      · skip
        exact pf_some (hQ _ FQ_.rf)
      · skip
        exact pf_some (hQ _ FQ_.rf)
  refine pf_ifc (fun hc16_ => ?_) (fun hc16_ => ?_)
  · skip
    exact hk_1  
  · skip
    refine pf_ifc (fun hc20_ => ?_) (fun hc20_ => ?_)
    · skip
      exact pf_some (hQ _ FQ_.rf)
    · skip
      exact hk_1  
set_option maxRecDepth 20000 in
theorem yq_fJ0_coder_7d493 (q0 : Nat) (s0 : Sg)  : pf_ (fJ0_coder_7d493 q0 s0) (fun q => FQ_ s0 q.2) := by
  generalize hQ0 : (fun q : (Int32 × Sg) => FQ_ s0 q.2) = Q
  have hQ : ∀ r {x : Sg}, FQ_ s0 x → Q (r, x) := fun r x h => by rw [← hQ0]; exact h
  clear hQ0
  unfold fJ0_coder_7d493
  refine pf_ifc (fun hc5_ => ?_) (fun hc5_ => ?_)
  · skip
    exact pf_some (hQ _ FQ_.rf)
  · skip
    exact pf_some (hQ _ FQ_.rf)
set_option maxRecDepth 20000 in
theorem yq_fJ0_length_8abf5 (q0 : Nat) (s0 : Sg)  : pf_ (fJ0_length_8abf5 q0 s0) (fun q => FQ_ s0 q.2) := by
  generalize hQ0 : (fun q : (Int32 × Sg) => FQ_ s0 q.2) = Q
  have hQ : ∀ r {x : Sg}, FQ_ s0 x → Q (r, x) := fun r x h => by rw [← hQ0]; exact h
  clear hQ0
  unfold fJ0_length_8abf5
  refine pf_bnd (yq_fJ0_coder_7d493 q0 s0 ) (fun r_1 s_2 p_s_2 => ?_)
  have g_s_2 : FQ_ s0 s_2 := (FQ_.rf).tr p_s_2
  exact pf_some (hQ _ g_s_2)
set_option maxRecDepth 20000 in
theorem yq_fJ0_isLatin1_aae02 (q0 : Nat) (s0 : Sg)  : pf_ (fJ0_isLatin1_aae02 q0 s0) (fun q => FQ_ s0 q.2) := by
  generalize hQ0 : (fun q : (Bool × Sg) => FQ_ s0 q.2) = Q
  have hQ : ∀ r {x : Sg}, FQ_ s0 x → Q (r, x) := fun r x h => by rw [← hQ0]; exact h
  clear hQ0
  unfold fJ0_isLatin1_aae02
  refine pf_ifc (fun hc5_ => ?_) (fun hc5_ => ?_)
  · skip
    exact pf_some (hQ _ FQ_.rf)
  · skip
    refine pf_ifc (fun hc9_ => ?_) (fun hc9_ => ?_)
    · skip
      exact pf_some (hQ _ FQ_.rf)
    · skip
      exact pf_some (hQ _ FQ_.rf)
set_option maxRecDepth 20000 in
theorem yq_fJ3_checkIndex_8e157 (a1 : Int32) (a2 : Int32) (s0 : Sg)  : pf_ (fJ3_checkIndex_8e157 a1 a2 s0) (fun q => FQ_ s0 q.2) := by
  generalize hQ0 : (fun q : (Int32 × Sg) => FQ_ s0 q.2) = Q
  have hQ : ∀ r {x : Sg}, FQ_ s0 x → Q (r, x) := fun r x h => by rw [← hQ0]; exact h
  clear hQ0
  unfold fJ3_checkIndex_8e157
  refine pf_jn (fun k_1 => pf_ k_1 Q) ?_ (fun k_1 hk_1 => ?_)
  · skip
    exact pf_none
  refine pf_ifc (fun hc8_ => ?_) (fun hc8_ => ?_)
  · skip
    exact hk_1  
  · skip
    refine pf_ifc (fun hc12_ => ?_) (fun hc12_ => ?_)
    · skip
      exact pf_some (hQ _ FQ_.rf)
    · skip
      exact hk_1  
set_option maxRecDepth 20000 in
theorem yq_fJ0_checkIndex_df160 (a1 : Int32) (a2 : Int32) (s0 : Sg)  : pf_ (fJ0_checkIndex_df160 a1 a2 s0) (fun q => FQ_ s0 q) := by
  generalize hQ0 : (fun q : (Sg) => FQ_ s0 q) = Q
  have hQ : ∀ (_ : Unit) {x : Sg}, FQ_ s0 x → Q x := fun _ x h => by rw [← hQ0]; exact h
  clear hQ0
  unfold fJ0_checkIndex_df160
  refine pf_bnd (yq_fJ3_checkIndex_8e157 a1 a2 s0 ) (fun r1 s1 p_s1 => ?_)
  have g_s1 : FQ_ s0 s1 := (FQ_.rf).tr p_s1
  exact pf_some (hQ () g_s1)
set_option maxRecDepth 20000 in
theorem yq_fJ1_charAt_3b067 (a1 : Nat) (a2 : Int32) (s0 : Sg)  : pf_ (fJ1_charAt_3b067 a1 a2 s0) (fun q => FQ_ s0 q.2) := by
  generalize hQ0 : (fun q : (Int32 × Sg) => FQ_ s0 q.2) = Q
  have hQ : ∀ r {x : Sg}, FQ_ s0 x → Q (r, x) := fun r x h => by rw [← hQ0]; exact h
  clear hQ0
  unfold fJ1_charAt_3b067
  refine pf_bnv (yq_fJ0_checkIndex_df160 a2 (Int32.ofNat (sLv a1)) s0 ) (fun s_1 p_s_1 => ?_)
  have g_s_1 : FQ_ s0 s_1 := (FQ_.rf).tr p_s_1
  refine pf_chk (fun _ => ?_)
  refine pf_chk (fun _ => ?_)
  exact pf_some (hQ _ g_s_1)
set_option maxRecDepth 20000 in
theorem yq_fJ0_charAt_5068e (q0 : Nat) (a1 : Int32) (s0 : Sg)  : pf_ (fJ0_charAt_5068e q0 a1 s0) (fun q => FQ_ s0 q.2) := by
  generalize hQ0 : (fun q : (Int32 × Sg) => FQ_ s0 q.2) = Q
  have hQ : ∀ r {x : Sg}, FQ_ s0 x → Q (r, x) := fun r x h => by rw [← hQ0]; exact h
  clear hQ0
  unfold fJ0_charAt_5068e
  refine pf_bnd (yq_fJ0_isLatin1_aae02 q0 s0 ) (fun r_1 s_2 p_s_2 => ?_)
  have g_s_2 : FQ_ s0 s_2 := (FQ_.rf).tr p_s_2
  refine pf_ifc (fun hc7_ => ?_) (fun hc7_ => ?_)
  · skip
    exact pf_none
  · skip
    refine pf_bnd (yq_fJ1_charAt_3b067 (q0 + 50) a1 s_2 ) (fun r_3 s_4 p_s_4 => ?_)
    have g_s_4 : FQ_ s0 s_4 := (g_s_2).tr p_s_4
    refine pf_chk (fun _ => ?_)
    exact pf_some (hQ _ g_s_4)
set_option maxRecDepth 20000 in
theorem yq_fX7_reads (a1 : Nat) (s0 : Sg)  : pf_ (fX7_reads a1 s0) (fun q => FQ_ s0 q.2) := by
  generalize hQ0 : (fun q : (Bool × Sg) => FQ_ s0 q.2) = Q
  have hQ : ∀ r {x : Sg}, FQ_ s0 x → Q (r, x) := fun r x h => by rw [← hQ0]; exact h
  clear hQ0
  unfold fX7_reads
  refine pf_bnd (yq_fJ0_length_8abf5 a1 s0 ) (fun r_1 s_2 p_s_2 => ?_)
  have g_s_2 : FQ_ s0 s_2 := (FQ_.rf).tr p_s_2
  refine pf_ifc (fun hc7_ => ?_) (fun hc7_ => ?_)
  · skip
    refine pf_lo2 (fun (_ : Int32) s_4 => FQ_ s0 s_4) ?_ FU 0 s_2 g_s_2
    intro rec20 x2_3 s_4 g_s_4 hr0_
    have hrec20 : ∀ (x2_3 : Int32) (s_4 : Sg), FQ_ s0 s_4 → pf_ (rec20 x2_3 s_4) Q := fun x2_3 s_4 z_s_4 => hr0_ x2_3 s_4 z_s_4
    clear hr0_
    unfold fX7_reads_20_b
    refine pf_bnd (yq_fJ0_length_8abf5 a1 s_4 ) (fun r_5 s_6 p_s_6 => ?_)
    have g_s_6 : FQ_ s0 s_6 := (g_s_4).tr p_s_6
    refine pf_ifc (fun hc16_ => ?_) (fun hc16_ => ?_)
    · skip
      exact pf_some (hQ _ g_s_6)
    · skip
      refine pf_chk (fun _ => ?_)
      refine pf_bnd (yq_fJ0_charAt_5068e a1 x2_3 s_6 ) (fun r_8 s_9 p_s_9 => ?_)
      have g_s_9 : FQ_ s0 s_9 := (g_s_6).tr p_s_9
      refine pf_ifc (fun hc23_ => ?_) (fun hc23_ => ?_)
      · skip
        refine pf_bv (fun v_10 e_v_10 => ?_)
        clear e_v_10
        exact hrec20 v_10 s_9 g_s_9
      · skip
        exact pf_some (hQ _ g_s_9)
  · skip
    exact pf_some (hQ _ g_s_2)
set_option maxRecDepth 20000 in
theorem yq_fX7_wordToken (s0 : Sg)  : pf_ (fX7_wordToken s0) (fun q => FQ_ s0 q.2) := by
  generalize hQ0 : (fun q : (Int32 × Sg) => FQ_ s0 q.2) = Q
  have hQ : ∀ r {x : Sg}, FQ_ s0 x → Q (r, x) := fun r x h => by rw [← hQ0]; exact h
  clear hQ0
  unfold fX7_wordToken
  refine pf_bnd (yq_fX7_reads 100 s0 ) (fun r_1 s_2 p_s_2 => ?_)
  have g_s_2 : FQ_ s0 s_2 := (FQ_.rf).tr p_s_2
  refine pf_ifc (fun hc7_ => ?_) (fun hc7_ => ?_)
  · skip
    refine pf_bnd (yq_fX7_reads 101 s_2 ) (fun r_3 s_4 p_s_4 => ?_)
    have g_s_4 : FQ_ s0 s_4 := (g_s_2).tr p_s_4
    refine pf_ifc (fun hc11_ => ?_) (fun hc11_ => ?_)
    · skip
      refine pf_bnd (yq_fX7_reads 102 s_4 ) (fun r_5 s_6 p_s_6 => ?_)
      have g_s_6 : FQ_ s0 s_6 := (g_s_4).tr p_s_6
      refine pf_ifc (fun hc15_ => ?_) (fun hc15_ => ?_)
      · skip
        refine pf_bnd (yq_fX7_reads 103 s_6 ) (fun r_7 s_8 p_s_8 => ?_)
        have g_s_8 : FQ_ s0 s_8 := (g_s_6).tr p_s_8
        refine pf_ifc (fun hc19_ => ?_) (fun hc19_ => ?_)
        · skip
          refine pf_bnd (yq_fX7_reads 104 s_8 ) (fun r_9 s_10 p_s_10 => ?_)
          have g_s_10 : FQ_ s0 s_10 := (g_s_8).tr p_s_10
          refine pf_ifc (fun hc23_ => ?_) (fun hc23_ => ?_)
          · skip
            refine pf_bnd (yq_fX7_reads 105 s_10 ) (fun r_11 s_12 p_s_12 => ?_)
            have g_s_12 : FQ_ s0 s_12 := (g_s_10).tr p_s_12
            refine pf_ifc (fun hc27_ => ?_) (fun hc27_ => ?_)
            · skip
              refine pf_bnd (yq_fX7_reads 106 s_12 ) (fun r_13 s_14 p_s_14 => ?_)
              have g_s_14 : FQ_ s0 s_14 := (g_s_12).tr p_s_14
              refine pf_ifc (fun hc31_ => ?_) (fun hc31_ => ?_)
              · skip
                refine pf_bnd (yq_fX7_reads 107 s_14 ) (fun r_15 s_16 p_s_16 => ?_)
                have g_s_16 : FQ_ s0 s_16 := (g_s_14).tr p_s_16
                refine pf_ifc (fun hc35_ => ?_) (fun hc35_ => ?_)
                · skip
                  refine pf_bnd (yq_fX7_reads 108 s_16 ) (fun r_17 s_18 p_s_18 => ?_)
                  have g_s_18 : FQ_ s0 s_18 := (g_s_16).tr p_s_18
                  refine pf_ifc (fun hc39_ => ?_) (fun hc39_ => ?_)
                  · skip
                    refine pf_bnd (yq_fX7_reads 109 s_18 ) (fun r_19 s_20 p_s_20 => ?_)
                    have g_s_20 : FQ_ s0 s_20 := (g_s_18).tr p_s_20
                    refine pf_ifc (fun hc43_ => ?_) (fun hc43_ => ?_)
                    · skip
                      refine pf_bnd (yq_fX7_reads 110 s_20 ) (fun r_21 s_22 p_s_22 => ?_)
                      have g_s_22 : FQ_ s0 s_22 := (g_s_20).tr p_s_22
                      refine pf_ifc (fun hc47_ => ?_) (fun hc47_ => ?_)
                      · skip
                        refine pf_bnd (yq_fX7_reads 111 s_22 ) (fun r_23 s_24 p_s_24 => ?_)
                        have g_s_24 : FQ_ s0 s_24 := (g_s_22).tr p_s_24
                        refine pf_ifc (fun hc51_ => ?_) (fun hc51_ => ?_)
                        · skip
                          refine pf_bnd (yq_fX7_reads 112 s_24 ) (fun r_25 s_26 p_s_26 => ?_)
                          have g_s_26 : FQ_ s0 s_26 := (g_s_24).tr p_s_26
                          refine pf_ifc (fun hc55_ => ?_) (fun hc55_ => ?_)
                          · skip
                            refine pf_bnd (yq_fX7_reads 113 s_26 ) (fun r_27 s_28 p_s_28 => ?_)
                            have g_s_28 : FQ_ s0 s_28 := (g_s_26).tr p_s_28
                            refine pf_ifc (fun hc59_ => ?_) (fun hc59_ => ?_)
                            · skip
                              refine pf_bnd (yq_fX7_reads 114 s_28 ) (fun r_29 s_30 p_s_30 => ?_)
                              have g_s_30 : FQ_ s0 s_30 := (g_s_28).tr p_s_30
                              refine pf_ifc (fun hc63_ => ?_) (fun hc63_ => ?_)
                              · skip
                                refine pf_bnd (yq_fX7_reads 115 s_30 ) (fun r_31 s_32 p_s_32 => ?_)
                                have g_s_32 : FQ_ s0 s_32 := (g_s_30).tr p_s_32
                                refine pf_ifc (fun hc67_ => ?_) (fun hc67_ => ?_)
                                · skip
                                  refine pf_bnd (yq_fX7_reads 116 s_32 ) (fun r_33 s_34 p_s_34 => ?_)
                                  have g_s_34 : FQ_ s0 s_34 := (g_s_32).tr p_s_34
                                  refine pf_ifc (fun hc71_ => ?_) (fun hc71_ => ?_)
                                  · skip
                                    refine pf_bnd (yq_fX7_reads 117 s_34 ) (fun r_35 s_36 p_s_36 => ?_)
                                    have g_s_36 : FQ_ s0 s_36 := (g_s_34).tr p_s_36
                                    refine pf_ifc (fun hc75_ => ?_) (fun hc75_ => ?_)
                                    · skip
                                      refine pf_bnd (yq_fX7_reads 118 s_36 ) (fun r_37 s_38 p_s_38 => ?_)
                                      have g_s_38 : FQ_ s0 s_38 := (g_s_36).tr p_s_38
                                      refine pf_ifc (fun hc79_ => ?_) (fun hc79_ => ?_)
                                      · skip
                                        refine pf_bnd (yq_fX7_reads 119 s_38 ) (fun r_39 s_40 p_s_40 => ?_)
                                        have g_s_40 : FQ_ s0 s_40 := (g_s_38).tr p_s_40
                                        refine pf_ifc (fun hc83_ => ?_) (fun hc83_ => ?_)
                                        · skip
                                          exact pf_some (hQ _ g_s_40)
                                        · skip
                                          exact pf_some (hQ _ g_s_40)
                                      · skip
                                        exact pf_some (hQ _ g_s_38)
                                    · skip
                                      exact pf_some (hQ _ g_s_36)
                                  · skip
                                    exact pf_some (hQ _ g_s_34)
                                · skip
                                  exact pf_some (hQ _ g_s_32)
                              · skip
                                exact pf_some (hQ _ g_s_30)
                            · skip
                              exact pf_some (hQ _ g_s_28)
                          · skip
                            exact pf_some (hQ _ g_s_26)
                        · skip
                          exact pf_some (hQ _ g_s_24)
                      · skip
                        exact pf_some (hQ _ g_s_22)
                    · skip
                      exact pf_some (hQ _ g_s_20)
                  · skip
                    exact pf_some (hQ _ g_s_18)
                · skip
                  exact pf_some (hQ _ g_s_16)
              · skip
                exact pf_some (hQ _ g_s_14)
            · skip
              exact pf_some (hQ _ g_s_12)
          · skip
            exact pf_some (hQ _ g_s_10)
        · skip
          exact pf_some (hQ _ g_s_8)
      · skip
        exact pf_some (hQ _ g_s_6)
    · skip
      exact pf_some (hQ _ g_s_4)
  · skip
    exact pf_some (hQ _ g_s_2)
set_option maxRecDepth 20000 in
theorem yq_fX7_isDigit (a1 : Int32) (s0 : Sg)  : pf_ (fX7_isDigit a1 s0) (fun q => FQ_ s0 q.2) := by
  generalize hQ0 : (fun q : (Bool × Sg) => FQ_ s0 q.2) = Q
  have hQ : ∀ r {x : Sg}, FQ_ s0 x → Q (r, x) := fun r x h => by rw [← hQ0]; exact h
  clear hQ0
  unfold fX7_isDigit
  refine pf_ifc (fun hc5_ => ?_) (fun hc5_ => ?_)
  · skip
    exact pf_some (hQ _ FQ_.rf)
  · skip
    refine pf_ifc (fun hc9_ => ?_) (fun hc9_ => ?_)
    · skip
      exact pf_some (hQ _ FQ_.rf)
    · skip
      exact pf_some (hQ _ FQ_.rf)
set_option maxRecDepth 20000 in
theorem yq_fX7_signToken (a1 : Int32) (a2 : Int32) (s0 : Sg)  : pf_ (fX7_signToken a1 a2 s0) (fun q => FQ_ s0 q.2) := by
  generalize hQ0 : (fun q : (Int32 × Sg) => FQ_ s0 q.2) = Q
  have hQ : ∀ r {x : Sg}, FQ_ s0 x → Q (r, x) := fun r x h => by rw [← hQ0]; exact h
  clear hQ0
  unfold fX7_signToken
  refine pf_ifc (fun hc5_ => ?_) (fun hc5_ => ?_)
  · skip
    exact pf_some (hQ _ FQ_.rf)
  · skip
    refine pf_ifc (fun hc9_ => ?_) (fun hc9_ => ?_)
    · skip
      exact pf_some (hQ _ FQ_.rf)
    · skip
      refine pf_ifc (fun hc13_ => ?_) (fun hc13_ => ?_)
      · skip
        exact pf_some (hQ _ FQ_.rf)
      · skip
        refine pf_ifc (fun hc17_ => ?_) (fun hc17_ => ?_)
        · skip
          exact pf_some (hQ _ FQ_.rf)
        · skip
          refine pf_ifc (fun hc21_ => ?_) (fun hc21_ => ?_)
          · skip
            exact pf_some (hQ _ FQ_.rf)
          · skip
            refine pf_ifc (fun hc25_ => ?_) (fun hc25_ => ?_)
            · skip
              exact pf_some (hQ _ FQ_.rf)
            · skip
              refine pf_ifc (fun hc29_ => ?_) (fun hc29_ => ?_)
              · skip
                exact pf_some (hQ _ FQ_.rf)
              · skip
                refine pf_ifc (fun hc33_ => ?_) (fun hc33_ => ?_)
                · skip
                  exact pf_some (hQ _ FQ_.rf)
                · skip
                  refine pf_ifc (fun hc37_ => ?_) (fun hc37_ => ?_)
                  · skip
                    refine pf_ifc (fun hc39_ => ?_) (fun hc39_ => ?_)
                    · skip
                      exact pf_some (hQ _ FQ_.rf)
                    · skip
                      exact pf_some (hQ _ FQ_.rf)
                  · skip
                    refine pf_ifc (fun hc45_ => ?_) (fun hc45_ => ?_)
                    · skip
                      exact pf_some (hQ _ FQ_.rf)
                    · skip
                      refine pf_ifc (fun hc49_ => ?_) (fun hc49_ => ?_)
                      · skip
                        refine pf_ifc (fun hc51_ => ?_) (fun hc51_ => ?_)
                        · skip
                          exact pf_some (hQ _ FQ_.rf)
                        · skip
                          exact pf_some (hQ _ FQ_.rf)
                      · skip
                        exact pf_some (hQ _ FQ_.rf)
set_option maxRecDepth 20000 in
theorem yq_fX7_readNumber (s0 : Sg)  : pf_ (fX7_readNumber s0) (fun q => FQ_ s0 q) := by
  generalize hQ0 : (fun q : (Sg) => FQ_ s0 q) = Q
  have hQ : ∀ (_ : Unit) {x : Sg}, FQ_ s0 x → Q x := fun _ x h => by rw [← hQ0]; exact h
  clear hQ0
  unfold fX7_readNumber
  refine pf_bv (fun s_1 e_s_1 => ?_)
  have g_s_1 : FQ_ s0 s_1 := by rw [e_s_1]; exact FQ_.si FQ_.rf rfl
  clear e_s_1
  refine pf_bv (fun s_2 e_s_2 => ?_)
  have g_s_2 : FQ_ s0 s_2 := by rw [e_s_2]; exact FQ_.si g_s_1 rfl
  clear e_s_2
  refine pf_lo1 (fun s_3 => FQ_ s0 s_3) ?_ FU s_2 g_s_2
  intro rec11 s_3 g_s_3 hr0_
  have hrec11 : ∀ (s_3 : Sg), FQ_ s0 s_3 → pf_ (rec11 s_3) Q := fun s_3 z_s_3 => hr0_ s_3 z_s_3
  clear hr0_
  unfold fX7_readNumber_11_b
  refine pf_ifc (fun hc16_ => ?_) (fun hc16_ => ?_)
  · skip
    exact pf_some (hQ () g_s_3)
  · skip
    refine pf_chk (fun _ => ?_)
    refine pf_bnd (yq_fX7_isDigit (gi s_3 17 (ix (gi s_3 3 4))) s_3 ) (fun r_5 s_6 p_s_6 => ?_)
    have g_s_6 : FQ_ s0 s_6 := (g_s_3).tr p_s_6
    refine pf_ifc (fun hc23_ => ?_) (fun hc23_ => ?_)
    · skip
      exact pf_some (hQ () g_s_6)
    · skip
      refine pf_chk (fun _ => ?_)
      refine pf_bv (fun s_8 e_s_8 => ?_)
      have g_s_8 : FQ_ s0 s_8 := by rw [e_s_8]; exact FQ_.si g_s_6 rfl
      clear e_s_8
      refine pf_bv (fun s_9 e_s_9 => ?_)
      have g_s_9 : FQ_ s0 s_9 := by rw [e_s_9]; exact FQ_.si g_s_8 rfl
      clear e_s_9
      exact hrec11 s_9 g_s_9
set_option maxRecDepth 20000 in
theorem yq_fX7_advance (s0 : Sg)  : pf_ (fX7_advance s0) (fun q => FQ_ s0 q) := by
  generalize hQ0 : (fun q : (Sg) => FQ_ s0 q) = Q
  have hQ : ∀ (_ : Unit) {x : Sg}, FQ_ s0 x → Q x := fun _ x h => by rw [← hQ0]; exact h
  clear hQ0
  unfold fX7_advance
  refine pf_jn (fun k_2 => ∀ (s_1 : Sg), FQ_ s0 s_1 → pf_ (k_2 s_1) Q) ?_ (fun k_2 hk_2 => ?_)
  · intro s_1 g_s_1
    try dsimp only
    refine pf_bv (fun s_3 e_s_3 => ?_)
    have g_s_3 : FQ_ s0 s_3 := by rw [e_s_3]; exact FQ_.si g_s_1 rfl
    clear e_s_3
    refine pf_ifc (fun hc11_ => ?_) (fun hc11_ => ?_)
    · skip
      refine pf_chk (fun _ => ?_)
      refine pf_bnd (yq_fX7_isLetter (gi s_3 17 (ix (gi s_3 3 4))) s_3 ) (fun r_5 s_6 p_s_6 => ?_)
      have g_s_6 : FQ_ s0 s_6 := (g_s_3).tr p_s_6
      refine pf_jn (fun k_8 => ∀ (s_7 : Sg), FQ_ s0 s_7 → pf_ (k_8 s_7) Q) ?_ (fun k_8 hk_8 => ?_)
      · intro s_7 g_s_7
        try dsimp only
        refine pf_bnd (yq_fX7_wordToken s_7 ) (fun r_9 s_10 p_s_10 => ?_)
        have g_s_10 : FQ_ s0 s_10 := (g_s_7).tr p_s_10
        refine pf_bv (fun s_11 e_s_11 => ?_)
        have g_s_11 : FQ_ s0 s_11 := by rw [e_s_11]; exact FQ_.si g_s_10 rfl
        clear e_s_11
        exact pf_some (hQ () g_s_11)
      refine pf_ifc (fun hc25_ => ?_) (fun hc25_ => ?_)
      · skip
        refine pf_chk (fun _ => ?_)
        refine pf_bnd (yq_fX7_isDigit (gi s_6 17 (ix (gi s_6 3 4))) s_6 ) (fun r_18 s_19 p_s_19 => ?_)
        have g_s_19 : FQ_ s0 s_19 := (g_s_6).tr p_s_19
        refine pf_ifc (fun hc30_ => ?_) (fun hc30_ => ?_)
        · skip
          refine pf_chk (fun _ => ?_)
          refine pf_jn (fun k_23 => ∀ (y_21 : Int32) (y_22 : Bool), pf_ (k_23 y_21 y_22) Q) ?_ (fun k_23 hk_23 => ?_)
          · intro y_21 y_22
            try dsimp only
            refine pf_bnd (yq_fX7_signToken y_21 (b2i y_22) s_19 ) (fun r_24 s_25 p_s_25 => ?_)
            have g_s_25 : FQ_ s0 s_25 := (g_s_19).tr p_s_25
            refine pf_bv (fun s_26 e_s_26 => ?_)
            have g_s_26 : FQ_ s0 s_26 := by rw [e_s_26]; exact FQ_.si g_s_25 rfl
            clear e_s_26
            refine pf_jn (fun k_29 => ∀ (y_27 : Int32) (y_28 : Int32), pf_ (k_29 y_27 y_28) Q) ?_ (fun k_29 hk_29 => ?_)
            · intro y_27 y_28
              try dsimp only
              refine pf_bv (fun s_30 e_s_30 => ?_)
              have g_s_30 : FQ_ s0 s_30 := by rw [e_s_30]; exact FQ_.si g_s_26 rfl
              clear e_s_30
              exact pf_some (hQ () g_s_30)
            refine pf_jn (fun k_32 => ∀ (y_31 : Int32), pf_ (k_32 y_31) Q) ?_ (fun k_32 hk_32 => ?_)
            · intro y_31
              try dsimp only
              exact hk_29 y_31 2 
            refine pf_ifc (fun hc52_ => ?_) (fun hc52_ => ?_)
            · skip
              exact hk_32 (gi s_26 3 4) 
            · skip
              refine pf_ifc (fun hc56_ => ?_) (fun hc56_ => ?_)
              · skip
                exact hk_32 (gi s_26 3 4) 
              · skip
                exact hk_29 (gi s_26 3 4) 1 
          refine pf_jn (fun k_34 => ∀ (y_33 : Int32), pf_ (k_34 y_33) Q) ?_ (fun k_34 hk_34 => ?_)
          · intro y_33
            try dsimp only
            exact hk_23 y_33 false 
          refine pf_ifc (fun hc65_ => ?_) (fun hc65_ => ?_)
          · skip
            exact hk_34 (gi s_19 17 (ix (gi s_19 3 4))) 
          · skip
            refine pf_chk (fun _ => ?_)
            refine pf_ifc (fun hc70_ => ?_) (fun hc70_ => ?_)
            · skip
              exact hk_23 (gi s_19 17 (ix (gi s_19 3 4))) true 
            · skip
              exact hk_34 (gi s_19 17 (ix (gi s_19 3 4))) 
        · skip
          refine pf_bnv (yq_fX7_readNumber s_19 ) (fun s_36 p_s_36 => ?_)
          have g_s_36 : FQ_ s0 s_36 := (g_s_19).tr p_s_36
          exact pf_some (hQ () g_s_36)
      · skip
        refine pf_lo1 (fun s_12 => FQ_ s0 s_12) ?_ FU s_6 g_s_6
        intro rec95 s_12 g_s_12 hr0_
        have hrec95 : ∀ (s_12 : Sg), FQ_ s0 s_12 → pf_ (rec95 s_12) Q := fun s_12 z_s_12 => hr0_ s_12 z_s_12
        clear hr0_
        unfold fX7_advance_95_b
        refine pf_ifc (fun hc85_ => ?_) (fun hc85_ => ?_)
        · skip
          exact hk_8 s_12 g_s_12
        · skip
          refine pf_chk (fun _ => ?_)
          refine pf_bnd (yq_fX7_isLetter (gi s_12 17 (ix (gi s_12 3 4))) s_12 ) (fun r_14 s_15 p_s_15 => ?_)
          have g_s_15 : FQ_ s0 s_15 := (g_s_12).tr p_s_15
          refine pf_ifc (fun hc92_ => ?_) (fun hc92_ => ?_)
          · skip
            exact hk_8 s_15 g_s_15
          · skip
            refine pf_bv (fun s_16 e_s_16 => ?_)
            have g_s_16 : FQ_ s0 s_16 := by rw [e_s_16]; exact FQ_.si g_s_15 rfl
            clear e_s_16
            exact hrec95 s_16 g_s_16
    · skip
      refine pf_bv (fun s_37 e_s_37 => ?_)
      have g_s_37 : FQ_ s0 s_37 := by rw [e_s_37]; exact FQ_.si g_s_3 rfl
      clear e_s_37
      exact pf_some (hQ () g_s_37)
  refine pf_lo1 (fun s_38 => FQ_ s0 s_38) ?_ FU s0 FQ_.rf
  intro rec0 s_38 g_s_38 hr0_
  have hrec0 : ∀ (s_38 : Sg), FQ_ s0 s_38 → pf_ (rec0 s_38) Q := fun s_38 z_s_38 => hr0_ s_38 z_s_38
  clear hr0_
  unfold fX7_advance_0_b
  refine pf_ifc (fun hc110_ => ?_) (fun hc110_ => ?_)
  · skip
    exact hk_2 s_38 g_s_38
  · skip
    refine pf_chk (fun _ => ?_)
    refine pf_jn (fun k_40 => pf_ k_40 Q) ?_ (fun k_40 hk_40 => ?_)
    · skip
      refine pf_bv (fun s_41 e_s_41 => ?_)
      have g_s_41 : FQ_ s0 s_41 := by rw [e_s_41]; exact FQ_.si g_s_38 rfl
      clear e_s_41
      exact hrec0 s_41 g_s_41
    refine pf_ifc (fun hc121_ => ?_) (fun hc121_ => ?_)
    · skip
      exact hk_40  
    · skip
      refine pf_ifc (fun hc125_ => ?_) (fun hc125_ => ?_)
      · skip
        exact hk_40  
      · skip
        exact hk_2 s_38 g_s_38
set_option maxRecDepth 20000 in
theorem yq_fX2_takeToken (a1 : Int32) (s0 : Sg)  : pf_ (fX2_takeToken a1 s0) (fun q => FQ_ s0 q) := by
  generalize hQ0 : (fun q : (Sg) => FQ_ s0 q) = Q
  have hQ : ∀ (_ : Unit) {x : Sg}, FQ_ s0 x → Q x := fun _ x h => by rw [← hQ0]; exact h
  clear hQ0
  unfold fX2_takeToken
  refine pf_jn (fun k_2 => ∀ (s_1 : Sg), FQ_ s0 s_1 → pf_ (k_2 s_1) Q) ?_ (fun k_2 hk_2 => ?_)
  · intro s_1 g_s_1
    try dsimp only
    refine pf_ifc (fun hc8_ => ?_) (fun hc8_ => ?_)
    · skip
      refine pf_bnv (yq_fX7_advance s_1 ) (fun s_4 p_s_4 => ?_)
      have g_s_4 : FQ_ s0 s_4 := (g_s_1).tr p_s_4
      exact pf_some (hQ () g_s_4)
    · skip
      exact pf_some (hQ () g_s_1)
  refine pf_ifc (fun hc15_ => ?_) (fun hc15_ => ?_)
  · skip
    exact hk_2 s0 FQ_.rf
  · skip
    refine pf_bnv (yq_fX2_fail 1 s0 (by first | assumption | decide +kernel)) (fun s_6 p_s_6 => ?_)
    have g_s_6 : FQ_ s0 s_6 := (FQ_.rf).tr p_s_6
    exact hk_2 s_6 g_s_6
set_option maxRecDepth 20000 in
theorem yq_fX5_addClause (q0 : Nat) (a1 : Int32) (a2 : Int32) (a3 : Int32) (s0 : Sg) (h_q0 : 48 ≤ q0) : pf_ (fX5_addClause q0 a1 a2 a3 s0) (fun q => FQ_ s0 q) := by
  generalize hQ0 : (fun q : (Sg) => FQ_ s0 q) = Q
  have hQ : ∀ (_ : Unit) {x : Sg}, FQ_ s0 x → Q x := fun _ x h => by rw [← hQ0]; exact h
  clear hQ0
  unfold fX5_addClause
  refine pf_ifc (fun hc5_ => ?_) (fun hc5_ => ?_)
  · skip
    exact pf_some (hQ () FQ_.rf)
  · skip
    refine pf_chk (fun _ => ?_)
    refine pf_bv (fun s_2 e_s_2 => ?_)
    have g_s_2 : FQ_ s0 s_2 := by rw [e_s_2]; exact FQ_.si FQ_.rf (pq_big (by omega))
    clear e_s_2
    refine pf_chk (fun _ => ?_)
    refine pf_bv (fun s_4 e_s_4 => ?_)
    have g_s_4 : FQ_ s0 s_4 := by rw [e_s_4]; exact FQ_.si g_s_2 (pq_big (by omega))
    clear e_s_4
    refine pf_chk (fun _ => ?_)
    refine pf_bv (fun s_6 e_s_6 => ?_)
    have g_s_6 : FQ_ s0 s_6 := by rw [e_s_6]; exact FQ_.si g_s_4 (pq_big (by omega))
    clear e_s_6
    refine pf_bv (fun s_7 e_s_7 => ?_)
    have g_s_7 : FQ_ s0 s_7 := by rw [e_s_7]; exact FQ_.si g_s_6 (pq_big (by omega))
    clear e_s_7
    exact pf_some (hQ () g_s_7)
set_option maxRecDepth 20000 in
theorem yq_fX5_emit (q0 : Nat) (a1 : Int32) (s0 : Sg) (h_q0 : 48 ≤ q0) : pf_ (fX5_emit q0 a1 s0) (fun q => FQ_ s0 q) := by
  generalize hQ0 : (fun q : (Sg) => FQ_ s0 q) = Q
  have hQ : ∀ (_ : Unit) {x : Sg}, FQ_ s0 x → Q x := fun _ x h => by rw [← hQ0]; exact h
  clear hQ0
  unfold fX5_emit
  refine pf_ifc (fun hc5_ => ?_) (fun hc5_ => ?_)
  · skip
    exact pf_some (hQ () FQ_.rf)
  · skip
    refine pf_chk (fun _ => ?_)
    refine pf_bv (fun s_2 e_s_2 => ?_)
    have g_s_2 : FQ_ s0 s_2 := by rw [e_s_2]; exact FQ_.si FQ_.rf (pq_big (by omega))
    clear e_s_2
    refine pf_bv (fun s_3 e_s_3 => ?_)
    have g_s_3 : FQ_ s0 s_3 := by rw [e_s_3]; exact FQ_.si g_s_2 (pq_big (by omega))
    clear e_s_3
    exact pf_some (hQ () g_s_3)
set_option maxRecDepth 20000 in
theorem yq_fX2_settle (a1 : Int32) (s0 : Sg)  : pf_ (fX2_settle a1 s0) (fun q => FQ_ s0 q) := by
  generalize hQ0 : (fun q : (Sg) => FQ_ s0 q) = Q
  have hQ : ∀ (_ : Unit) {x : Sg}, FQ_ s0 x → Q x := fun _ x h => by rw [← hQ0]; exact h
  clear hQ0
  unfold fX2_settle
  refine pf_lo1 (fun s_1 => FQ_ s0 s_1) ?_ FU s0 FQ_.rf
  intro rec0 s_1 g_s_1 hr0_
  have hrec0 : ∀ (s_1 : Sg), FQ_ s0 s_1 → pf_ (rec0 s_1) Q := fun s_1 z_s_1 => hr0_ s_1 z_s_1
  clear hr0_
  unfold fX2_settle_0_b
  refine pf_ifc (fun hc10_ => ?_) (fun hc10_ => ?_)
  · skip
    exact pf_some (hQ () g_s_1)
  · skip
    refine pf_chk (fun _ => ?_)
    refine pf_chk (fun _ => ?_)
    refine pf_ifc (fun hc16_ => ?_) (fun hc16_ => ?_)
    · skip
      exact pf_some (hQ () g_s_1)
    · skip
      refine pf_bv (fun s_4 e_s_4 => ?_)
      have g_s_4 : FQ_ s0 s_4 := by rw [e_s_4]; exact FQ_.si g_s_1 rfl
      clear e_s_4
      refine pf_chk (fun _ => ?_)
      refine pf_bv (fun v_6 e_v_6 => ?_)
      clear e_v_6
      refine pf_bv (fun q_7 e_q_7 => ?_)
      refine pf_chk (fun h_ => ?_)
      have c_28_ := scr_cases h_
      refine pf_bnv (yq_fX5_emit q_7 (20000 + v_6) s_4 (by omega)) (fun s_9 p_s_9 => ?_)
      have g_s_9 : FQ_ s0 s_9 := (g_s_4).tr p_s_9
      refine pf_jn (fun k_12 => ∀ (y_10 : Int32) (y_11 : Bool), pf_ (k_12 y_10 y_11) Q) ?_ (fun k_12 hk_12 => ?_)
      · intro y_10 y_11
        try dsimp only
        refine pf_bv (fun s_13 e_s_13 => ?_)
        have g_s_13 : FQ_ s0 s_13 := by rw [e_s_13]; exact FQ_.si g_s_9 rfl
        clear e_s_13
        exact hrec0 s_13 g_s_13
      refine pf_jn (fun k_15 => ∀ (y_14 : Int32), pf_ (k_15 y_14) Q) ?_ (fun k_15 hk_15 => ?_)
      · intro y_14
        try dsimp only
        exact hk_12 y_14 true 
      refine pf_ifc (fun hc42_ => ?_) (fun hc42_ => ?_)
      · skip
        exact hk_15 (gi s_9 4 6) 
      · skip
        refine pf_ifc (fun hc46_ => ?_) (fun hc46_ => ?_)
        · skip
          exact hk_15 (gi s_9 4 6) 
        · skip
          exact hk_12 (gi s_9 4 6) false 
set_option maxRecDepth 20000 in
theorem yq_fX2_keepWaiting (a1 : Int32) (s0 : Sg)  : pf_ (fX2_keepWaiting a1 s0) (fun q => FQ_ s0 q) := by
  generalize hQ0 : (fun q : (Sg) => FQ_ s0 q) = Q
  have hQ : ∀ (_ : Unit) {x : Sg}, FQ_ s0 x → Q x := fun _ x h => by rw [← hQ0]; exact h
  clear hQ0
  unfold fX2_keepWaiting
  refine pf_ifc (fun hc5_ => ?_) (fun hc5_ => ?_)
  · skip
    exact pf_some (hQ () FQ_.rf)
  · skip
    refine pf_chk (fun _ => ?_)
    refine pf_bv (fun s_2 e_s_2 => ?_)
    have g_s_2 : FQ_ s0 s_2 := by rw [e_s_2]; exact FQ_.si FQ_.rf rfl
    clear e_s_2
    refine pf_bv (fun s_3 e_s_3 => ?_)
    have g_s_3 : FQ_ s0 s_3 := by rw [e_s_3]; exact FQ_.si g_s_2 rfl
    clear e_s_3
    exact pf_some (hQ () g_s_3)
set_option maxRecDepth 20000 in
theorem yq_fX2_joinBy (a1 : Int32) (s0 : Sg)  : pf_ (fX2_joinBy a1 s0) (fun q => FQ_ s0 q) := by
  generalize hQ0 : (fun q : (Sg) => FQ_ s0 q) = Q
  have hQ : ∀ (_ : Unit) {x : Sg}, FQ_ s0 x → Q x := fun _ x h => by rw [← hQ0]; exact h
  clear hQ0
  unfold fX2_joinBy
  refine pf_chk (fun _ => ?_)
  refine pf_bnv (yq_fX2_settle (tB.getD (ix a1) 0) s0 ) (fun s_2 p_s_2 => ?_)
  have g_s_2 : FQ_ s0 s_2 := (FQ_.rf).tr p_s_2
  refine pf_bnv (yq_fX2_keepWaiting a1 s_2 ) (fun s_3 p_s_3 => ?_)
  have g_s_3 : FQ_ s0 s_3 := (g_s_2).tr p_s_3
  refine pf_bv (fun s_4 e_s_4 => ?_)
  have g_s_4 : FQ_ s0 s_4 := by rw [e_s_4]; exact FQ_.si g_s_3 rfl
  clear e_s_4
  exact pf_some (hQ () g_s_4)
set_option maxRecDepth 20000 in
theorem yq_fX2_closeBracket (s0 : Sg)  : pf_ (fX2_closeBracket s0) (fun q => FQ_ s0 q) := by
  generalize hQ0 : (fun q : (Sg) => FQ_ s0 q) = Q
  have hQ : ∀ (_ : Unit) {x : Sg}, FQ_ s0 x → Q x := fun _ x h => by rw [← hQ0]; exact h
  clear hQ0
  unfold fX2_closeBracket
  refine pf_bnv (yq_fX2_settle 1 s0 ) (fun s_1 p_s_1 => ?_)
  have g_s_1 : FQ_ s0 s_1 := (FQ_.rf).tr p_s_1
  refine pf_jn (fun k_4 => ∀ (y_2 : Int32) (y_3 : Bool), pf_ (k_4 y_2 y_3) Q) ?_ (fun k_4 hk_4 => ?_)
  · intro y_2 y_3
    try dsimp only
    refine pf_bv (fun s_5 e_s_5 => ?_)
    have g_s_5 : FQ_ s0 s_5 := by rw [e_s_5]; exact FQ_.si g_s_1 rfl
    clear e_s_5
    refine pf_bv (fun s_6 e_s_6 => ?_)
    have g_s_6 : FQ_ s0 s_6 := by rw [e_s_6]; exact FQ_.si g_s_5 rfl
    clear e_s_6
    refine pf_bv (fun s_7 e_s_7 => ?_)
    have g_s_7 : FQ_ s0 s_7 := by rw [e_s_7]; exact FQ_.si g_s_6 rfl
    clear e_s_7
    exact pf_some (hQ () g_s_7)
  refine pf_ifc (fun hc20_ => ?_) (fun hc20_ => ?_)
  · skip
    exact hk_4 (gi s_1 4 2) false 
  · skip
    exact hk_4 (gi s_1 4 2) true 
set_option maxRecDepth 20000 in
theorem yq_fX2_readOperation (s0 : Sg)  : pf_ (fX2_readOperation s0) (fun q => FQ_ s0 q) := by
  generalize hQ0 : (fun q : (Sg) => FQ_ s0 q) = Q
  have hQ : ∀ (_ : Unit) {x : Sg}, FQ_ s0 x → Q x := fun _ x h => by rw [← hQ0]; exact h
  clear hQ0
  unfold fX2_readOperation
  refine pf_bv (fun v_1 e_v_1 => ?_)
  clear e_v_1
  refine pf_jn (fun k_2 => pf_ k_2 Q) ?_ (fun k_2 hk_2 => ?_)
  · skip
    refine pf_jn (fun k_3 => pf_ k_3 Q) ?_ (fun k_3 hk_3 => ?_)
    · skip
      refine pf_jn (fun k_4 => pf_ k_4 Q) ?_ (fun k_4 hk_4 => ?_)
      · skip
        refine pf_jn (fun k_5 => pf_ k_5 Q) ?_ (fun k_5 hk_5 => ?_)
        · skip
          refine pf_jn (fun k_6 => pf_ k_6 Q) ?_ (fun k_6 hk_6 => ?_)
          · skip
            refine pf_bnv (yq_fX2_fail 1 s0 (by first | assumption | decide +kernel)) (fun s_8 p_s_8 => ?_)
            have g_s_8 : FQ_ s0 s_8 := (FQ_.rf).tr p_s_8
            exact pf_some (hQ () g_s_8)
          refine pf_ifc (fun hc20_ => ?_) (fun hc20_ => ?_)
          · skip
            refine pf_ifc (fun hc22_ => ?_) (fun hc22_ => ?_)
            · skip
              refine pf_ifc (fun hc24_ => ?_) (fun hc24_ => ?_)
              · skip
                refine pf_bnv (yq_fX2_settle 1 s0 ) (fun s_9 p_s_9 => ?_)
                have g_s_9 : FQ_ s0 s_9 := (FQ_.rf).tr p_s_9
                refine pf_bv (fun s_10 e_s_10 => ?_)
                have g_s_10 : FQ_ s0 s_10 := by rw [e_s_10]; exact FQ_.si g_s_9 rfl
                clear e_s_10
                exact pf_some (hQ () g_s_10)
              · skip
                exact hk_6  
            · skip
              exact hk_6  
          · skip
            exact hk_6  
        refine pf_jn (fun k_11 => pf_ k_11 Q) ?_ (fun k_11 hk_11 => ?_)
        · skip
          refine pf_ifc (fun hc40_ => ?_) (fun hc40_ => ?_)
          · skip
            refine pf_ifc (fun hc42_ => ?_) (fun hc42_ => ?_)
            · skip
              exact hk_5  
            · skip
              refine pf_bnv (yq_fX2_joinBy v_1 s0 ) (fun s_12 p_s_12 => ?_)
              have g_s_12 : FQ_ s0 s_12 := (FQ_.rf).tr p_s_12
              refine pf_bv (fun s_13 e_s_13 => ?_)
              have g_s_13 : FQ_ s0 s_13 := by rw [e_s_13]; exact FQ_.si g_s_12 rfl
              clear e_s_13
              refine pf_bv (fun s_14 e_s_14 => ?_)
              have g_s_14 : FQ_ s0 s_14 := by rw [e_s_14]; exact FQ_.si g_s_13 rfl
              clear e_s_14
              exact pf_some (hQ () g_s_14)
          · skip
            exact hk_5  
        refine pf_ifc (fun hc57_ => ?_) (fun hc57_ => ?_)
        · skip
          exact hk_11  
        · skip
          refine pf_ifc (fun hc61_ => ?_) (fun hc61_ => ?_)
          · skip
            exact hk_11  
          · skip
            exact hk_5  
      refine pf_ifc (fun hc66_ => ?_) (fun hc66_ => ?_)
      · skip
        exact hk_4  
      · skip
        refine pf_ifc (fun hc70_ => ?_) (fun hc70_ => ?_)
        · skip
          exact hk_4  
        · skip
          refine pf_ifc (fun hc74_ => ?_) (fun hc74_ => ?_)
          · skip
            exact hk_4  
          · skip
            refine pf_ifc (fun hc78_ => ?_) (fun hc78_ => ?_)
            · skip
              refine pf_ifc (fun hc80_ => ?_) (fun hc80_ => ?_)
              · skip
                refine pf_bnv (yq_fX2_joinBy v_1 s0 ) (fun s_15 p_s_15 => ?_)
                have g_s_15 : FQ_ s0 s_15 := (FQ_.rf).tr p_s_15
                refine pf_bv (fun s_16 e_s_16 => ?_)
                have g_s_16 : FQ_ s0 s_16 := by rw [e_s_16]; exact FQ_.si g_s_15 rfl
                clear e_s_16
                exact pf_some (hQ () g_s_16)
              · skip
                exact hk_4  
            · skip
              exact hk_4  
    refine pf_ifc (fun hc92_ => ?_) (fun hc92_ => ?_)
    · skip
      refine pf_ifc (fun hc94_ => ?_) (fun hc94_ => ?_)
      · skip
        exact hk_3  
      · skip
        refine pf_bnv (yq_fX2_closeBracket s0 ) (fun s_17 p_s_17 => ?_)
        have g_s_17 : FQ_ s0 s_17 := (FQ_.rf).tr p_s_17
        exact pf_some (hQ () g_s_17)
    · skip
      exact hk_3  
  refine pf_ifc (fun hc103_ => ?_) (fun hc103_ => ?_)
  · skip
    exact hk_2  
  · skip
    refine pf_ifc (fun hc107_ => ?_) (fun hc107_ => ?_)
    · skip
      exact hk_2  
    · skip
      refine pf_bnv (yq_fX2_joinBy v_1 s0 ) (fun s_18 p_s_18 => ?_)
      have g_s_18 : FQ_ s0 s_18 := (FQ_.rf).tr p_s_18
      exact pf_some (hQ () g_s_18)
set_option maxRecDepth 20000 in
theorem yq_fX2_openOne (a1 : Int32) (s0 : Sg)  : pf_ (fX2_openOne a1 s0) (fun q => FQ_ s0 q) := by
  generalize hQ0 : (fun q : (Sg) => FQ_ s0 q) = Q
  have hQ : ∀ (_ : Unit) {x : Sg}, FQ_ s0 x → Q x := fun _ x h => by rw [← hQ0]; exact h
  clear hQ0
  unfold fX2_openOne
  refine pf_ifc (fun hc5_ => ?_) (fun hc5_ => ?_)
  · skip
    refine pf_bv (fun s_1 e_s_1 => ?_)
    have g_s_1 : FQ_ s0 s_1 := by rw [e_s_1]; exact FQ_.si FQ_.rf rfl
    clear e_s_1
    refine pf_jn (fun k_4 => ∀ (y_2 : Int32) (y_3 : Bool), pf_ (k_4 y_2 y_3) Q) ?_ (fun k_4 hk_4 => ?_)
    · intro y_2 y_3
      try dsimp only
      refine pf_bv (fun s_5 e_s_5 => ?_)
      have g_s_5 : FQ_ s0 s_5 := by rw [e_s_5]; exact FQ_.si g_s_1 rfl
      clear e_s_5
      refine pf_jn (fun k_7 => ∀ (y_6 : Bool), pf_ (k_7 y_6) Q) ?_ (fun k_7 hk_7 => ?_)
      · intro y_6
        try dsimp only
        refine pf_bv (fun s_8 e_s_8 => ?_)
        have g_s_8 : FQ_ s0 s_8 := by rw [e_s_8]; exact FQ_.si g_s_5 rfl
        clear e_s_8
        refine pf_bnv (yq_fX2_keepWaiting a1 s_8 ) (fun s_9 p_s_9 => ?_)
        have g_s_9 : FQ_ s0 s_9 := (g_s_8).tr p_s_9
        exact pf_some (hQ () g_s_9)
      refine pf_ifc (fun hc25_ => ?_) (fun hc25_ => ?_)
      · skip
        exact hk_7 true 
      · skip
        exact hk_7 false 
    refine pf_ifc (fun hc30_ => ?_) (fun hc30_ => ?_)
    · skip
      exact hk_4 (gi s_1 4 7) true 
    · skip
      exact hk_4 (gi s_1 4 7) false 
  · skip
    refine pf_bnv (yq_fX2_fail 3 s0 (by first | assumption | decide +kernel)) (fun s_10 p_s_10 => ?_)
    have g_s_10 : FQ_ s0 s_10 := (FQ_.rf).tr p_s_10
    exact pf_some (hQ () g_s_10)
set_option maxRecDepth 20000 in
theorem yq_fX2_operandFault (a1 : Int32) (s0 : Sg)  : pf_ (fX2_operandFault a1 s0) (fun q => FQ_ s0 q.2) := by
  generalize hQ0 : (fun q : (Int32 × Sg) => FQ_ s0 q.2) = Q
  have hQ : ∀ r {x : Sg}, FQ_ s0 x → Q (r, x) := fun r x h => by rw [← hQ0]; exact h
  clear hQ0
  unfold fX2_operandFault
  refine pf_ifc (fun hc5_ => ?_) (fun hc5_ => ?_)
  · skip
    refine pf_ifc (fun hc7_ => ?_) (fun hc7_ => ?_)
    · skip
      exact pf_some (hQ _ FQ_.rf)
    · skip
      exact pf_some (hQ _ FQ_.rf)
  · skip
    refine pf_ifc (fun hc13_ => ?_) (fun hc13_ => ?_)
    · skip
      refine pf_bv (fun v_1 e_v_1 => ?_)
      clear e_v_1
      refine pf_jn (fun k_3 => ∀ (y_2 : Bool), pf_ (k_3 y_2) Q) ?_ (fun k_3 hk_3 => ?_)
      · intro y_2
        try dsimp only
        refine pf_ifc (fun hc20_ => ?_) (fun hc20_ => ?_)
        · skip
          exact pf_some (hQ _ FQ_.rf)
        · skip
          exact pf_some (hQ _ FQ_.rf)
      refine pf_jn (fun k_4 => pf_ k_4 Q) ?_ (fun k_4 hk_4 => ?_)
      · skip
        exact hk_3 true 
      refine pf_ifc (fun hc28_ => ?_) (fun hc28_ => ?_)
      · skip
        exact hk_4  
      · skip
        refine pf_jn (fun k_6 => ∀ (y_5 : Bool), pf_ (k_6 y_5) Q) ?_ (fun k_6 hk_6 => ?_)
        · intro y_5
          try dsimp only
          refine pf_ifc (fun hc35_ => ?_) (fun hc35_ => ?_)
          · skip
            exact hk_4  
          · skip
            exact hk_3 false 
        refine pf_ifc (fun hc40_ => ?_) (fun hc40_ => ?_)
        · skip
          exact hk_6 false 
        · skip
          exact hk_6 true 
    · skip
      exact pf_some (hQ _ FQ_.rf)
set_option maxRecDepth 20000 in
theorem yq_fX2_takeOperand (a1 : Int32) (s0 : Sg)  : pf_ (fX2_takeOperand a1 s0) (fun q => FQ_ s0 q) := by
  generalize hQ0 : (fun q : (Sg) => FQ_ s0 q) = Q
  have hQ : ∀ (_ : Unit) {x : Sg}, FQ_ s0 x → Q x := fun _ x h => by rw [← hQ0]; exact h
  clear hQ0
  unfold fX2_takeOperand
  refine pf_bv (fun q_1 e_q_1 => ?_)
  refine pf_chk (fun h_ => ?_)
  have c_7_ := scr_cases h_
  refine pf_bnv (yq_fX5_emit q_1 a1 s0 (by omega)) (fun s_3 p_s_3 => ?_)
  have g_s_3 : FQ_ s0 s_3 := (FQ_.rf).tr p_s_3
  refine pf_bv (fun s_4 e_s_4 => ?_)
  have g_s_4 : FQ_ s0 s_4 := by rw [e_s_4]; exact FQ_.si g_s_3 rfl
  clear e_s_4
  refine pf_bv (fun s_5 e_s_5 => ?_)
  have g_s_5 : FQ_ s0 s_5 := by rw [e_s_5]; exact FQ_.si g_s_4 rfl
  clear e_s_5
  exact pf_some (hQ () g_s_5)
set_option maxRecDepth 20000 in
theorem yq_fX2_readOperand (s0 : Sg)  : pf_ (fX2_readOperand s0) (fun q => FQ_ s0 q) := by
  generalize hQ0 : (fun q : (Sg) => FQ_ s0 q) = Q
  have hQ : ∀ (_ : Unit) {x : Sg}, FQ_ s0 x → Q x := fun _ x h => by rw [← hQ0]; exact h
  clear hQ0
  unfold fX2_readOperand
  refine pf_bv (fun v_1 e_v_1 => ?_)
  clear e_v_1
  refine pf_jn (fun k_2 => pf_ k_2 Q) ?_ (fun k_2 hk_2 => ?_)
  · skip
    refine pf_jn (fun k_4 => ∀ (y_3 : Int32), pf_ (k_4 y_3) Q) ?_ (fun k_4 hk_4 => ?_)
    · intro y_3
      try dsimp only
      refine pf_bnv (yq_fX2_openOne y_3 s0 ) (fun s_5 p_s_5 => ?_)
      have g_s_5 : FQ_ s0 s_5 := (FQ_.rf).tr p_s_5
      exact pf_some (hQ () g_s_5)
    refine pf_ifc (fun hc15_ => ?_) (fun hc15_ => ?_)
    · skip
      exact hk_4 14 
    · skip
      exact hk_4 v_1 
  refine pf_ifc (fun hc20_ => ?_) (fun hc20_ => ?_)
  · skip
    exact hk_2  
  · skip
    refine pf_ifc (fun hc24_ => ?_) (fun hc24_ => ?_)
    · skip
      exact hk_2  
    · skip
      refine pf_jn (fun k_6 => pf_ k_6 Q) ?_ (fun k_6 hk_6 => ?_)
      · skip
        refine pf_bnd (yq_fX2_operandFault v_1 s0 ) (fun r_7 s_8 p_s_8 => ?_)
        have g_s_8 : FQ_ s0 s_8 := (FQ_.rf).tr p_s_8
        refine pf_ifc (fun hc32_ => ?_) (fun hc32_ => ?_)
        · skip
          refine pf_jn (fun k_10 => ∀ (y_9 : Int32), pf_ (k_10 y_9) Q) ?_ (fun k_10 hk_10 => ?_)
          · intro y_9
            try dsimp only
            refine pf_bnv (yq_fX2_takeOperand y_9 s_8 ) (fun s_12 p_s_12 => ?_)
            have g_s_12 : FQ_ s0 s_12 := (g_s_8).tr p_s_12
            exact pf_some (hQ () g_s_12)
          refine pf_ifc (fun hc40_ => ?_) (fun hc40_ => ?_)
          · skip
            exact hk_10 (gi s_8 3 5) 
          · skip
            exact hk_10 ((10000 + v_1) - 26) 
        · skip
          refine pf_bnv (yq_fX2_fail r_7 s_8 (by first | assumption | decide +kernel)) (fun s_13 p_s_13 => ?_)
          have g_s_13 : FQ_ s0 s_13 := (g_s_8).tr p_s_13
          exact pf_some (hQ () g_s_13)
      refine pf_ifc (fun hc49_ => ?_) (fun hc49_ => ?_)
      · skip
        refine pf_ifc (fun hc51_ => ?_) (fun hc51_ => ?_)
        · skip
          exact hk_6  
        · skip
          exact hk_2  
      · skip
        exact hk_6  
set_option maxRecDepth 20000 in
theorem yq_fX2_readLaw (a1 : Int32) (s0 : Sg)  : pf_ (fX2_readLaw a1 s0) (fun q => FQ_ s0 q) := by
  generalize hQ0 : (fun q : (Sg) => FQ_ s0 q) = Q
  have hQ : ∀ (_ : Unit) {x : Sg}, FQ_ s0 x → Q x := fun _ x h => by rw [← hQ0]; exact h
  clear hQ0
  unfold fX2_readLaw
  refine pf_bv (fun q_1 e_q_1 => ?_)
  refine pf_chk (fun h_ => ?_)
  have c_7_ := scr_cases h_
  refine pf_bv (fun v_3 e_v_3 => ?_)
  clear e_v_3
  refine pf_jn (fun k_5 => ∀ (y_4 : Bool), pf_ (k_5 y_4) Q) ?_ (fun k_5 hk_5 => ?_)
  · intro y_4
    try dsimp only
    refine pf_bv (fun s_6 e_s_6 => ?_)
    have g_s_6 : FQ_ s0 s_6 := by rw [e_s_6]; exact FQ_.si FQ_.rf rfl
    clear e_s_6
    refine pf_bv (fun s_7 e_s_7 => ?_)
    have g_s_7 : FQ_ s0 s_7 := by rw [e_s_7]; exact FQ_.si g_s_6 rfl
    clear e_s_7
    refine pf_bv (fun s_8 e_s_8 => ?_)
    have g_s_8 : FQ_ s0 s_8 := by rw [e_s_8]; exact FQ_.si g_s_7 rfl
    clear e_s_8
    refine pf_bv (fun s_9 e_s_9 => ?_)
    have g_s_9 : FQ_ s0 s_9 := by rw [e_s_9]; exact FQ_.si g_s_8 rfl
    clear e_s_9
    refine pf_bv (fun s_10 e_s_10 => ?_)
    have g_s_10 : FQ_ s0 s_10 := by rw [e_s_10]; exact FQ_.si g_s_9 rfl
    clear e_s_10
    refine pf_chk (fun _ => ?_)
    refine pf_bv (fun s_11 e_s_11 => ?_)
    have g_s_11 : FQ_ s0 s_11 := by rw [e_s_11]; exact FQ_.si g_s_10 rfl
    clear e_s_11
    refine pf_bv (fun s_13 e_s_13 => ?_)
    have g_s_13 : FQ_ s0 s_13 := by rw [e_s_13]; exact FQ_.si g_s_11 rfl
    clear e_s_13
    refine pf_bv (fun s_14 e_s_14 => ?_)
    have g_s_14 : FQ_ s0 s_14 := by rw [e_s_14]; exact FQ_.si g_s_13 rfl
    clear e_s_14
    refine pf_jn (fun k_16 => ∀ (s_15 : Sg), FQ_ s0 s_15 → pf_ (k_16 s_15) Q) ?_ (fun k_16 hk_16 => ?_)
    · intro s_15 g_s_15
      try dsimp only
      refine pf_bnv (yq_fX2_takeToken 16 s_15 ) (fun s_17 p_s_17 => ?_)
      have g_s_17 : FQ_ s0 s_17 := (g_s_15).tr p_s_17
      refine pf_bv (fun q_18 e_q_18 => ?_)
      refine pf_chk (fun h_ => ?_)
      have c_45_ := scr_cases h_
      refine pf_bnv (yq_fX5_addClause q_18 a1 0 0 s_17 (by omega)) (fun s_20 p_s_20 => ?_)
      have g_s_20 : FQ_ s0 s_20 := (g_s_17).tr p_s_20
      refine pf_ifc (fun hc48_ => ?_) (fun hc48_ => ?_)
      · skip
        refine pf_bv (fun q_21 e_q_21 => ?_)
        refine pf_chk (fun h_ => ?_)
        have c_52_ := scr_cases h_
        refine pf_bv (fun s_23 e_s_23 => ?_)
        have g_s_23 : FQ_ s0 s_23 := by rw [e_s_23]; exact FQ_.si g_s_20 (pq_big (by omega))
        clear e_s_23
        refine pf_bv (fun q_24 e_q_24 => ?_)
        refine pf_chk (fun h_ => ?_)
        have c_58_ := scr_cases h_
        refine pf_bv (fun q_26 e_q_26 => ?_)
        refine pf_chk (fun h_ => ?_)
        have c_61_ := scr_cases h_
        refine pf_bv (fun s_28 e_s_28 => ?_)
        have g_s_28 : FQ_ s0 s_28 := by rw [e_s_28]; exact FQ_.si g_s_23 (pq_big (by omega))
        clear e_s_28
        exact pf_some (hQ () g_s_28)
      · skip
        refine pf_bv (fun q_29 e_q_29 => ?_)
        refine pf_chk (fun h_ => ?_)
        have c_69_ := scr_cases h_
        refine pf_bv (fun s_31 e_s_31 => ?_)
        have g_s_31 : FQ_ s0 s_31 := by rw [e_s_31]; exact FQ_.si g_s_20 (pq_big (by omega))
        clear e_s_31
        refine pf_bv (fun q_32 e_q_32 => ?_)
        refine pf_chk (fun h_ => ?_)
        have c_75_ := scr_cases h_
        refine pf_bv (fun q_34 e_q_34 => ?_)
        refine pf_chk (fun h_ => ?_)
        have c_78_ := scr_cases h_
        refine pf_bv (fun s_36 e_s_36 => ?_)
        have g_s_36 : FQ_ s0 s_36 := by rw [e_s_36]; exact FQ_.si g_s_31 (pq_big (by omega))
        clear e_s_36
        exact pf_some (hQ () g_s_36)
    refine pf_lo2 (fun (_ : Int32) s_38 => FQ_ s0 s_38) ?_ FU 0 s_14 g_s_14
    intro rec63 x3_37 s_38 g_s_38 hr0_
    have hrec63 : ∀ (x3_37 : Int32) (s_38 : Sg), FQ_ s0 s_38 → pf_ (rec63 x3_37 s_38) Q := fun x3_37 s_38 z_s_38 => hr0_ x3_37 s_38 z_s_38
    clear hr0_
    unfold fX2_readLaw_63_b
    refine pf_ifc (fun hc88_ => ?_) (fun hc88_ => ?_)
    · skip
      exact hk_16 s_38 g_s_38
    · skip
      refine pf_ifc (fun hc92_ => ?_) (fun hc92_ => ?_)
      · skip
        refine pf_ifc (fun hc94_ => ?_) (fun hc94_ => ?_)
        · skip
          refine pf_bnv (yq_fX7_advance s_38 ) (fun s_39 p_s_39 => ?_)
          have g_s_39 : FQ_ s0 s_39 := (g_s_38).tr p_s_39
          refine pf_jn (fun k_41 => ∀ (s_40 : Sg), FQ_ s0 s_40 → pf_ (k_41 s_40) Q) ?_ (fun k_41 hk_41 => ?_)
          · intro s_40 g_s_40
            try dsimp only
            refine pf_bv (fun v_42 e_v_42 => ?_)
            clear e_v_42
            exact hrec63 v_42 s_40 g_s_40
          refine pf_ifc (fun hc104_ => ?_) (fun hc104_ => ?_)
          · skip
            refine pf_bnv (yq_fX2_readOperation s_39 ) (fun s_44 p_s_44 => ?_)
            have g_s_44 : FQ_ s0 s_44 := (g_s_39).tr p_s_44
            exact hk_41 s_44 g_s_44
          · skip
            refine pf_bnv (yq_fX2_readOperand s_39 ) (fun s_45 p_s_45 => ?_)
            have g_s_45 : FQ_ s0 s_45 := (g_s_39).tr p_s_45
            exact hk_41 s_45 g_s_45
        · skip
          exact hk_16 s_38 g_s_38
      · skip
        exact hk_16 s_38 g_s_38
  refine pf_ifc (fun hc117_ => ?_) (fun hc117_ => ?_)
  · skip
    exact hk_5 true 
  · skip
    exact hk_5 false 
set_option maxRecDepth 20000 in
theorem yq_fX2_takeNumber (a1 : Int32) (s0 : Sg)  : pf_ (fX2_takeNumber a1 s0) (fun q => FQ_ s0 q.2) := by
  generalize hQ0 : (fun q : (Int32 × Sg) => FQ_ s0 q.2) = Q
  have hQ : ∀ r {x : Sg}, FQ_ s0 x → Q (r, x) := fun r x h => by rw [← hQ0]; exact h
  clear hQ0
  unfold fX2_takeNumber
  refine pf_jn (fun k_2 => ∀ (s_1 : Sg), FQ_ s0 s_1 → pf_ (k_2 s_1) Q) ?_ (fun k_2 hk_2 => ?_)
  · intro s_1 g_s_1
    try dsimp only
    refine pf_bv (fun v_3 e_v_3 => ?_)
    clear e_v_3
    refine pf_ifc (fun hc10_ => ?_) (fun hc10_ => ?_)
    · skip
      refine pf_bnv (yq_fX7_advance s_1 ) (fun s_5 p_s_5 => ?_)
      have g_s_5 : FQ_ s0 s_5 := (g_s_1).tr p_s_5
      exact pf_some (hQ _ g_s_5)
    · skip
      exact pf_some (hQ _ g_s_1)
  refine pf_ifc (fun hc17_ => ?_) (fun hc17_ => ?_)
  · skip
    refine pf_ifc (fun hc19_ => ?_) (fun hc19_ => ?_)
    · skip
      exact hk_2 s0 FQ_.rf
    · skip
      refine pf_bnv (yq_fX2_fail 2 s0 (by first | assumption | decide +kernel)) (fun s_7 p_s_7 => ?_)
      have g_s_7 : FQ_ s0 s_7 := (FQ_.rf).tr p_s_7
      exact hk_2 s_7 g_s_7
  · skip
    refine pf_bnv (yq_fX2_fail 1 s0 (by first | assumption | decide +kernel)) (fun s_8 p_s_8 => ?_)
    have g_s_8 : FQ_ s0 s_8 := (FQ_.rf).tr p_s_8
    exact hk_2 s_8 g_s_8
set_option maxRecDepth 20000 in
theorem yq_fX2_readStep (a1 : Int32) (s0 : Sg)  : pf_ (fX2_readStep a1 s0) (fun q => FQ_ s0 q) := by
  generalize hQ0 : (fun q : (Sg) => FQ_ s0 q) = Q
  have hQ : ∀ (_ : Unit) {x : Sg}, FQ_ s0 x → Q x := fun _ x h => by rw [← hQ0]; exact h
  clear hQ0
  unfold fX2_readStep
  refine pf_bnv (yq_fX7_advance s0 ) (fun s_1 p_s_1 => ?_)
  have g_s_1 : FQ_ s0 s_1 := (FQ_.rf).tr p_s_1
  refine pf_jn (fun k_3 => ∀ (y_2 : Int32), pf_ (k_3 y_2) Q) ?_ (fun k_3 hk_3 => ?_)
  · intro y_2
    try dsimp only
    refine pf_bnd (yq_fX2_takeNumber y_2 s_1 ) (fun r_4 s_5 p_s_5 => ?_)
    have g_s_5 : FQ_ s0 s_5 := (g_s_1).tr p_s_5
    refine pf_jn (fun k_8 => ∀ (x3_6 : Int32) (s_7 : Sg), FQ_ s0 s_7 → pf_ (k_8 x3_6 s_7) Q) ?_ (fun k_8 hk_8 => ?_)
    · intro x3_6 s_7 g_s_7
      try dsimp only
      refine pf_bnv (yq_fX2_takeToken 16 s_7 ) (fun s_9 p_s_9 => ?_)
      have g_s_9 : FQ_ s0 s_9 := (g_s_7).tr p_s_9
      refine pf_bv (fun q_10 e_q_10 => ?_)
      refine pf_chk (fun h_ => ?_)
      have c_19_ := scr_cases h_
      refine pf_bnv (yq_fX5_addClause q_10 a1 r_4 x3_6 s_9 (by omega)) (fun s_12 p_s_12 => ?_)
      have g_s_12 : FQ_ s0 s_12 := (g_s_9).tr p_s_12
      exact pf_some (hQ () g_s_12)
    refine pf_ifc (fun hc23_ => ?_) (fun hc23_ => ?_)
    · skip
      refine pf_bnv (yq_fX2_takeToken 18 s_5 ) (fun s_13 p_s_13 => ?_)
      have g_s_13 : FQ_ s0 s_13 := (g_s_5).tr p_s_13
      refine pf_bnd (yq_fX2_takeNumber 1 s_13 ) (fun r_14 s_15 p_s_15 => ?_)
      have g_s_15 : FQ_ s0 s_15 := (g_s_13).tr p_s_15
      exact hk_8 r_14 s_15 g_s_15
    · skip
      exact hk_8 0 s_5 g_s_5
  refine pf_ifc (fun hc32_ => ?_) (fun hc32_ => ?_)
  · skip
    exact hk_3 99 
  · skip
    exact hk_3 11 
