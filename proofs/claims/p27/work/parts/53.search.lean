/-! the search for the fewest weights, over numbers -/
def pct_ : Nat → Nat → Nat
  | 0, r => r % 2
  | d + 1, r => match decide (r = 0) with
    | true => 0
    | false => pct_ d (r % 2 ^ (2 ^ d)) + pct_ d (r >>> (2 ^ d))
theorem pcN_add (r a : Nat) : ∀ b, pcN_ r (a + b) = pcN_ r a + pcN_ (r >>> a) b := by
  intro b
  induction b with
  | zero => rfl
  | succ b ih =>
    show pcN_ r (a + b) + (r.testBit (a + b)).toNat = pcN_ r a + (pcN_ (r >>> a) b + ((r >>> a).testBit b).toNat)
    rw [ih, Nat.testBit_shiftRight, Nat.add_assoc]
theorem pcN_mod (r a : Nat) : ∀ b, b ≤ a → pcN_ (r % 2 ^ a) b = pcN_ r b := by
  intro b
  induction b with
  | zero => intro _; rfl
  | succ b ih =>
    intro h
    show pcN_ (r % 2 ^ a) b + ((r % 2 ^ a).testBit b).toNat = pcN_ r b + (r.testBit b).toNat
    rw [ih (by omega), Nat.testBit_mod_two_pow, decide_eq_true (show b < a by omega), Bool.true_and]
theorem pcN_0 : ∀ b, pcN_ 0 b = 0 := by
  intro b
  induction b with
  | zero => rfl
  | succ b ih =>
    show pcN_ 0 b + ((0 : Nat).testBit b).toNat = 0
    rw [ih, Nat.zero_testBit]
    rfl
theorem pct_eq : ∀ d r, pct_ d r = pcN_ r (2 ^ d) := by
  intro d
  induction d with
  | zero =>
    intro r
    show r % 2 = 0 + (r.testBit 0).toNat
    rw [Nat.testBit_zero]
    rcases Nat.mod_two_eq_zero_or_one r with h | h <;> rw [h] <;> rfl
  | succ d ih =>
    intro r
    show (match decide (r = 0) with | true => 0 | false => pct_ d (r % 2 ^ (2 ^ d)) + pct_ d (r >>> (2 ^ d))) = _
    by_cases h : r = 0
    · subst h
      rw [pcN_0]
      rfl
    · rw [decide_eq_false h]
      show pct_ d (r % 2 ^ (2 ^ d)) + pct_ d (r >>> (2 ^ d)) = _
      rw [ih, ih, pcN_mod r (2 ^ d) (2 ^ d) (Nat.le_refl _), show 2 ^ (d + 1) = 2 ^ d + 2 ^ d by rw [Nat.pow_succ]; omega, pcN_add]
theorem pcN_le (r : Nat) : ∀ b, pcN_ r b ≤ b := by
  intro b
  induction b with
  | zero => exact Nat.le_refl _
  | succ b ih =>
    show pcN_ r b + (r.testBit b).toNat ≤ b + 1
    have := Bool.toNat_le (r.testBit b)
    omega
theorem pcN_hi (r : Nat) (h : r < 2 ^ 1001) : pct_ 10 r = pcN_ r 1001 := by
  rw [pct_eq, show (2 ^ 10 : Nat) = 1001 + 23 from rfl, pcN_add, Nat.shiftRight_eq_div_pow, Nat.div_eq_of_lt h, pcN_0, Nat.add_zero]
abbrev Fr_ : Type := Nat × Nat × Nat
def srch_ (k n : Nat) : Nat → List Fr_ → Option (Bool × List Fr_)
  | 0, _ => none
  | _ + 1, [] => some (false, [])
  | f + 1, (c, m, r) :: rest => match decide (c < 500) && decide (m < 500) && decide (rest.length < k) with
    | false => none
    | true => match decide (c + 1 ≤ (match decide (rest.length + 1 = k) with | true => n + m | false => n)) with
      | false => srch_ k n f rest
      | true => match decide (2 * n + 1 ≤ pct_ 10 (mk_ r (c + 1)) * 3 ^ (k - (rest.length + 1))) with
        | false => srch_ k n f ((c + 1, m, r) :: rest)
        | true => match decide (rest.length + 1 = k) with
          | true => match all_ (mk_ r (c + 1)) n 1 with
            | true => some (true, (c + 1, m, r) :: rest)
            | false => srch_ k n f ((c + 1, m, r) :: rest)
          | false => srch_ k n f ((c + 1, m + (c + 1), mk_ r (c + 1)) :: (c + 1, m, r) :: rest)
def RelS_ (s : Sg) : List Fr_ → Prop
  | [] => True
  | (c, m, r) :: rest => gi s 45 rest.length = nI c ∧ gi s 47 rest.length = nI m ∧ rowR_ s rest.length r ∧ RelS_ s rest
theorem RelS_of {s t : Sg} : ∀ (st : List Fr_), (∀ i, i < st.length → gi t 45 i = gi s 45 i ∧ gi t 47 i = gi s 47 i) → (∀ i, i < 1001 * st.length → gi t 46 i = gi s 46 i) → RelS_ s st → RelS_ t st := by
  intro st
  induction st with
  | nil => intro _ _ _; trivial
  | cons q rest ih =>
    intro h1 h2 h
    obtain ⟨c, m, r⟩ := q
    obtain ⟨a1, a2, a3, a4⟩ := h
    have hl : ((c, m, r) :: rest).length = rest.length + 1 := rfl
    refine ⟨?_, ?_, ⟨a3.1, fun v hv => ?_⟩, ih (fun i hi => h1 i (by rw [hl]; omega)) (fun i hi => h2 i (by rw [hl]; omega)) a4⟩
    · rw [(h1 rest.length (by rw [hl]; omega)).1]; exact a1
    · rw [(h1 rest.length (by rw [hl]; omega)).2]; exact a2
    · rw [h2 _ (by rw [hl]; omega)]; exact a3.2 v hv
def frW_ (s t : Sg) : Prop := (∀ i, i < 1001 → gi t 46 i = gi s 46 i) ∧ (∀ k, k ≠ 45 → k ≠ 46 → k ≠ 47 → gi t k = gi s k) ∧ t.2 = s.2
theorem frW_.tr {s t u : Sg} (h1 : frW_ s t) (h2 : frW_ t u) : frW_ s u := ⟨fun i hi => by rw [h2.1 i hi, h1.1 i hi], fun k a b c => by rw [h2.2.1 k a b c, h1.2.1 k a b c], by rw [h2.2.2, h1.2.2]⟩
theorem frW_.s45 {s : Sg} {j : Nat} {v : Int32} : frW_ s (si s 45 j v) := ⟨fun i _ => gsi_k (by decide), fun k a _ _ => gsi_f a, rfl⟩
theorem frW_.s47 {s : Sg} {j : Nat} {v : Int32} : frW_ s (si s 47 j v) := ⟨fun i _ => gsi_k (by decide), fun k _ _ a => gsi_f a, rfl⟩
set_option maxHeartbeats 2000000 in
theorem srch_ok (k n : Nat) (hk1 : 1 ≤ k) (hk : k ≤ 5) (hn : n ≤ 40) : ∀ (f : Nat) (st : List Fr_) (s : Sg) (res : Bool × List Fr_), srch_ k n f st = some res → RelS_ s st → ∀ F, f < F → ∃ t, lo2 (fX10_chooses_19_b (nI k) (nI n)) F (nI st.length - 1) s = some (res.1, t) ∧ RelS_ t res.2 ∧ frW_ s t := by
  intro f
  induction f with
  | zero => intro st s res h; cases h
  | succ f ih =>
    intro st s res h hR F hF
    obtain ⟨F, rfl⟩ : ∃ q, F = q + 1 := ⟨F - 1, by omega⟩
    cases st with
    | nil =>
      cases h
      refine ⟨s, ?_, trivial, fun _ _ => rfl, fun _ _ _ _ => rfl, rfl⟩
      show fX10_chooses_19_b (nI k) (nI n) (lo2 (fX10_chooses_19_b (nI k) (nI n)) F) (nI 0 - 1) s = _
      unfold fX10_chooses_19_b
      exact if_pos (by decide +kernel)
    | cons q rest =>
      obtain ⟨c, m, r⟩ := q
      obtain ⟨a1, a2, a3, a4⟩ := hR
      have hl : ((c, m, r) :: rest).length = rest.length + 1 := rfl
      rw [hl, nI_pred]
      show ∃ t, fX10_chooses_19_b (nI k) (nI n) (lo2 (fX10_chooses_19_b (nI k) (nI n)) F) (nI rest.length) s = _ ∧ _
      have ih2 : ∀ (st : List Fr_) (s : Sg) (res : Bool × List Fr_), srch_ k n f st = some res → RelS_ s st → ∃ t, lo2 (fX10_chooses_19_b (nI k) (nI n)) F (nI st.length - 1) s = some (res.1, t) ∧ RelS_ t res.2 ∧ frW_ s t := fun st s res h1 h2 => ih st s res h1 h2 F (by omega)
      generalize lo2 (fX10_chooses_19_b (nI k) (nI n)) F = rc at ih2 ⊢
      unfold srch_ at h
      cases hB : decide (c < 500) && decide (m < 500) && decide (rest.length < k) with
      | false => rw [hB] at h; cases h
      | true =>
        rw [hB] at h
        simp only [Bool.and_eq_true, decide_eq_true_eq] at hB
        obtain ⟨⟨hc, hm⟩, hj⟩ := hB
        dsimp only at h
        generalize hJ : rest.length = j at *
        have p1 : ¬ nI j < 0 := nI_pos (by omega)
        have p2 : inb 6 (nI j) = true := inb_nI (by omega) (by decide)
        have p3 : ix (nI j) = j := ix_nI (by omega)
        have p4 : gi s 45 j + 1 = nI (c + 1) := by rw [a1, nI_1]
        have p5 : (nI j = nI k - 1) = (j + 1 = k) := by
          obtain ⟨k, rfl⟩ : ∃ q, k = q + 1 := ⟨k - 1, by omega⟩
          rw [nI_pred, nI_eq (by omega) (by omega)]
          exact propext ⟨fun h => by omega, fun h => by omega⟩
        obtain ⟨s6, hs6⟩ : ∃ z, z = si s 45 j (nI (c + 1)) := ⟨_, rfl⟩
        have q1 : gi s6 45 j = nI (c + 1) := by rw [hs6]; exact gsi_eq
        have q2 : gi s6 47 j = nI m := by rw [hs6, gsi_k (by decide)]; exact a2
        have q3 : rowR_ s6 j r := ⟨a3.1, fun v hv => by rw [hs6, gsi_k (by decide)]; exact a3.2 v hv⟩
        have q4 : RelS_ s6 rest := RelS_of rest (fun i hi => by rw [hs6]; exact ⟨gsi_ne (by omega), gsi_k (by decide)⟩) (fun i hi => by rw [hs6]; exact gsi_k (by decide)) a4
        have w6 : frW_ s s6 := by rw [hs6]; exact frW_.s45
        obtain ⟨t1, m1, m2, m3, m4, m5⟩ := makes_ok j (c + 1) (by omega) (by omega) r s6 q3
        have w1 : frW_ s6 t1 := ⟨fun i hi => m3 i (by omega), fun k _ b _ => m4 k b, m5⟩
        have r1 : gi t1 45 j = nI (c + 1) := by rw [m4 45 (by decide)]; exact q1
        have r2 : gi t1 47 j = nI m := by rw [m4 47 (by decide)]; exact q2
        have r3 : rowR_ t1 j r := ⟨a3.1, fun v hv => by rw [m3 _ (by omega)]; exact q3.2 v hv⟩
        have r4 : RelS_ t1 rest := RelS_of rest (fun i hi => ⟨by rw [m4 45 (by decide)], by rw [m4 47 (by decide)]⟩) (fun i hi => m3 i (by omega)) q4
        have R1 : RelS_ t1 ((c + 1, m, r) :: rest) := by
          refine ⟨?_, ?_, ?_, r4⟩ <;> rw [hJ]
          · exact r1
          · exact r2
          · exact r3
        have hl1 : ∀ x : Fr_, nI (x :: rest).length - 1 = nI j := fun x => by
          rw [show (x :: rest).length = rest.length + 1 from rfl, nI_pred, hJ]
        have pcB := pcN_le (mk_ r (c + 1)) 1001
        have p3le : (3 : Nat) ^ (k - (j + 1)) ≤ 3 ^ 5 := Nat.pow_le_pow_right (by decide) (by omega)
        have manyB : pcN_ (mk_ r (c + 1)) 1001 * 3 ^ (k - (j + 1)) ≤ 1001 * 3 ^ 5 := Nat.mul_le_mul pcB p3le
        rw [pcN_hi _ (mk_lt r (c + 1))] at h
        unfold fX10_chooses_19_b
        rw [if_neg p1, p2, chk_p, bv_p, p3, p4, ← hs6, bv_p]
        rw [show (if nI j = nI k - 1 then
            (fun y_7 => chk true (if gi s6 45 j ≤ y_7 then bnd (fX10_makes (nI j) (gi s6 45 j) s6) fun r_10 s_11 => bv (nI j + 1) fun v_12 => bv (fun x6_13 => if 2 * nI n + 1 ≤ x6_13 then (if nI j = nI k - 1 then bnd (fX10_isAll (nI k) (nI n) s_11) fun r_20 s_21 => if b2i r_20 = 0 then rc (nI j) s_21 else some (true, s_21) else chk true (chk (inb 6 (nI j + 1)) (bv (si s_11 47 (ix (nI j + 1)) (gi s_11 47 j + gi s_11 45 j)) fun s_17 => bv (si s_17 45 (ix (nI j + 1)) (gi s_17 45 j)) fun s_18 => bv (nI j + 1) fun v_19 => rc v_19 s_18))) else rc (nI j) s_11) fun k_14 => lo2 (fX10_chooses_94_b (nI k) k_14) FU r_10 v_12 else bv (nI j + -1) fun v_26 => rc v_26 s6)) (nI n + gi s6 47 j)
          else (fun y_7 => chk true (if gi s6 45 j ≤ y_7 then bnd (fX10_makes (nI j) (gi s6 45 j) s6) fun r_10 s_11 => bv (nI j + 1) fun v_12 => bv (fun x6_13 => if 2 * nI n + 1 ≤ x6_13 then (if nI j = nI k - 1 then bnd (fX10_isAll (nI k) (nI n) s_11) fun r_20 s_21 => if b2i r_20 = 0 then rc (nI j) s_21 else some (true, s_21) else chk true (chk (inb 6 (nI j + 1)) (bv (si s_11 47 (ix (nI j + 1)) (gi s_11 47 j + gi s_11 45 j)) fun s_17 => bv (si s_17 45 (ix (nI j + 1)) (gi s_17 45 j)) fun s_18 => bv (nI j + 1) fun v_19 => rc v_19 s_18))) else rc (nI j) s_11) fun k_14 => lo2 (fX10_chooses_94_b (nI k) k_14) FU r_10 v_12 else bv (nI j + -1) fun v_26 => rc v_26 s6)) (nI n)) = (fun y_7 => if nI (c + 1) ≤ y_7 then (if 2 * nI n + 1 ≤ nI (pcN_ (mk_ r (c + 1)) 1001 * 3 ^ (k - (j + 1))) then (if nI j = nI k - 1 then bnd (fX10_isAll (nI k) (nI n) t1) fun r_20 s_21 => if b2i r_20 = 0 then rc (nI j) s_21 else some (true, s_21) else (rc (nI (j + 1)) (si (si t1 47 (j + 1) (nI (m + (c + 1)))) 45 (j + 1) (nI (c + 1))))) else rc (nI j) t1) else rc (nI j + -1) s6) (if j + 1 = k then nI (n + m) else nI n) from ?_]
        · have top_le : ∀ a b : Nat, a < 2 ^ 31 → b < 2 ^ 31 → (nI a ≤ nI b) = (a ≤ b) := fun a b ha hb => propext (nI_leI ha hb)
          have e21 : (2 : Int32) * nI n + 1 = nI (2 * n + 1) := by rw [show (2 : Int32) = nI 2 from rfl, nI_mul, nI_1]
          have nm1 : nI j + -1 = nI rest.length - 1 := by rw [hJ, Int32.sub_eq_add_neg]
          have tail : ∀ T : Nat, T < 1000 → (match decide (c + 1 ≤ T) with
              | false => srch_ k n f rest
              | true => match decide (2 * n + 1 ≤ pcN_ (mk_ r (c + 1)) 1001 * 3 ^ (k - (j + 1))) with
                | false => srch_ k n f ((c + 1, m, r) :: rest)
                | true => match decide (j + 1 = k) with
                  | true => match all_ (mk_ r (c + 1)) n 1 with
                    | true => some (true, (c + 1, m, r) :: rest)
                    | false => srch_ k n f ((c + 1, m, r) :: rest)
                  | false => srch_ k n f ((c + 1, m + (c + 1), mk_ r (c + 1)) :: (c + 1, m, r) :: rest)) = some res →
              ∃ t, (if nI (c + 1) ≤ nI T then (if 2 * nI n + 1 ≤ nI (pcN_ (mk_ r (c + 1)) 1001 * 3 ^ (k - (j + 1))) then (if nI j = nI k - 1 then bnd (fX10_isAll (nI k) (nI n) t1) fun r_20 s_21 => if b2i r_20 = 0 then rc (nI j) s_21 else some (true, s_21) else (rc (nI (j + 1)) (si (si t1 47 (j + 1) (nI (m + (c + 1)))) 45 (j + 1) (nI (c + 1))))) else rc (nI j) t1) else rc (nI j + -1) s6) = some (res.1, t) ∧ RelS_ t res.2 ∧ frW_ s t := by
            intro T hT h
            by_cases g1 : c + 1 ≤ T
            · rw [decide_eq_true g1] at h
              rw [if_pos (by rw [top_le _ _ (by omega) (by omega)]; exact g1)]
              dsimp only at h
              by_cases g2 : 2 * n + 1 ≤ pcN_ (mk_ r (c + 1)) 1001 * 3 ^ (k - (j + 1))
              · rw [decide_eq_true g2] at h
                rw [e21, if_pos (by rw [top_le _ _ (by omega) (by omega)]; exact g2)]
                dsimp only at h
                by_cases g3 : j + 1 = k
                · rw [decide_eq_true g3] at h
                  rw [if_pos (by rw [p5]; exact g3)]
                  dsimp only at h
                  have m2k : rowR_ t1 k (mk_ r (c + 1)) := by rw [← g3]; exact m2
                  rw [isAll_ok k n (by omega) (by omega) _ t1 m2k, bnd_p]
                  cases hA : all_ (mk_ r (c + 1)) n 1 with
                  | true =>
                    rw [hA] at h
                    cases h
                    exact ⟨t1, by rw [b2i_t, if_neg one_n0], R1, w6.tr w1⟩
                  | false =>
                    rw [hA] at h
                    dsimp only at h
                    obtain ⟨t, u1, u2, u3⟩ := ih2 _ t1 res h R1
                    rw [hl1] at u1
                    exact ⟨t, by rw [b2i_f, if_pos rfl]; exact u1, u2, (w6.tr w1).tr u3⟩
                · rw [decide_eq_false g3] at h
                  rw [if_neg (by rw [p5]; exact g3)]
                  dsimp only at h
                  have R2 : RelS_ (si (si t1 47 (j + 1) (nI (m + (c + 1)))) 45 (j + 1) (nI (c + 1))) ((c + 1, m + (c + 1), mk_ r (c + 1)) :: (c + 1, m, r) :: rest) := by
                    have hl2 : ((c + 1, m, r) :: rest).length = j + 1 := by rw [← hJ]; rfl
                    refine ⟨?_, ?_, ?_, ?_⟩
                    · rw [hl2]; exact gsi_eq
                    · rw [hl2, gsi_k (by decide)]; exact gsi_eq
                    · rw [hl2]; exact ⟨m2.1, fun v hv => by rw [gsi_k (by decide), gsi_k (by decide)]; exact m2.2 v hv⟩
                    · refine RelS_of _ (fun i hi => ?_) (fun i hi => ?_) R1
                      · rw [hl2] at hi
                        exact ⟨by rw [gsi_ne (by omega), gsi_k (by decide)], by rw [gsi_k (by decide), gsi_ne (by omega)]⟩
                      · rw [gsi_k (by decide), gsi_k (by decide)]
                  obtain ⟨t, u1, u2, u3⟩ := ih2 _ _ res h R2
                  rw [show ((c + 1, m + (c + 1), mk_ r (c + 1)) :: (c + 1, m, r) :: rest).length = (rest.length + 1) + 1 from rfl, nI_pred, hJ] at u1
                  exact ⟨t, u1, u2, ((w6.tr w1).tr (frW_.s47.tr frW_.s45)).tr u3⟩
              · rw [decide_eq_false g2] at h
                rw [e21, if_neg (by rw [top_le _ _ (by omega) (by omega)]; exact g2)]
                dsimp only at h
                obtain ⟨t, u1, u2, u3⟩ := ih2 _ t1 res h R1
                rw [hl1] at u1
                exact ⟨t, u1, u2, (w6.tr w1).tr u3⟩
            · rw [decide_eq_false g1] at h
              rw [if_neg (by rw [top_le _ _ (by omega) (by omega)]; exact g1), nm1]
              dsimp only at h
              obtain ⟨t, u1, u2, u3⟩ := ih2 _ s6 res h q4
              exact ⟨t, u1, u2, w6.tr u3⟩
          by_cases h5 : j + 1 = k
          · rw [if_pos h5]
            refine tail (n + m) (by omega) ?_
            rw [← h]
            rw [decide_eq_true h5]
          · rw [if_neg h5]
            refine tail n (by omega) ?_
            rw [← h]
            rw [decide_eq_false h5]
        · by_cases h5 : j + 1 = k
          · have hc5 : nI j = nI k - 1 := by rw [p5]; exact h5
            rw [if_pos hc5, if_pos h5]
            dsimp only
            rw [chk_p, q1, q2, nI_add, m1, bnd_p, bv_p, bv_p, nI_1, thrice k (by omega) _ (k - (j + 1)) (j + 1) FU _ (by omega) (by unfold FU; omega), if_pos hc5, if_pos hc5, bv_p]
          · have hc5 : ¬ nI j = nI k - 1 := by rw [p5]; exact h5
            rw [if_neg hc5, if_neg h5]
            dsimp only
            have i6 : inb 6 (nI (j + 1)) = true := inb_nI (by omega) (by decide)
            have x6 : ix (nI (j + 1)) = j + 1 := ix_nI (by omega)
            rw [chk_p, q1, m1, bnd_p, bv_p, bv_p, nI_1, thrice k (by omega) _ (k - (j + 1)) (j + 1) FU _ (by omega) (by unfold FU; omega), if_neg hc5, if_neg hc5, chk_p, i6, chk_p, bv_p, bv_p, bv_p, bv_p, x6, r1, r2, nI_add, gsi_k (by decide), r1]
