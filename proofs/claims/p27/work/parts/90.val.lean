/-! beam and weather: their answers -/
theorem beam9_v (a b c : Int32) (s : Sg) : wp_ (fX9_beam a b c s) (fun q => q.1 = (inR a 1 99 && (inR b 1 99 && inR c 0 9999))) := by
  unfold fX9_beam
  refine wp_bnd_e (within_eq _ _ _ _) (wp_if_i (fun h => wp_some_i (by rw [b2i_eq h]; rfl)) (fun h => ?_))
  refine wp_bnd_e (within_eq _ _ _ _) (wp_if_i (fun h2 => wp_some_i (by rw [b2i_eq h2, b2i_ne h]; rfl)) (fun h2 => ?_))
  refine wp_bnd_e (within_eq _ _ _ _) (wp_if_i (fun h3 => wp_some_i (by rw [b2i_eq h3, b2i_ne h, b2i_ne h2]; rfl)) (fun h3 => ?_))
  exact wp_bv_i (fun _ _ => wp_bv_i (fun _ _ => wp_bv_i (fun _ _ => wp_some_i (by rw [b2i_ne h, b2i_ne h2, b2i_ne h3]; rfl))))
theorem beam10_v (a b c : Int32) (s : Sg) : wp_ (fX10_beam a b c s) (fun q => q.1 = (inR a 1 99 && (inR b 1 99 && inR c 0 9999))) := by
  unfold fX10_beam
  refine wp_bnd_e (isIn_eq _ _ _ _) (wp_if_i (fun h => wp_some_i (by rw [b2i_eq h]; rfl)) (fun h => ?_))
  refine wp_bnd_e (isIn_eq _ _ _ _) (wp_if_i (fun h2 => wp_some_i (by rw [b2i_eq h2, b2i_ne h]; rfl)) (fun h2 => ?_))
  refine wp_bnd_e (isIn_eq _ _ _ _) (wp_if_i (fun h3 => wp_some_i (by rw [b2i_eq h3, b2i_ne h, b2i_ne h2]; rfl)) (fun h3 => ?_))
  exact wp_bv_i (fun _ _ => wp_bv_i (fun _ _ => wp_bv_i (fun _ _ => wp_some_i (by rw [b2i_ne h, b2i_ne h2, b2i_ne h3]; rfl))))
theorem weather9_v (a b c : Int32) (s : Sg) : wp_ (fX9_weather a b c s) (fun q => q.1 = (inR a 0 23 && (inR b 0 9 && inR c (-9) 9))) := by
  unfold fX9_weather
  refine wp_bnd_e (within_eq _ _ _ _) (wp_if_i (fun h => wp_some_i (by rw [b2i_eq h]; rfl)) (fun h => ?_))
  refine wp_bnd_e (within_eq _ _ _ _) (wp_if_i (fun h2 => wp_some_i (by rw [b2i_eq h2, b2i_ne h]; rfl)) (fun h2 => ?_))
  refine wp_bnd_e (within_eq _ _ _ _) (wp_if_i (fun h3 => wp_some_i (by rw [b2i_eq h3, b2i_ne h, b2i_ne h2]; rfl)) (fun h3 => ?_))
  exact wp_bv_i (fun _ _ => wp_bv_i (fun _ _ => wp_bv_i (fun _ _ => wp_some_i (by rw [b2i_ne h, b2i_ne h2, b2i_ne h3]; rfl))))
theorem weather10_v (a b c : Int32) (s : Sg) : wp_ (fX10_weather a b c s) (fun q => q.1 = (inR a 0 23 && (inR b 0 9 && inR c (-9) 9))) := by
  unfold fX10_weather
  refine wp_bnd_e (isIn_eq _ _ _ _) (wp_if_i (fun h => wp_some_i (by rw [b2i_eq h]; rfl)) (fun h => ?_))
  refine wp_bnd_e (isIn_eq _ _ _ _) (wp_if_i (fun h2 => wp_some_i (by rw [b2i_eq h2, b2i_ne h]; rfl)) (fun h2 => ?_))
  refine wp_bnd_e (isIn_eq _ _ _ _) (wp_if_i (fun h3 => wp_some_i (by rw [b2i_eq h3, b2i_ne h, b2i_ne h2]; rfl)) (fun h3 => ?_))
  exact wp_bv_i (fun _ _ => wp_bv_i (fun _ _ => wp_bv_i (fun _ _ => wp_some_i (by rw [b2i_ne h, b2i_ne h2, b2i_ne h3]; rfl))))
/-! weights: the class's table is what the model's search gives -/
theorem w33_ (v : Int32) (kk : Int32 → Option (Int32 × Sg)) (k0 : Int32 → Option (Int32 × Sg)) (f : Int32 × Sg → Int32 × Sg) (hk : ∀ c, kk c = (k0 c).map f) : ∀ (F : Nat) (x y : Int32), lo2 (fX9_weights_33_b v kk) F x y = (lo2 (fX9_weights_33_b v k0) F x y).map f := by
  intro F
  induction F with
  | zero => intro x y; rfl
  | succ F ih =>
    intro x y
    show fX9_weights_33_b v kk (lo2 (fX9_weights_33_b v kk) F) x y = (fX9_weights_33_b v k0 (lo2 (fX9_weights_33_b v k0) F) x y).map f
    generalize lo2 (fX9_weights_33_b v kk) F = r1 at ih ⊢
    generalize lo2 (fX9_weights_33_b v k0) F = r0 at ih ⊢
    unfold fX9_weights_33_b
    by_cases h : 4 ≤ y
    · rw [if_pos h, if_pos h]; exact hk x
    · rw [if_neg h, if_neg h]
      cases inb 160 (v + y) with
      | false => rfl
      | true =>
        simp only [chk, bv]
        by_cases h2 : tF.getD (ix (v + y)) 0 ≤ 0
        · rw [if_pos h2, if_pos h2]; exact ih _ _
        · rw [if_neg h2, if_neg h2]; exact ih _ _
theorem weights9_s (a b : Int32) (s s' : Sg) : fX9_weights a b s = (fX9_weights a b s').map (fun q => (q.1, s)) := by
  unfold fX9_weights
  rw [within_eq, within_eq]
  cases inR a 1 40 with
  | false => rfl
  | true =>
    simp only [bnd]
    rw [if_neg (show ¬ b2i true = 0 by decide +kernel), if_neg (show ¬ b2i true = 0 by decide +kernel), within_eq, within_eq]
    cases inR b (-1) 3 with
    | false => rfl
    | true =>
      simp only []
      rw [if_neg (show ¬ b2i true = 0 by decide +kernel), if_neg (show ¬ b2i true = 0 by decide +kernel)]
      refine w33_ _ _ _ _ (fun c => ?_) _ _ _
      by_cases h1 : b = -1
      · rw [if_pos h1, if_pos h1]; rfl
      · rw [if_neg h1, if_neg h1]
        by_cases h2 : c ≤ b
        · rw [if_pos h2, if_pos h2]; rfl
        · rw [if_neg h2, if_neg h2]
          cases inb 160 ((a - 1) * 4 + b) <;> rfl
def chkW_ (n : Nat) : Bool := match wsr_ n 5 1 with
  | none => false
  | some (K, st) => decide (st.length = K) && decide (K ≤ 4) && decide ((fX9_weights (nI n) (-1) s0_).map (fun q => q.1) = some (nI K)) && (List.range 4).all (fun i => decide ((fX9_weights (nI n) (nI i) s0_).map (fun q => q.1) = some (if i < K then nI (cAt_ st i) else -1)))
theorem chkW_ok : ∀ n, n < 41 → 1 ≤ n → chkW_ n = true := by decide +kernel
theorem weights_v (a b : Int32) : ∃ r : Int32, (∀ s, fX9_weights a b s = some (r, s)) ∧ ∀ s, I10_ s → wp_ (fX10_weights a b s) (fun q => q.1 = r ∧ K10_ s q.2) := by
  cases h1 : inR a 1 40 with
  | false =>
    refine ⟨-1, fun s => ?_, fun s hs => ?_⟩
    · unfold fX9_weights
      rw [within_eq, h1]
      rfl
    · unfold fX10_weights
      refine wp_bnd_e (isIn_eq _ _ _ _) ?_
      rw [h1]
      exact wp_if_i (fun _ => wp_some_i ⟨rfl, K10_.rf hs⟩) (fun e => absurd rfl e)
  | true =>
    obtain ⟨n, hn1, hn, rfl⟩ := n_of_in h1
    have hc := chkW_ok n hn hn1
    unfold chkW_ at hc
    cases hw : wsr_ n 5 1 with
    | none => rw [hw] at hc; cases hc
    | some q =>
      obtain ⟨K, st⟩ := q
      rw [hw] at hc
      simp only [Bool.and_eq_true, decide_eq_true_eq, List.all_eq_true, List.mem_range] at hc
      obtain ⟨⟨⟨hl, hK⟩, hA⟩, hB⟩ := hc
      refine ⟨if b < -1 then -1 else if b = -1 then nI K else if nI K ≤ b then -1 else nI (cAt_ st (ix b)), fun s => ?_, fun s hs => ?_⟩
      · rw [weights9_s _ _ s s0_]
        have q1 : (-1 : Int32).toInt = -1 := rfl
        have q3 : (3 : Int32).toInt = 3 := rfl
        cases h2 : inR b (-1) 3 with
        | false =>
          have e : fX9_weights (nI n) b s0_ = some (-1, s0_) := by
            unfold fX9_weights
            rw [within_eq, h1, bnd_p, b2i_t, if_neg one_n0, within_eq, h2, bnd_p, b2i_f, if_pos rfl]
          rw [e]
          by_cases g1 : b < -1
          · rw [if_pos g1]; rfl
          · rw [if_neg g1]
            rw [Int32.lt_iff_toInt_lt] at g1
            have g2 : 3 < b.toInt := by
              have : ¬ inR b (-1) 3 = true := by rw [h2]; decide
              rw [inR_iff] at this
              omega
            have g3 : ¬ b = -1 := fun e => by rw [e] at g2; omega
            have g4 : nI K ≤ b := by
              rw [Int32.le_iff_toInt_le, nI_toInt (by omega)]
              omega
            rw [if_neg g3, if_pos g4]; rfl
        | true =>
          obtain ⟨g1, g2⟩ := inR_iff.mp h2
          have g3 : ¬ b < -1 := by rw [Int32.lt_iff_toInt_lt]; omega
          rw [if_neg g3]
          by_cases g4 : b = -1
          · rw [if_pos g4]
            subst g4
            cases e : fX9_weights (nI n) (-1) s0_ with
            | none => rw [e] at hA; cases hA
            | some q =>
              rw [e] at hA
              simp only [Option.map_some, Option.some.injEq] at hA
              rw [← hA]; rfl
          · rw [if_neg g4]
            have g5 : ¬ b.toInt = -1 := fun e => g4 (Int32.toInt_inj.mp (by omega))
            obtain ⟨i, hi, rfl⟩ : ∃ i, i < 4 ∧ b = nI i := ⟨b.toInt.toNat, by omega, Int32.toInt_inj.mp (by rw [nI_toInt (by omega)]; omega)⟩
            have hBi := hB i hi
            cases e : fX9_weights (nI n) (nI i) s0_ with
            | none => rw [e] at hBi; cases hBi
            | some q =>
              rw [e] at hBi
              simp only [Option.map_some, Option.some.injEq] at hBi
              rw [ix_nI (by omega)]
              show some (q.1, s) = _
              rw [hBi]
              by_cases g6 : i < K
              · rw [if_pos g6, if_neg (nI_ge g6 (by omega))]
              · rw [if_neg g6, if_pos (nI_le (by omega) (by omega))]
      · obtain ⟨t, f1, f2, e10⟩ := weights10 n hn1 (by omega) K st (by omega) hw hl b s
        rw [e10]
        exact wp_some_i ⟨rfl, k10_w hs f1 f2⟩
