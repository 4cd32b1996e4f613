theorem one_22 (a1 a2 a3 a4 a5 : Int32) : ∃ t, sp_22 a1 a2 a3 a4 a5 s0_ = some t := by
  unfold sp_22
  cases h1 : inR a1 1 40 with
  | false =>
    unfold fX9_weights fX10_weights
    rw [within_eq, h1, bnd_p, b2i_f, if_pos rfl, bnd_p, isIn_eq, h1, bnd_p, b2i_f, if_pos rfl, bnd_p]
    simp [chk]
  | true =>
    obtain ⟨n, hn1, hn, rfl⟩ : ∃ n, 1 ≤ n ∧ n < 41 ∧ a1 = nI n := by
      obtain ⟨g1, g2⟩ := inR_iff.mp h1
      have e1 : (1 : Int32).toInt = 1 := rfl
      have e2 : (40 : Int32).toInt = 40 := rfl
      exact ⟨a1.toInt.toNat, by omega, by omega, Int32.toInt_inj.mp (by rw [nI_toInt (by omega)]; omega)⟩
    have hc := chkW_ok n hn hn1
    unfold chkW_ at hc
    cases hw : wsr_ n 5 1 with
    | none => rw [hw] at hc; cases hc
    | some q =>
      obtain ⟨K, st⟩ := q
      rw [hw] at hc
      simp only [Bool.and_eq_true, decide_eq_true_eq, List.all_eq_true, List.mem_range] at hc
      obtain ⟨⟨⟨hl, hK⟩, hA⟩, hB⟩ := hc
      have key : ∃ r s1, fX9_weights (nI n) a2 s0_ = some (r, s1) ∧ r = (if a2 < -1 then -1 else if a2 = -1 then nI K else if nI K ≤ a2 then -1 else nI (cAt_ st (ix a2))) := by
        cases h2 : inR a2 (-1) 3 with
        | false =>
          refine ⟨-1, s0_, ?_, ?_⟩
          · unfold fX9_weights
            rw [within_eq, h1, bnd_p, b2i_t, if_neg one_n0, within_eq, h2, bnd_p, b2i_f, if_pos rfl]
          · by_cases g1 : a2 < -1
            · rw [if_pos g1]
            · rw [if_neg g1]
              have q1 : (-1 : Int32).toInt = -1 := rfl
              have q3 : (3 : Int32).toInt = 3 := rfl
              rw [Int32.lt_iff_toInt_lt] at g1
              have g2 : 3 < a2.toInt := by
                have : ¬ inR a2 (-1) 3 = true := by rw [h2]; decide
                rw [inR_iff] at this
                omega
              have g3 : ¬ a2 = -1 := fun e => by rw [e] at g2; omega
              have g4 : nI K ≤ a2 := by
                rw [Int32.le_iff_toInt_le, nI_toInt (by omega)]
                omega
              rw [if_neg g3, if_pos g4]
        | true =>
          obtain ⟨g1, g2⟩ := inR_iff.mp h2
          have q1 : (-1 : Int32).toInt = -1 := rfl
          have q3 : (3 : Int32).toInt = 3 := rfl
          have g3 : ¬ a2 < -1 := by rw [Int32.lt_iff_toInt_lt]; omega
          rw [if_neg g3]
          by_cases g4 : a2 = -1
          · rw [if_pos g4]
            subst g4
            cases e : fX9_weights (nI n) (-1) s0_ with
            | none => rw [e] at hA; cases hA
            | some q =>
              rw [e] at hA
              simp only [Option.map_some, Option.some.injEq] at hA
              exact ⟨q.1, q.2, rfl, hA⟩
          · rw [if_neg g4]
            have g5 : ¬ a2.toInt = -1 := fun e => g4 (Int32.toInt_inj.mp (by omega))
            obtain ⟨i, hi, rfl⟩ : ∃ i, i < 4 ∧ a2 = nI i := ⟨a2.toInt.toNat, by omega, Int32.toInt_inj.mp (by rw [nI_toInt (by omega)]; omega)⟩
            have hBi := hB i hi
            cases e : fX9_weights (nI n) (nI i) s0_ with
            | none => rw [e] at hBi; cases hBi
            | some q =>
              rw [e] at hBi
              simp only [Option.map_some, Option.some.injEq] at hBi
              refine ⟨q.1, q.2, rfl, ?_⟩
              rw [hBi, ix_nI (by omega)]
              by_cases g6 : i < K
              · rw [if_pos g6, if_neg (nI_ge g6 (by omega))]
              · rw [if_neg g6, if_pos (nI_le (by omega) (by omega))]
      obtain ⟨r, s1, e9, er⟩ := key
      obtain ⟨t, -, -, e10⟩ := weights10 n hn1 (by omega) K st (by omega) hw hl a2 s1
      rw [e9, bnd_p, e10, bnd_p, ← er]
      exact ⟨t, by simp [chk]⟩
theorem step0 (w a1 a2 a3 a4 a5 : Int32) : ∃ t, stp_ w a1 a2 a3 a4 a5 s0_ = some t := by
  unfold stp_
  generalize (w &&& 31).toInt.toNat = k
  match k with
  | 0 => exact one_0 a1 a2 a3 a4 a5
  | 1 => exact one_1 a1 a2 a3 a4 a5
  | 2 => exact one_2 a1 a2 a3 a4 a5
  | 3 => exact one_3 a1 a2 a3 a4 a5
  | 4 => exact one_4 a1 a2 a3 a4 a5
  | 5 => exact one_5 a1 a2 a3 a4 a5
  | 6 => exact one_6 a1 a2 a3 a4 a5
  | 7 => exact one_7 a1 a2 a3 a4 a5
  | 8 => exact one_8 a1 a2 a3 a4 a5
  | 9 => exact one_9 a1 a2 a3 a4 a5
  | 10 => exact one_10 a1 a2 a3 a4 a5
  | 11 => exact one_11 a1 a2 a3 a4 a5
  | 12 => exact one_12 a1 a2 a3 a4 a5
  | 13 => exact one_13 a1 a2 a3 a4 a5
  | 14 => exact one_14 a1 a2 a3 a4 a5
  | 15 => exact one_15 a1 a2 a3 a4 a5
  | 16 => exact one_16 a1 a2 a3 a4 a5
  | 17 => exact one_17 a1 a2 a3 a4 a5
  | 18 => exact one_18 a1 a2 a3 a4 a5
  | 19 => exact one_19 a1 a2 a3 a4 a5
  | 20 => exact one_20 a1 a2 a3 a4 a5
  | 21 => exact one_21 a1 a2 a3 a4 a5
  | 22 => exact one_22 a1 a2 a3 a4 a5
  | 23 => exact one_23 a1 a2 a3 a4 a5
  | 24 => exact one_24 a1 a2 a3 a4 a5
  | 25 => exact one_25 a1 a2 a3 a4 a5
  | 26 => exact one_26 a1 a2 a3 a4 a5
  | k + 27 => exact ⟨s0_, rfl⟩
/-- the law from its entry -/
theorem whole_start {p : Program} {e : Env} {s : State} {m : MethodId} {below : List Frame} {meth : Method} {c : Code} (l : Launch) {b L : Nat} {xs : Nat → Int32} (hL : L ≤ 6) (C0 : lw_At p s m meth c b L xs) : W p l e room_1 s m #[Value.ref b] below meth c s.heap [] 0 0 (lw_Z below #[Value.ref b] s) (entryFrame m ([Value.ref b] : List Value).toArray 4) :=
  whole_gen l hL C0 (fun i σ => i = 0 → σ = s0_) (fun _ => rfl) (fun i σ h hi => by
    obtain rfl : i = 0 := by omega
    rw [h rfl]
    obtain ⟨t, ht⟩ := step0 (xs 0) (xs (0 + 1)) (xs (0 + 2)) (xs (0 + 3)) (xs (0 + 4)) (xs (0 + 5))
    exact ⟨t, ht, fun h => absurd h (by decide)⟩)
