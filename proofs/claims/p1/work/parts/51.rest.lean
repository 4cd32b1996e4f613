def RS_ : Nat → Int32 → Int32 → Int32 → Int32 → Int32 × Int32
  | 0, _, lv, _, lg => (lv, lg)
  | d + 1, x, lv, row, lg => RS_ d (nX_ x) (lv + b2i (stl_ x)) (row_ (stl_ x) row) (imax lg (row_ (stl_ x) row))
theorem rest9_l (N : Nat) (hN : N < 100) (k : Int32 → Int32 → Sg → Option (Int32 × Sg)) : ∀ (d j n : Nat) (x lv row lg : Int32) (s : Sg), j + d = N → d < n → K9_ s → ∃ t, K9_ t ∧ lo6 (fX9_rest_53_b (nI N) k) n x lv row lg (nI j) s = k (RS_ d x lv row lg).1 (RS_ d x lv row lg).2 t := by
  intro d
  induction d with
  | zero =>
    intro j n x lv row lg s hj hn h
    obtain ⟨n, rfl⟩ : ∃ q, n = q + 1 := ⟨n - 1, by omega⟩
    refine ⟨s, h, ?_⟩
    show fX9_rest_53_b (nI N) k (lo6 (fX9_rest_53_b (nI N) k) n) x lv row lg (nI j) s = k lv lg s
    unfold fX9_rest_53_b
    exact if_pos (nI_le (by omega) (by omega))
  | succ d ih =>
    intro j n x lv row lg s hj hn h
    obtain ⟨n, rfl⟩ : ∃ q, n = q + 1 := ⟨n - 1, by omega⟩
    obtain ⟨t, ht, e⟩ := rest9_b (nI N) k (lo6 (fX9_rest_53_b (nI N) k) n) x lv row lg (nI j) s (nI_ge (by omega) (by omega)) h
    obtain ⟨t2, ht2, e2⟩ := ih (j + 1) n (nX_ x) (lv + b2i (stl_ x)) (row_ (stl_ x) row) (imax lg (row_ (stl_ x) row)) t (by omega) (by omega) ht
    refine ⟨t2, ht2, ?_⟩
    show fX9_rest_53_b (nI N) k (lo6 (fX9_rest_53_b (nI N) k) n) x lv row lg (nI j) s = _
    rw [e, nI_1, e2]
    rfl
theorem rest10_l (N : Nat) (hN : N < 100) (k : Int32 → Int32 → Sg → Option (Int32 × Sg)) : ∀ (d j n : Nat) (x lv row lg : Int32) (s : Sg), j + d = N → d < n → K10_ s → ∃ t, K10_ t ∧ lo6 (fX10_rest_53_b (nI N) k) n x lv row lg (nI j) s = k (RS_ d x lv row lg).1 (RS_ d x lv row lg).2 t := by
  intro d
  induction d with
  | zero =>
    intro j n x lv row lg s hj hn h
    obtain ⟨n, rfl⟩ : ∃ q, n = q + 1 := ⟨n - 1, by omega⟩
    refine ⟨s, h, ?_⟩
    show fX10_rest_53_b (nI N) k (lo6 (fX10_rest_53_b (nI N) k) n) x lv row lg (nI j) s = k lv lg s
    unfold fX10_rest_53_b
    exact if_pos (nI_le (by omega) (by omega))
  | succ d ih =>
    intro j n x lv row lg s hj hn h
    obtain ⟨n, rfl⟩ : ∃ q, n = q + 1 := ⟨n - 1, by omega⟩
    obtain ⟨t, ht, e⟩ := rest10_b (nI N) k (lo6 (fX10_rest_53_b (nI N) k) n) x lv row lg (nI j) s (nI_ge (by omega) (by omega)) h
    obtain ⟨t2, ht2, e2⟩ := ih (j + 1) n (nX_ x) (lv + b2i (stl_ x)) (row_ (stl_ x) row) (imax lg (row_ (stl_ x) row)) t (by omega) (by omega) ht
    refine ⟨t2, ht2, ?_⟩
    show fX10_rest_53_b (nI N) k (lo6 (fX10_rest_53_b (nI N) k) n) x lv row lg (nI j) s = _
    rw [e, nI_1, e2]
    rfl
theorem in_1N {a : Int32} (h : inR a 1 99 = true) : ∃ n, n < 100 ∧ a = nI n := by
  obtain ⟨h1, h2⟩ := inR_iff.mp h
  have e1 : (1 : Int32).toInt = 1 := rfl
  have e2 : (99 : Int32).toInt = 99 := rfl
  refine ⟨a.toInt.toNat, by omega, Int32.toInt_inj.mp ?_⟩
  rw [nI_toInt (by omega)]
  omega
theorem one_23 (a1 a2 a3 a4 a5 : Int32) : ∃ t, sp_23 a1 a2 a3 a4 a5 s0_ = some t := by
  unfold sp_23
  cases h1 : inR a1 0 9999 with
  | false =>
    unfold fX9_rest fX10_rest
    rw [within_eq, h1, bnd_p, b2i_f, if_pos rfl, bnd_p, isIn_eq, h1, bnd_p, b2i_f, if_pos rfl, bnd_p]
    simp [chk]
  | true =>
    cases h2 : inR a2 1 99 with
    | false =>
      unfold fX9_rest fX10_rest
      rw [within_eq, h1, bnd_p, b2i_t, if_neg one_n0, within_eq, h2, bnd_p, b2i_f, if_pos rfl, bnd_p, isIn_eq, h1, bnd_p, b2i_t, if_neg one_n0, isIn_eq, h2, bnd_p, b2i_f, if_pos rfl, bnd_p]
      simp [chk]
    | true =>
      cases h3 : inR a3 0 1 with
      | false =>
        unfold fX9_rest fX10_rest
        rw [within_eq, h1, bnd_p, b2i_t, if_neg one_n0, within_eq, h2, bnd_p, b2i_t, if_neg one_n0, within_eq, h3, bnd_p, b2i_f, if_pos rfl, bnd_p, isIn_eq, h1, bnd_p, b2i_t, if_neg one_n0, isIn_eq, h2, bnd_p, b2i_t, if_neg one_n0, isIn_eq, h3, bnd_p, b2i_f, if_pos rfl, bnd_p]
        simp [chk]
      | true =>
        obtain ⟨N, hN, e2⟩ := in_1N h2
        have r9 : ∃ t, K9_ t ∧ fX9_rest a1 a2 a3 s0_ = some (if a3 = 0 then (RS_ N ((a1 * 7) + 17) 0 0 0).1 else (RS_ N ((a1 * 7) + 17) 0 0 0).2, t) := by
          unfold fX9_rest
          rw [within_eq, h1, bnd_p, b2i_t, if_neg one_n0, within_eq, h2, bnd_p, b2i_t, if_neg one_n0, within_eq, h3, bnd_p, b2i_t, if_neg one_n0, bv_p, bv_p, e2]
          obtain ⟨t, ht, e⟩ := rest9_l N hN (fun (x5_8 : Int32) (x7_9 : Int32) (s_10 : Sg) => if a3 = 0 then some (x5_8, s_10) else some (x7_9, s_10)) N 0 FU ((a1 * 7) + 17) 0 0 0 s0_ (by omega) (by unfold FU; omega) (fun _ _ _ => rfl)
          refine ⟨t, ht, ?_⟩
          rw [show (nI 0 : Int32) = 0 from rfl] at e
          rw [e]
          by_cases h : a3 = 0
          · simp only [if_pos h]
          · simp only [if_neg h]
        obtain ⟨t, ht, e9⟩ := r9
        have r10 : ∃ t2, fX10_rest a1 a2 a3 t = some (if a3 = 0 then (RS_ N ((a1 * 7) + 17) 0 0 0).1 else (RS_ N ((a1 * 7) + 17) 0 0 0).2, t2) := by
          unfold fX10_rest
          rw [isIn_eq, h1, bnd_p, b2i_t, if_neg one_n0, isIn_eq, h2, bnd_p, b2i_t, if_neg one_n0, isIn_eq, h3, bnd_p, b2i_t, if_neg one_n0, bv_p, bv_p, e2]
          obtain ⟨t2, ht2, e⟩ := rest10_l N hN (fun (x5_8 : Int32) (x7_9 : Int32) (s_10 : Sg) => if a3 = 0 then some (x5_8, s_10) else some (x7_9, s_10)) N 0 FU ((a1 * 7) + 17) 0 0 0 t (by omega) (by unfold FU; omega) (ht 28 (by decide) (by decide))
          refine ⟨t2, ?_⟩
          rw [show (nI 0 : Int32) = 0 from rfl] at e
          rw [e]
          by_cases h : a3 = 0
          · simp only [if_pos h]
          · simp only [if_neg h]
        obtain ⟨t2, e10⟩ := r10
        rw [e9, bnd_p, e10, bnd_p]
        simp [chk]
