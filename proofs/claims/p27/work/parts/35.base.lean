/-! common rows: writes and reads, limits, loops of the tape and of the image -/
def inR (a lo hi : Int32) : Bool := match decide (a < lo) with
  | true => false
  | false => match decide (hi < a) with
    | true => false
    | false => true
theorem within_eq (a lo hi : Int32) (s : Sg) : fX9_within a lo hi s = some (inR a lo hi, s) := by
  unfold fX9_within inR
  by_cases h1 : a < lo
  · simp [h1]
  · by_cases h2 : hi < a
    · simp [h1, h2]
    · simp [h1, h2]
theorem isIn_eq (a lo hi : Int32) (s : Sg) : fX10_isIn a lo hi s = some (inR a lo hi, s) := by
  unfold fX10_isIn inR
  by_cases h1 : a < lo
  · simp [h1]
  · by_cases h2 : hi < a
    · simp [h1, h2]
    · simp [h1, h2]
theorem inR_iff {a lo hi : Int32} : inR a lo hi = true ↔ lo.toInt ≤ a.toInt ∧ a.toInt ≤ hi.toInt := by
  unfold inR
  by_cases h1 : a < lo
  · simp [h1]; rw [Int32.lt_iff_toInt_lt] at h1; omega
  · by_cases h2 : hi < a
    · simp [h1, h2]; rw [Int32.lt_iff_toInt_lt] at h1 h2; omega
    · simp [h1, h2]; rw [Int32.lt_iff_toInt_lt] at h1 h2; omega
theorem in_nI {a : Int32} {N : Nat} (hN : N < 2 ^ 31) (h : inR a 0 (nI N) = true) : ∃ n, n < N + 1 ∧ a = nI n := by
  obtain ⟨h1, h2⟩ := inR_iff.mp h
  rw [nI_toInt hN] at h2
  have h0 : (0 : Int32).toInt = 0 := rfl
  rw [h0] at h1
  refine ⟨a.toInt.toNat, by omega, Int32.toInt_inj.mp ?_⟩
  rw [nI_toInt (by omega)]
  omega
theorem inR_none (a : Int32) : inR a 0 (0 - 1) = false := by
  cases h : inR a 0 (0 - 1) with
  | false => rfl
  | true =>
    obtain ⟨h1, h2⟩ := inR_iff.mp h
    have e1 : (0 : Int32).toInt = 0 := rfl
    have e2 : (0 - 1 : Int32).toInt = -1 := rfl
    omega
theorem some_of {α : Type} {f : Option α} (h : f.isSome = true) : ∃ x, f = some x := Option.isSome_iff_exists.mp h
theorem gsi_ne {σ : Sg} {k i j : Nat} {v : Int32} (h : j ≠ i) : gi (si σ k i v) k j = gi σ k j := by
  rw [gi_si, if_pos rfl]
  exact upd_ne h
theorem gsi_k {σ : Sg} {k k2 i j : Nat} {v : Int32} (h : k2 ≠ k) : gi (si σ k i v) k2 j = gi σ k2 j := by
  rw [gi_si, if_neg h]
theorem gsi_eq {σ : Sg} {k i : Nat} {v : Int32} : gi (si σ k i v) k i = v := by
  rw [gi_si, if_pos rfl]
  exact upd_self
theorem inb_nI {n N : Nat} (h : n < N) (hN : N < 2 ^ 31) : inb N (nI n) = true := by
  unfold inb
  rw [nI_clamp (by omega)]
  have := nI_pos' (n := n) (by omega)
  simp [this, h]
theorem ix_nI {n : Nat} (h : n < 2 ^ 31) : ix (nI n) = n := nI_clamp h
theorem si_snd {σ : Sg} {k j : Nat} {v : Int32} : (si σ k j v).2 = σ.2 := rfl
theorem gsi_f {σ : Sg} {k k2 j : Nat} {v : Int32} (h : k2 ≠ k) : gi (si σ k j v) k2 = gi σ k2 := by
  rw [gi_si, if_neg h]
theorem app_b (a : Int32) (rec3 : Int32 → Sg → Option Sg) (x : Int32) (s : Sg) (n : Nat) (hx : ¬ x < 0) (h : gi s 3 1 = nI n) (hn : n < 300) : ∃ v, fX7_append_3_b a rec3 x s = rec3 (x + (-8)) (si (si s 17 n v) 3 1 (nI (n + 1))) := by
  have e1 : ¬ (300 : Int32) ≤ nI n := by
    have := nI_ge (a := n) (b := 300) hn (by decide)
    exact this
  have e2 : ∀ v, gi (si s 17 n v) 3 1 = nI n := fun v => by rw [gsi_k (by decide)]; exact h
  unfold fX7_append_3_b
  simp only [if_neg hx, h, if_neg e1, inb_nI hn (by decide), chk, bv, ix_nI (show n < 2 ^ 31 by omega), e2, nI_1]
  exact ⟨_, rfl⟩
def tpS (σ τ : Sg) (c : Nat) (j : Nat) (t : Nat) : Prop := (∀ k i, k ≠ t → ¬ (k = c ∧ i = j) → gi τ k i = gi σ k i) ∧ τ.2 = σ.2
theorem tpS.rf {σ : Sg} {c j t : Nat} : tpS σ σ c j t := ⟨fun _ _ _ _ => rfl, rfl⟩
theorem tpS.step {σ τ : Sg} {c j t n : Nat} {v w : Int32} (hc : c ≠ t) (h : tpS σ τ c j t) : tpS σ (si (si τ t n v) c j w) c j t := by
  refine ⟨fun k i h1 h2 => ?_, ?_⟩
  · by_cases hk : k = c
    · subst hk
      have hi : i ≠ j := fun e => h2 ⟨rfl, e⟩
      rw [gsi_ne hi, gsi_k h1]
      exact h.1 k i h1 h2
    · rw [gsi_k hk, gsi_k h1]
      exact h.1 k i h1 h2
  · rw [si_snd, si_snd]
    exact h.2
theorem app_end (a : Int32) (rec3 : Int32 → Sg → Option Sg) (s : Sg) : fX7_append_3_b a rec3 (-8) s = some s := by
  unfold fX7_append_3_b
  exact if_pos (by decide +kernel)
theorem app_ok (a : Int32) (σ : Sg) (n : Nat) (h : gi σ 3 1 = nI n) (hn : n + 4 ≤ 300) : ∃ τ, fX7_append a σ = some τ ∧ gi τ 3 1 = nI (n + 4) ∧ tpS σ τ 3 1 17 := by
  have u : fX7_append a σ = fX7_append_3_b a (fX7_append_3_b a (fX7_append_3_b a (fX7_append_3_b a (fX7_append_3_b a (lo2 (fX7_append_3_b a) 999999995))))) 24 σ := rfl
  rw [u]
  obtain ⟨v1, e1⟩ := app_b a (fX7_append_3_b a (fX7_append_3_b a (fX7_append_3_b a (fX7_append_3_b a (lo2 (fX7_append_3_b a) 999999995))))) 24 σ n (by decide +kernel) h (by omega)
  rw [e1, show (24 + (-8) : Int32) = 16 by decide +kernel]
  obtain ⟨v2, e2⟩ := app_b a (fX7_append_3_b a (fX7_append_3_b a (fX7_append_3_b a (lo2 (fX7_append_3_b a) 999999995)))) 16 (si (si σ 17 n v1) 3 1 (nI (n + 1))) (n + 1) (by decide +kernel) gsi_eq (by omega)
  rw [e2, show (16 + (-8) : Int32) = 8 by decide +kernel]
  obtain ⟨v3, e3⟩ := app_b a (fX7_append_3_b a (fX7_append_3_b a (lo2 (fX7_append_3_b a) 999999995))) 8 (si (si (si (si σ 17 n v1) 3 1 (nI (n + 1))) 17 (n + 1) v2) 3 1 (nI (n + 1 + 1))) (n + 1 + 1) (by decide +kernel) gsi_eq (by omega)
  rw [e3, show (8 + (-8) : Int32) = 0 by decide +kernel]
  obtain ⟨v4, e4⟩ := app_b a (fX7_append_3_b a (lo2 (fX7_append_3_b a) 999999995)) 0 (si (si (si (si (si (si σ 17 n v1) 3 1 (nI (n + 1))) 17 (n + 1) v2) 3 1 (nI (n + 1 + 1))) 17 (n + 1 + 1) v3) 3 1 (nI (n + 1 + 1 + 1))) (n + 1 + 1 + 1) (by decide +kernel) gsi_eq (by omega)
  rw [e4, show (0 + (-8) : Int32) = -8 by decide +kernel]
  exact ⟨_, app_end _ _ _, gsi_eq, (((tpS.rf.step (by decide)).step (by decide)).step (by decide)).step (by decide)⟩
theorem four_b (a : Int32) (rec3 : Int32 → Sg → Option Sg) (x : Int32) (s : Sg) (n : Nat) (hx : ¬ x < 0) (h : gi s 27 4 = nI n) (hn : n < 300) : ∃ v, fX10_four_3_b a rec3 x s = rec3 (x + (-8)) (si (si s 31 n v) 27 4 (nI (n + 1))) := by
  have e2 : ∀ v, gi (si s 31 n v) 27 4 = nI n := fun v => by rw [gsi_k (by decide)]; exact h
  unfold fX10_four_3_b
  simp only [if_neg hx, h, inb_nI hn (by decide), chk, bv, ix_nI (show n < 2 ^ 31 by omega), e2, nI_1]
  exact ⟨_, rfl⟩
theorem four_end (a : Int32) (rec3 : Int32 → Sg → Option Sg) (s : Sg) : fX10_four_3_b a rec3 (-8) s = some s := by
  unfold fX10_four_3_b
  exact if_pos (by decide +kernel)
theorem four_ok (a : Int32) (σ : Sg) (n : Nat) (h : gi σ 27 4 = nI n) (hn : n + 4 ≤ 300) : ∃ τ, fX10_four a σ = some τ ∧ gi τ 27 4 = nI (n + 4) ∧ tpS σ τ 27 4 31 := by
  have u : fX10_four a σ = fX10_four_3_b a (fX10_four_3_b a (fX10_four_3_b a (fX10_four_3_b a (fX10_four_3_b a (lo2 (fX10_four_3_b a) 999999995))))) 24 σ := rfl
  rw [u]
  obtain ⟨v1, e1⟩ := four_b a (fX10_four_3_b a (fX10_four_3_b a (fX10_four_3_b a (fX10_four_3_b a (lo2 (fX10_four_3_b a) 999999995))))) 24 σ n (by decide +kernel) h (by omega)
  rw [e1, show (24 + (-8) : Int32) = 16 by decide +kernel]
  obtain ⟨v2, e2⟩ := four_b a (fX10_four_3_b a (fX10_four_3_b a (fX10_four_3_b a (lo2 (fX10_four_3_b a) 999999995)))) 16 (si (si σ 31 n v1) 27 4 (nI (n + 1))) (n + 1) (by decide +kernel) gsi_eq (by omega)
  rw [e2, show (16 + (-8) : Int32) = 8 by decide +kernel]
  obtain ⟨v3, e3⟩ := four_b a (fX10_four_3_b a (fX10_four_3_b a (lo2 (fX10_four_3_b a) 999999995))) 8 (si (si (si (si σ 31 n v1) 27 4 (nI (n + 1))) 31 (n + 1) v2) 27 4 (nI (n + 1 + 1))) (n + 1 + 1) (by decide +kernel) gsi_eq (by omega)
  rw [e3, show (8 + (-8) : Int32) = 0 by decide +kernel]
  obtain ⟨v4, e4⟩ := four_b a (fX10_four_3_b a (lo2 (fX10_four_3_b a) 999999995)) 0 (si (si (si (si (si (si σ 31 n v1) 27 4 (nI (n + 1))) 31 (n + 1) v2) 27 4 (nI (n + 1 + 1))) 31 (n + 1 + 1) v3) 27 4 (nI (n + 1 + 1 + 1))) (n + 1 + 1 + 1) (by decide +kernel) gsi_eq (by omega)
  rw [e4, show (0 + (-8) : Int32) = -8 by decide +kernel]
  exact ⟨_, four_end _ _ _, gsi_eq, (((tpS.rf.step (by decide)).step (by decide)).step (by decide)).step (by decide)⟩
theorem feed9_ok (a1 a2 a3 a4 a5 : Int32) (σ : Sg) (n : Nat) (h : gi σ 3 1 = nI n) (hn : n + 20 ≤ 300) : ∃ τ, fX9_feed a1 a2 a3 a4 a5 σ = some (nI (n + 20), τ) ∧ gi τ 3 1 = nI (n + 20) ∧ tpS σ τ 3 1 17 := by
  have e0 : gi σ 3 1 + 20 ≤ 300 := by
    rw [h]
    have := nI_le (a := n + 20) (b := 300) hn (by decide)
    rw [← nI_add] at this
    exact this
  unfold fX9_feed
  rw [if_pos e0]
  obtain ⟨t1, e1, g1, w1⟩ := app_ok a1 σ n h (by omega)
  obtain ⟨t2, e2, g2, w2⟩ := app_ok a2 t1 _ g1 (by omega)
  obtain ⟨t3, e3, g3, w3⟩ := app_ok a3 t2 _ g2 (by omega)
  obtain ⟨t4, e4, g4, w4⟩ := app_ok a4 t3 _ g3 (by omega)
  obtain ⟨t5, e5, g5, w5⟩ := app_ok a5 t4 _ g4 (by omega)
  simp only [e1, e2, e3, e4, e5, bnv, g5]
  refine ⟨t5, rfl, g5, fun k i q1 q2 => ?_, ?_⟩
  · rw [w5.1 k i q1 q2, w4.1 k i q1 q2, w3.1 k i q1 q2, w2.1 k i q1 q2, w1.1 k i q1 q2]
  · rw [w5.2, w4.2, w3.2, w2.2, w1.2]
theorem feed10_ok (a1 a2 a3 a4 a5 : Int32) (σ : Sg) (n : Nat) (h : gi σ 27 4 = nI n) (hn : n + 20 ≤ 300) : ∃ τ, fX10_feed a1 a2 a3 a4 a5 σ = some (nI (n + 20), τ) ∧ gi τ 27 4 = nI (n + 20) ∧ tpS σ τ 27 4 31 := by
  have e0 : gi σ 27 4 + 20 ≤ 300 := by
    rw [h]
    have := nI_le (a := n + 20) (b := 300) hn (by decide)
    rw [← nI_add] at this
    exact this
  unfold fX10_feed
  rw [if_pos e0]
  obtain ⟨t1, e1, g1, w1⟩ := four_ok a1 σ n h (by omega)
  obtain ⟨t2, e2, g2, w2⟩ := four_ok a2 t1 _ g1 (by omega)
  obtain ⟨t3, e3, g3, w3⟩ := four_ok a3 t2 _ g2 (by omega)
  obtain ⟨t4, e4, g4, w4⟩ := four_ok a4 t3 _ g3 (by omega)
  obtain ⟨t5, e5, g5, w5⟩ := four_ok a5 t4 _ g4 (by omega)
  simp only [e1, e2, e3, e4, e5, bnv, g5]
  refine ⟨t5, rfl, g5, fun k i q1 q2 => ?_, ?_⟩
  · rw [w5.1 k i q1 q2, w4.1 k i q1 q2, w3.1 k i q1 q2, w2.1 k i q1 q2, w1.1 k i q1 q2]
  · rw [w5.2, w4.2, w3.2, w2.2, w1.2]
theorem copy_i_ok : ∀ (d m : Nat) (s : Sg) (n : Nat), m + d = 720 → d < n → ∃ t, lo2 fX10_copy_i_2_b n (nI m) s = some t ∧ (∀ j, m ≤ j → j < 720 → gi t 29 j = gi s 28 j) ∧ (∀ j, j < m ∨ 720 ≤ j → gi t 29 j = gi s 29 j) ∧ (∀ k, k ≠ 29 → gi t k = gi s k) ∧ t.2 = s.2 := by
  intro d
  induction d with
  | zero =>
    intro m s n hm hn
    obtain ⟨n, rfl⟩ : ∃ q, n = q + 1 := ⟨n - 1, by omega⟩
    refine ⟨s, ?_, fun j h1 h2 => by omega, fun _ _ => rfl, fun _ _ => rfl, rfl⟩
    show fX10_copy_i_2_b (lo2 fX10_copy_i_2_b n) (nI m) s = some s
    unfold fX10_copy_i_2_b
    exact if_pos (nI_le (a := 720) (by omega) (by omega))
  | succ d ih =>
    intro m s n hm hn
    obtain ⟨n, rfl⟩ : ∃ q, n = q + 1 := ⟨n - 1, by omega⟩
    obtain ⟨t, e, g1, g2, g3, g4⟩ := ih (m + 1) (si s 29 m (gi s 28 m)) n (by omega) (by omega)
    refine ⟨t, ?_, fun j h1 h2 => ?_, fun j h1 => ?_, fun k hk => ?_, ?_⟩
    · show fX10_copy_i_2_b (lo2 fX10_copy_i_2_b n) (nI m) s = some t
      rw [← e]
      unfold fX10_copy_i_2_b
      have e1 : ¬ (720 : Int32) ≤ nI m := nI_ge (a := m) (b := 720) (by omega) (by decide)
      simp only [if_neg e1, inb_nI (show m < 720 by omega) (by decide), chk, bv, ix_nI (show m < 2 ^ 31 by omega), nI_1]
    · by_cases hj : j = m
      · subst hj
        rw [g2 j (by omega), gsi_eq]
      · rw [g1 j (by omega) h2, gsi_k (by decide)]
    · rw [g2 j (by omega), gsi_ne (by omega)]
    · rw [g3 k hk, gsi_f hk]
    · rw [g4, si_snd]
theorem copy_b_ok : ∀ (d m : Nat) (s : Sg) (n : Nat), m + d = 720 → d < n → ∃ t, lo2 fX10_copy_b_2_b n (nI m) s = some t ∧ (∀ j, m ≤ j → j < 720 → gi t 28 j = gi s 29 j) ∧ (∀ j, j < m ∨ 720 ≤ j → gi t 28 j = gi s 28 j) ∧ (∀ k, k ≠ 28 → gi t k = gi s k) ∧ t.2 = s.2 := by
  intro d
  induction d with
  | zero =>
    intro m s n hm hn
    obtain ⟨n, rfl⟩ : ∃ q, n = q + 1 := ⟨n - 1, by omega⟩
    refine ⟨s, ?_, fun j h1 h2 => by omega, fun _ _ => rfl, fun _ _ => rfl, rfl⟩
    show fX10_copy_b_2_b (lo2 fX10_copy_b_2_b n) (nI m) s = some s
    unfold fX10_copy_b_2_b
    exact if_pos (nI_le (a := 720) (by omega) (by omega))
  | succ d ih =>
    intro m s n hm hn
    obtain ⟨n, rfl⟩ : ∃ q, n = q + 1 := ⟨n - 1, by omega⟩
    obtain ⟨t, e, g1, g2, g3, g4⟩ := ih (m + 1) (si s 28 m (gi s 29 m)) n (by omega) (by omega)
    refine ⟨t, ?_, fun j h1 h2 => ?_, fun j h1 => ?_, fun k hk => ?_, ?_⟩
    · show fX10_copy_b_2_b (lo2 fX10_copy_b_2_b n) (nI m) s = some t
      rw [← e]
      unfold fX10_copy_b_2_b
      have e1 : ¬ (720 : Int32) ≤ nI m := nI_ge (a := m) (b := 720) (by omega) (by decide)
      simp only [if_neg e1, inb_nI (show m < 720 by omega) (by decide), chk, bv, ix_nI (show m < 2 ^ 31 by omega), nI_1]
    · by_cases hj : j = m
      · subst hj
        rw [g2 j (by omega), gsi_eq]
      · rw [g1 j (by omega) h2, gsi_k (by decide)]
    · rw [g2 j (by omega), gsi_ne (by omega)]
    · rw [g3 k hk, gsi_f hk]
    · rw [g4, si_snd]
theorem bv_p {α β : Type} (a : α) (k : α → β) : bv a k = k a := Eq.trans (Eq.refl _) (Eq.refl _)
theorem bnd_p {α β : Type} (r : α) (s : Sg) (k : α → Sg → Option β) : bnd (some (r, s)) k = k r s := Eq.trans (Eq.refl _) (Eq.refl _)
theorem bnv_p {β : Type} (s : Sg) (k : Sg → Option β) : bnv (some s) k = k s := Eq.trans (Eq.refl _) (Eq.refl _)
theorem chk_p {α : Type} (f : Option α) : chk true f = f := Eq.trans (Eq.refl _) (Eq.refl _)
theorem b2i_t : b2i true = 1 := rfl
theorem b2i_f : b2i false = 0 := rfl
theorem one_n0 : ¬ ((1 : Int32) = 0) := by decide +kernel
