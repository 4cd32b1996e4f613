/-! weights: the rows of what can be made are bits of a number -/
def mk_ (r w : Nat) : Nat := (r ||| (r <<< w) ||| (r >>> w)) % 2 ^ 1001
def pcN_ (r : Nat) : Nat → Nat
  | 0 => 0
  | n + 1 => pcN_ r n + (r.testBit n).toNat
def rowR_ (s : Sg) (j r : Nat) : Prop := r < 2 ^ 1001 ∧ ∀ v, v < 1001 → gi s 46 (1001 * j + v) = b2i (r.testBit v)
theorem nI_mul (a b : Nat) : nI a * nI b = nI (a * b) := (Int32.ofNat_mul a b).symm
theorem nI_sub {a b : Nat} (h : b ≤ a) : nI a - nI b = nI (a - b) := by
  have e : nI a = nI (a - b) + nI b := by rw [nI_add]; congr 1; omega
  rw [e]
  exact Int32.add_sub_cancel _ _
theorem b2i_0 (b : Bool) : (b2i b = 0) = (b = false) := by
  cases b
  · simp [b2i]
  · simp [b2i]
theorem nar_b (b : Bool) : vp_nar .boolean (b2i b) = b2i b := by cases b <;> decide +kernel
theorem b2i_nI (b : Bool) : b2i b = nI b.toNat := by cases b <;> rfl
theorem mk_lt (r w : Nat) : mk_ r w < 2 ^ 1001 := Nat.mod_lt _ (Nat.two_pow_pos _)
theorem mk_bit (r w v : Nat) (hr : r < 2 ^ 1001) (hv : v < 1001) : (mk_ r w).testBit v = (r.testBit v || (decide (w ≤ v) && r.testBit (v - w)) || (decide (v + w < 1001) && r.testBit (v + w))) := by
  unfold mk_
  rw [Nat.testBit_mod_two_pow, Nat.testBit_or, Nat.testBit_or, Nat.testBit_shiftLeft, Nat.testBit_shiftRight]
  have h1 : decide (v < 1001) = true := decide_eq_true hv
  rw [h1, Bool.true_and, Nat.add_comm w v]
  by_cases h : v + w < 1001
  · rw [decide_eq_true h, Bool.true_and]
  · rw [decide_eq_false h, Bool.false_and]
    have : r.testBit (v + w) = false := Nat.testBit_lt_two_pow (Nat.lt_of_lt_of_le hr (Nat.pow_le_pow_right (by decide) (by omega)))
    rw [this]
theorem makes_b (j w v : Nat) (hj : j < 5) (hw : w < 1001) (hv : v < 1001) (r : Nat) (s : Sg) (hr : rowR_ s j r) (c : Int32) (rec5 : Int32 → Int32 → Sg → Option (Int32 × Sg)) :
    fX10_makes_5_b (nI j) (nI w) rec5 c (nI v) s = rec5 (c + b2i ((mk_ r w).testBit v)) (nI (v + 1)) (si s 46 (1001 * (j + 1) + v) (b2i ((mk_ r w).testBit v))) := by
  have e0 : ¬ (1001 : Int32) ≤ nI v := nI_ge (a := v) (b := 1001) hv (by decide)
  have e1 : (1001 : Int32) * nI j + nI v = nI (1001 * j + v) := by rw [show (1001 : Int32) = nI 1001 from rfl, nI_mul, nI_add]
  have e2 : (1001 : Int32) * (nI j + 1) + nI v = nI (1001 * (j + 1) + v) := by rw [nI_1, show (1001 : Int32) = nI 1001 from rfl, nI_mul, nI_add]
  have e3 : nI (1001 * j + v) + nI w = nI (1001 * j + v + w) := nI_add _ _
  have i1 : inb 6006 (nI (1001 * j + v)) = true := inb_nI (by omega) (by decide)
  have i2 : inb 6006 (nI (1001 * (j + 1) + v)) = true := inb_nI (by omega) (by decide)
  have x1 : ix (nI (1001 * j + v)) = 1001 * j + v := ix_nI (by omega)
  have x2 : ix (nI (1001 * (j + 1) + v)) = 1001 * (j + 1) + v := ix_nI (by omega)
  have g1 : gi s 46 (1001 * j + v) = b2i (r.testBit v) := hr.2 v hv
  have M := mk_bit r w v hr.1 hv
  have fin : ∀ y : Bool, (if y = false then rec5 (c + b2i false) (nI v + 1) (si s 46 (1001 * (j + 1) + v) (b2i y)) else rec5 (c + b2i true) (nI v + 1) (si s 46 (1001 * (j + 1) + v) (b2i y))) = rec5 (c + b2i y) (nI (v + 1)) (si s 46 (1001 * (j + 1) + v) (b2i y)) := by
    intro y
    rw [nI_1]
    cases y <;> rfl
  unfold fX10_makes_5_b
  simp only [bv, e0, if_false, e1, i1, chk, e2, i2, x1, x2, g1, nar_b, b2i_0, fin, e3]
  cases hb0 : r.testBit v with
  | true =>
    rw [M, hb0]
    simp
  | false =>
    rw [M, hb0]
    simp only [if_true, Bool.false_or]
    by_cases h1 : w ≤ v
    · have n1 : ¬ nI v < nI w := nI_nlt h1 (by omega)
      have e4 : nI (1001 * j + v) - nI w = nI (1001 * j + (v - w)) := by rw [nI_sub (by omega)]; congr 1; omega
      have i4 : inb 6006 (nI (1001 * j + (v - w))) = true := inb_nI (by omega) (by decide)
      have x4 : ix (nI (1001 * j + (v - w))) = 1001 * j + (v - w) := ix_nI (by omega)
      have g4 : gi s 46 (1001 * j + (v - w)) = b2i (r.testBit (v - w)) := hr.2 (v - w) (by omega)
      simp only [n1, if_false, e4, i4, x4, g4, b2i_0, decide_eq_true h1, Bool.true_and]
      cases hb1 : r.testBit (v - w) with
      | true => simp
      | false =>
        simp only [if_true, Bool.false_or, nI_add]
        by_cases h2 : v + w < 1001
        · have n2 : ¬ (1001 : Int32) ≤ nI (v + w) := nI_ge (a := v + w) (b := 1001) h2 (by decide)
          have i5 : inb 6006 (nI (1001 * j + v + w)) = true := inb_nI (by omega) (by decide)
          have x5 : ix (nI (1001 * j + v + w)) = 1001 * j + (v + w) := by rw [ix_nI (by omega)]; omega
          have g5 : gi s 46 (1001 * j + (v + w)) = b2i (r.testBit (v + w)) := hr.2 (v + w) h2
          simp only [n2, if_false, i5, x5, g5, b2i_0, decide_eq_true h2, Bool.true_and]
          cases r.testBit (v + w) <;> simp [nI_1]
        · have n2 : (1001 : Int32) ≤ nI (v + w) := nI_le (a := 1001) (by omega) (by omega)
          simp only [n2, if_true, decide_eq_false h2, Bool.false_and, nI_1]
    · have n1 : nI v < nI w := nI_lt (by omega) (by omega)
      simp only [n1, if_true, decide_eq_false h1, Bool.false_and, Bool.false_or, nI_add]
      by_cases h2 : v + w < 1001
      · have n2 : ¬ (1001 : Int32) ≤ nI (v + w) := nI_ge (a := v + w) (b := 1001) h2 (by decide)
        have i5 : inb 6006 (nI (1001 * j + v + w)) = true := inb_nI (by omega) (by decide)
        have x5 : ix (nI (1001 * j + v + w)) = 1001 * j + (v + w) := by rw [ix_nI (by omega)]; omega
        have g5 : gi s 46 (1001 * j + (v + w)) = b2i (r.testBit (v + w)) := hr.2 (v + w) h2
        simp only [n2, if_false, i5, x5, g5, b2i_0, decide_eq_true h2, Bool.true_and]
        cases r.testBit (v + w) <;> simp [nI_1]
      · have n2 : (1001 : Int32) ≤ nI (v + w) := nI_le (a := 1001) (by omega) (by omega)
        simp only [n2, if_true, decide_eq_false h2, Bool.false_and, nI_1]
theorem makes_l (j w : Nat) (hj : j < 5) (hw : w < 1001) (r : Nat) : ∀ (d v n : Nat) (s : Sg), v + d = 1001 → d < n → rowR_ s j r → (∀ u, u < v → gi s 46 (1001 * (j + 1) + u) = b2i ((mk_ r w).testBit u)) →
    ∃ t, lo3 (fX10_makes_5_b (nI j) (nI w)) n (nI (pcN_ (mk_ r w) v)) (nI v) s = some (nI (pcN_ (mk_ r w) 1001), t) ∧ rowR_ t (j + 1) (mk_ r w) ∧ (∀ i, i < 1001 * (j + 1) → gi t 46 i = gi s 46 i) ∧ (∀ k, k ≠ 46 → gi t k = gi s k) ∧ t.2 = s.2 := by
  intro d
  induction d with
  | zero =>
    intro v n s hv hn hr hu
    obtain ⟨n, rfl⟩ : ∃ q, n = q + 1 := ⟨n - 1, by omega⟩
    obtain rfl : v = 1001 := by omega
    refine ⟨s, ?_, ⟨mk_lt r w, fun v hv => hu v hv⟩, fun _ _ => rfl, fun _ _ => rfl, rfl⟩
    show fX10_makes_5_b (nI j) (nI w) (lo3 (fX10_makes_5_b (nI j) (nI w)) n) _ (nI 1001) s = _
    unfold fX10_makes_5_b
    exact if_pos (nI_le (a := 1001) (b := 1001) (by omega) (by omega))
  | succ d ih =>
    intro v n s hv hn hr hu
    obtain ⟨n, rfl⟩ : ∃ q, n = q + 1 := ⟨n - 1, by omega⟩
    have hr2 : rowR_ (si s 46 (1001 * (j + 1) + v) (b2i ((mk_ r w).testBit v))) j r := ⟨hr.1, fun u hu2 => by rw [gsi_ne (by omega)]; exact hr.2 u hu2⟩
    obtain ⟨t, e, g1, g2, g3, g4⟩ := ih (v + 1) n (si s 46 (1001 * (j + 1) + v) (b2i ((mk_ r w).testBit v))) (by omega) (by omega) hr2 (fun u hu2 => by
      by_cases h : u = v
      · subst h; exact gsi_eq
      · rw [gsi_ne (by omega)]; exact hu u (by omega))
    refine ⟨t, ?_, g1, fun i hi => ?_, fun k hk => ?_, ?_⟩
    · show fX10_makes_5_b (nI j) (nI w) (lo3 (fX10_makes_5_b (nI j) (nI w)) n) _ (nI v) s = _
      rw [makes_b j w v hj hw (by omega) r s hr]
      rw [b2i_nI, nI_add, ← b2i_nI]
      exact e
    · rw [g2 i hi, gsi_ne (by omega)]
    · rw [g3 k hk, gsi_f hk]
    · rw [g4, si_snd]
theorem makes_ok (j w : Nat) (hj : j < 5) (hw : w < 1001) (r : Nat) (s : Sg) (hr : rowR_ s j r) :
    ∃ t, fX10_makes (nI j) (nI w) s = some (nI (pcN_ (mk_ r w) 1001), t) ∧ rowR_ t (j + 1) (mk_ r w) ∧ (∀ i, i < 1001 * (j + 1) → gi t 46 i = gi s 46 i) ∧ (∀ k, k ≠ 46 → gi t k = gi s k) ∧ t.2 = s.2 :=
  makes_l j w hj hw r 1001 0 FU s (by omega) (by unfold FU; omega) hr (fun u h => by omega)
def all_ (r : Nat) : Nat → Nat → Bool
  | 0, _ => true
  | d + 1, v => match r.testBit (500 + v) with
    | true => all_ r d (v + 1)
    | false => false
theorem isAll_l (k n : Nat) (hk : k < 6) (hn : n < 400) (r : Nat) (s : Sg) (hr : rowR_ s k r) : ∀ (d v f : Nat), v + d = n + 1 → d < f → lo1 (fX10_isAll_2_b (nI k) (nI n) s) f (nI v) = some (all_ r d v, s) := by
  intro d
  induction d with
  | zero =>
    intro v f hv hf
    obtain ⟨f, rfl⟩ : ∃ q, f = q + 1 := ⟨f - 1, by omega⟩
    show fX10_isAll_2_b (nI k) (nI n) s (lo1 (fX10_isAll_2_b (nI k) (nI n) s) f) (nI v) = _
    unfold fX10_isAll_2_b
    exact if_pos (nI_lt (by omega) (by omega))
  | succ d ih =>
    intro v f hv hf
    obtain ⟨f, rfl⟩ : ∃ q, f = q + 1 := ⟨f - 1, by omega⟩
    show fX10_isAll_2_b (nI k) (nI n) s (lo1 (fX10_isAll_2_b (nI k) (nI n) s) f) (nI v) = _
    have e0 : ¬ nI n < nI v := nI_nlt (by omega) (by omega)
    have e1 : (1001 : Int32) * nI k + 500 + nI v = nI (1001 * k + (500 + v)) := by
      rw [show (1001 : Int32) = nI 1001 from rfl, nI_mul, show (500 : Int32) = nI 500 from rfl, nI_add, nI_add, Nat.add_assoc]
    have i1 : inb 6006 (nI (1001 * k + (500 + v))) = true := inb_nI (by omega) (by decide)
    have x1 : ix (nI (1001 * k + (500 + v))) = 1001 * k + (500 + v) := ix_nI (by omega)
    have g1 : gi s 46 (1001 * k + (500 + v)) = b2i (r.testBit (500 + v)) := hr.2 (500 + v) (by omega)
    have ih2 := ih (v + 1) f (by omega) (by omega)
    generalize lo1 (fX10_isAll_2_b (nI k) (nI n) s) f = rc at ih2 ⊢
    unfold fX10_isAll_2_b
    rw [if_neg e0, e1, i1, chk_p, x1, g1, bv_p, nI_1, ih2]
    show _ = some ((match r.testBit (500 + v) with | true => all_ r d (v + 1) | false => false), s)
    cases r.testBit (500 + v) with
    | true => rw [if_neg (by decide +kernel)]
    | false => rw [if_pos (by decide +kernel)]
theorem isAll_ok (k n : Nat) (hk : k < 6) (hn : n < 400) (r : Nat) (s : Sg) (hr : rowR_ s k r) : fX10_isAll (nI k) (nI n) s = some (all_ r n 1, s) :=
  isAll_l k n hk hn r s hr n 1 FU (by omega) (by unfold FU; omega)
theorem thrice (k : Nat) (hk : k < 7) (kk : Int32 → Option (Bool × Sg)) : ∀ (d i f : Nat) (m : Nat), i + d = k → d < f → lo2 (fX10_chooses_94_b (nI k) kk) f (nI m) (nI i) = kk (nI (m * 3 ^ d)) := by
  intro d
  induction d with
  | zero =>
    intro i f m hi hf
    obtain ⟨f, rfl⟩ : ∃ q, f = q + 1 := ⟨f - 1, by omega⟩
    show fX10_chooses_94_b (nI k) kk (lo2 (fX10_chooses_94_b (nI k) kk) f) (nI m) (nI i) = _
    unfold fX10_chooses_94_b
    rw [if_pos (nI_le (by omega) (by omega)), Nat.pow_zero, Nat.mul_one]
  | succ d ih =>
    intro i f m hi hf
    obtain ⟨f, rfl⟩ : ∃ q, f = q + 1 := ⟨f - 1, by omega⟩
    show fX10_chooses_94_b (nI k) kk (lo2 (fX10_chooses_94_b (nI k) kk) f) (nI m) (nI i) = _
    have ih2 := ih (i + 1) f (m * 3) (by omega) (by omega)
    generalize lo2 (fX10_chooses_94_b (nI k) kk) f = rc at ih2 ⊢
    unfold fX10_chooses_94_b
    rw [if_neg (nI_ge (by omega) (by omega)), bv_p, bv_p, nI_1, show (3 : Int32) = nI 3 from rfl, nI_mul, ih2, Nat.pow_succ, Nat.mul_assoc, Nat.mul_comm 3]
