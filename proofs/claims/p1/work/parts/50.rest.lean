/-! rest on a fresh object: nothing lies, the wind alone turns the beam -/
def wX_ (x : Int32) : Int32 := (x - x / 19 * 19) - 9
def nX_ (x : Int32) : Int32 := ((x * 167) + 43) - ((x * 167) + 43) / 30089 * 30089
def stl_ (x : Int32) : Bool := decide (wX_ x = 0)
def row_ (b : Bool) (r : Int32) : Int32 := match b with
  | true => r + 1
  | false => 0
theorem wX_bd (x : Int32) : -27 ≤ (wX_ x).toInt ∧ (wX_ x).toInt ≤ 9 := by
  have hx1 := Int32.le_toInt x
  have hx2 := Int32.toInt_lt x
  have h19 : (19 : Int32).toInt = 19 := rfl
  have h9 : (9 : Int32).toInt = 9 := rfl
  have hm := Int.mul_tdiv_add_tmod x.toInt 19
  have hr1 := Int.tmod_lt_of_pos x.toInt (show (0 : Int) < 19 by decide)
  have hr2 := Int.lt_tmod_of_pos x.toInt (show (0 : Int) < 19 by decide)
  have hs : (0 ≤ x.toInt → 0 ≤ x.toInt.tmod 19) ∧ (x.toInt ≤ 0 → x.toInt.tmod 19 ≤ 0) := by
    refine ⟨fun h => Int.tmod_nonneg 19 h, fun h => ?_⟩
    have h1 : 0 ≤ (-x.toInt).tmod 19 := Int.tmod_nonneg 19 (by omega)
    rw [Int.neg_tmod] at h1
    omega
  have e1 : (x / 19).toInt = x.toInt.tdiv 19 := by
    rw [Int32.toInt_div, h19]
    exact Int.bmod_eq_of_le (by omega) (by omega)
  have e2 : (x / 19 * 19).toInt = x.toInt.tdiv 19 * 19 := by
    rw [Int32.toInt_mul, e1, h19]
    exact Int.bmod_eq_of_le (by omega) (by omega)
  have e3 : (x - x / 19 * 19).toInt = x.toInt - x.toInt.tdiv 19 * 19 := by
    rw [Int32.toInt_sub, e2]
    exact Int.bmod_eq_of_le (by omega) (by omega)
  have e4 : (wX_ x).toInt = x.toInt - x.toInt.tdiv 19 * 19 - 9 := by
    unfold wX_
    rw [Int32.toInt_sub, e3, h9]
    exact Int.bmod_eq_of_le (by omega) (by omega)
  omega
theorem w10 (x : Int32) : (wX_ x * 10).toInt = (wX_ x).toInt * 10 := by
  have := wX_bd x
  have h10 : (10 : Int32).toInt = 10 := rfl
  rw [Int32.toInt_mul, h10]
  exact Int.bmod_eq_of_le (by omega) (by omega)
theorem stl_iff (x : Int32) : stl_ x = true ↔ (wX_ x).toInt = 0 := by
  unfold stl_
  rw [decide_eq_true_iff]
  constructor
  · intro h; rw [h]; rfl
  · intro h; exact Int32.toInt_inj.mp h
theorem lean_w (x : Int32) (s : Sg) : ∃ r, fX9_leaning (wX_ x * 10) 0 s = some (r, s) ∧ (stl_ x = true → r = 0) ∧ (stl_ x = false → ¬ r = 0) := by
  have hb := wX_bd x
  have e := w10 x
  have h0 : (0 : Int32).toInt = 0 := rfl
  unfold fX9_leaning
  by_cases h1 : wX_ x * 10 ≤ 0
  · rw [if_pos h1]
    by_cases h2 : (-0 : Int32) ≤ wX_ x * 10
    · rw [if_pos h2]
      refine ⟨0, rfl, fun _ => rfl, fun h => ?_⟩
      rw [Int32.le_iff_toInt_le] at h1 h2
      rw [show (-0 : Int32).toInt = 0 from rfl] at h2
      have := (stl_iff x).mpr (by omega)
      rw [h] at this
      cases this
    · rw [if_neg h2]
      refine ⟨2, rfl, fun h => ?_, fun _ => by decide +kernel⟩
      exfalso
      have := (stl_iff x).mp h
      apply h2
      rw [Int32.le_iff_toInt_le, show (-0 : Int32).toInt = 0 from rfl]
      omega
  · rw [if_neg h1]
    refine ⟨1, rfl, fun h => ?_, fun _ => by decide +kernel⟩
    exfalso
    have := (stl_iff x).mp h
    apply h1
    rw [Int32.le_iff_toInt_le]
    omega
theorem beam_w (x : Int32) (s : Sg) : ∃ r, fX10_beamBy (10 * wX_ x) 0 s = some (r, s) ∧ (stl_ x = true → r = 0) ∧ (stl_ x = false → ¬ r = 0) := by
  have hb := wX_bd x
  have e := w10 x
  have h0 : (0 : Int32).toInt = 0 := rfl
  rw [show 10 * wX_ x = wX_ x * 10 from Int32.mul_comm _ _]
  unfold fX10_beamBy fX10_without
  by_cases h1 : 0 ≤ wX_ x * 10
  · rw [if_pos h1, bnd_p]
    by_cases h2 : 0 < wX_ x * 10
    · rw [if_pos h2]
      have h3 : ¬ wX_ x * 10 ≤ 0 := by
        rw [Int32.lt_iff_toInt_lt] at h2
        rw [Int32.le_iff_toInt_le]
        omega
      rw [if_neg h3]
      refine ⟨1, rfl, fun h => ?_, fun _ => by decide +kernel⟩
      exfalso
      have := (stl_iff x).mp h
      rw [Int32.lt_iff_toInt_lt] at h2
      omega
    · rw [if_neg h2]
      refine ⟨0, rfl, fun _ => rfl, fun h => ?_⟩
      rw [Int32.lt_iff_toInt_lt] at h2
      rw [Int32.le_iff_toInt_le] at h1
      have := (stl_iff x).mpr (by omega)
      rw [h] at this
      cases this
  · rw [if_neg h1, bnd_p]
    have h1' := h1
    rw [Int32.le_iff_toInt_le] at h1'
    have e5 : (-(wX_ x * 10)).toInt = -((wX_ x * 10).toInt) := by
      rw [Int32.toInt_neg]
      exact Int.bmod_eq_of_le (by omega) (by omega)
    have h2 : 0 < -(wX_ x * 10) := by
      rw [Int32.lt_iff_toInt_lt, e5]
      omega
    have h3 : wX_ x * 10 ≤ 0 := by
      rw [Int32.le_iff_toInt_le]
      omega
    rw [if_pos h2, if_pos h3]
    refine ⟨2, rfl, fun h => ?_, fun _ => by decide +kernel⟩
    exfalso
    have := (stl_iff x).mp h
    omega
def K9_ (s : Sg) : Prop := ∀ k, k ≠ 6 → k ≠ 19 → gi s k = gi s0_ k
def K10_ (s : Sg) : Prop := gi s 28 = gi s0_ 28
theorem weigh0 (l r : Int32) (s : Sg) (h : gi s 1 6 = 0) : fX4_weigh l r s = fX4_hang 0 0 s := by
  have e : ∀ k_4 : Int32 → Int32 → Sg → Option Sg, lo4 (fX4_weigh_9_b l r k_4) FU 0 0 0 s = k_4 0 0 s := by
    intro k_4
    show fX4_weigh_9_b l r k_4 (lo4 (fX4_weigh_9_b l r k_4) 999999999) 0 0 0 s = k_4 0 0 s
    unfold fX4_weigh_9_b
    exact if_pos (by rw [h]; decide +kernel)
  unfold fX4_weigh
  rw [bv_p, e]
  cases fX4_hang 0 0 s <;> rfl
theorem load0 (p : Int32) (s : Sg) (h : gi s 28 0 = 0) : fX10_load p s = some (0, s) := by
  show fX10_load_4_b p (lo3 (fX10_load_4_b p) 999999999) 0 0 s = some (0, s)
  unfold fX10_load_4_b
  exact if_pos (by rw [show ix 0 = 0 from rfl, h]; decide +kernel)
theorem mom0 (a b z : Int32) : (a * 0 - b * 0) + z = z := by
  rw [Int32.mul_zero, Int32.mul_zero, Int32.sub_self, Int32.zero_add]
def rest_s (l r : Int32) (s : Sg) (w : Int32) (a b : Int32) : Sg := si (si (si (si (si (si s 19 0 a) 19 1 b) 19 2 w) 6 2 0) 6 3 0) 6 4 (w * 10)
theorem hang0 (s : Sg) (w a b : Int32) : fX4_hang 0 0 (si (si (si s 19 0 a) 19 1 b) 19 2 w) = some (rest_s 0 0 s w a b) := by
  unfold fX4_hang rest_s
  rw [bv_p, bv_p, bv_p]
  rw [gsi_eq (σ := si (si (si (si s 19 0 a) 19 1 b) 19 2 w) 6 2 0), gsi_ne (σ := si (si (si (si s 19 0 a) 19 1 b) 19 2 w) 6 2 0) (k := 6) (by decide), gsi_eq, mom0, gsi_k (by decide), gsi_k (by decide), show ix 2 = 2 from rfl, gsi_eq]
theorem rest_K (s : Sg) (w a b : Int32) (h : K9_ s) : K9_ (rest_s 0 0 s w a b) := by
  intro k h1 h2
  unfold rest_s
  rw [gsi_f h1, gsi_f h1, gsi_f h1, gsi_f h2, gsi_f h2, gsi_f h2]
  exact h k h1 h2
theorem rest9_b (a2 : Int32) (k : Int32 → Int32 → Sg → Option (Int32 × Sg)) (rec : Int32 → Int32 → Int32 → Int32 → Int32 → Sg → Option (Int32 × Sg)) (x lv row lg i : Int32) (s : Sg) (hi : ¬ a2 ≤ i) (h : K9_ s) : ∃ t, K9_ t ∧ fX9_rest_53_b a2 k rec x lv row lg i s = rec (nX_ x) (lv + b2i (stl_ x)) (row_ (stl_ x) row) (imax lg (row_ (stl_ x) row)) (i + 1) t := by
  have e16 : ∀ a b w, gi (si (si (si s 19 (ix 0) a) 19 (ix 1) b) 19 (ix 2) w) 1 6 = 0 := fun a b w => by
    rw [gsi_k (by decide), gsi_k (by decide), gsi_k (by decide), h 1 (by decide) (by decide)]; rfl
  have e12 : ∀ w a b, gi (rest_s 0 0 s w a b) 1 2 = 0 := fun w a b => by
    rw [rest_K s w a b h 1 (by decide) (by decide)]; rfl
  have e64 : ∀ w a b, gi (rest_s 0 0 s w a b) 6 4 = w * 10 := fun w a b => gsi_eq
  obtain ⟨r, hr, hr1, hr2⟩ := lean_w x (rest_s 0 0 s (wX_ x) (((gi s 1 3) + i) - ((gi s 1 3) + i) / 24 * 24) (gi s 1 4))
  refine ⟨_, rest_K s (wX_ x) (((gi s 1 3) + i) - ((gi s 1 3) + i) / 24 * 24) (gi s 1 4) h, ?_⟩
  unfold fX9_rest_53_b
  rw [if_neg hi]
  unfold fX4_setAir
  rw [bv_p, bv_p, bv_p, bnv_p, weigh0 _ _ _ (e16 _ _ _)]
  have hh := hang0 s (wX_ x) (((gi s 1 3) + i) - ((gi s 1 3) + i) / 24 * 24) (gi s 1 4)
  rw [show (si (si (si s 19 (ix 0) (gi s 1 3 + i - (gi s 1 3 + i) / 24 * 24)) 19 (ix 1) (gi s 1 4)) 19 (ix 2) (x - x / 19 * 19 - 9)) = (si (si (si s 19 0 (gi s 1 3 + i - (gi s 1 3 + i) / 24 * 24)) 19 1 (gi s 1 4)) 19 2 (wX_ x)) from rfl, hh, bnv_p, e64, e12, hr, bnd_p]
  cases hb : stl_ x with
  | true =>
    rw [hr1 hb]
    rfl
  | false =>
    rw [bv_p, if_neg (hr2 hb)]
    rfl
theorem rest10_b (a2 : Int32) (k : Int32 → Int32 → Sg → Option (Int32 × Sg)) (rec : Int32 → Int32 → Int32 → Int32 → Int32 → Sg → Option (Int32 × Sg)) (x lv row lg i : Int32) (s : Sg) (hi : ¬ a2 ≤ i) (h : K10_ s) : ∃ t, K10_ t ∧ fX10_rest_53_b a2 k rec x lv row lg i s = rec (nX_ x) (lv + b2i (stl_ x)) (row_ (stl_ x) row) (imax lg (row_ (stl_ x) row)) (i + 1) t := by
  obtain ⟨t, ht⟩ : ∃ t, t = si (si (si s 33 0 (((gi s 28 4) + i) - ((gi s 28 4) + i) / 24 * 24)) 33 1 (gi s 28 5)) 33 2 (wX_ x) := ⟨_, rfl⟩
  have hK : K10_ t := by
    unfold K10_
    rw [ht, gsi_f (by decide), gsi_f (by decide), gsi_f (by decide)]
    exact h
  have e0 : gi t 28 0 = 0 := by rw [hK]; rfl
  have e3 : gi t 28 3 = 0 := by rw [hK]; rfl
  obtain ⟨r, hr, hr1, hr2⟩ := beam_w x t
  refine ⟨t, hK, ?_⟩
  unfold fX10_rest_53_b
  rw [if_neg hi, bv_p, bv_p]
  unfold fX10_name
  rw [bv_p, bv_p, bv_p, bnv_p]
  rw [show (si (si (si s 33 (ix 0) (gi s 28 (ix 4) + i - (gi s 28 (ix 4) + i) / 24 * 24)) 33 (ix 1) (gi s 28 (ix 5))) 33 (ix 2) (x - x / 19 * 19 - 9)) = t from ht.symm, load0 _ t e0, bnd_p, load0 _ t e0, bnd_p, mom0, show ix 3 = 3 from rfl, e3, show 10 * (x - x / 19 * 19 - 9) = 10 * wX_ x from rfl, hr, bnd_p]
  have hm : ∀ y, (if y ≤ lg then rec (nX_ x) (lv + b2i (stl_ x)) y lg (i + 1) t else rec (nX_ x) (lv + b2i (stl_ x)) y y (i + 1) t) = rec (nX_ x) (lv + b2i (stl_ x)) y (imax lg y) (i + 1) t := by
    intro y
    unfold imax
    by_cases hy : y ≤ lg
    · rw [if_pos hy]
      by_cases hl : lg < y
      · rw [Int32.lt_iff_toInt_lt] at hl
        rw [Int32.le_iff_toInt_le] at hy
        omega
      · rw [if_neg hl]
    · rw [if_neg hy]
      have hl : lg < y := by
        rw [Int32.le_iff_toInt_le] at hy
        rw [Int32.lt_iff_toInt_lt]
        omega
      rw [if_pos hl]
  rw [← hm]
  cases hb : stl_ x with
  | true =>
    rw [hr1 hb]
    rfl
  | false =>
    rw [bv_p, if_neg (hr2 hb)]
    rfl
