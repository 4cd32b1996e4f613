theorem bent9 (a k : Int32) (h1 : inR a 1 999 = true) : fX9_bent a k s0_ = fX9_bent 1 k s0_ := by
  have e9 : ∀ a : Int32, fX9_bearUnknown a s0_ = some s0_ := by
    intro a
    show fX9_bearUnknown_2_b a (lo2 (fX9_bearUnknown_2_b a) 999999999) 0 s0_ = some s0_
    unfold fX9_bearUnknown_2_b
    exact if_pos (by decide +kernel)
  have h2 : inR 1 1 999 = true := by decide +kernel
  unfold fX9_bent
  rw [within_eq, within_eq, h1, h2, bnd_p, bnd_p, b2i_t, if_neg one_n0, if_neg one_n0, within_eq, bnd_p, bnd_p, e9, e9]
theorem bent10 (a k : Int32) (σ : Sg) (h1 : inR a 1 999 = true) (h : gi σ 28 (ix 10) = 0) : fX10_bent a k σ = fX10_bent 1 k σ := by
  have h2 : inR 1 1 999 = true := by decide +kernel
  have e : ∀ (a : Int32) (k_6 : Sg → Option (Int32 × Sg)), lo2 (fX10_bent_24_b a k_6) FU 0 σ = k_6 σ := by
    intro a k_6
    show fX10_bent_24_b a k_6 (lo2 (fX10_bent_24_b a k_6) 999999999) 0 σ = k_6 σ
    unfold fX10_bent_24_b
    exact if_pos (by rw [h]; decide +kernel)
  unfold fX10_bent
  rw [isIn_eq, isIn_eq, h1, h2, bnd_p, bnd_p, b2i_t, if_neg one_n0, if_neg one_n0, isIn_eq, bnd_p, bnd_p, bv_p, bv_p, e, e]
