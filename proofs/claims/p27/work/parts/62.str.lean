/-! the words of the language: lengths and letters -/
theorem str_len : ∀ i, i < 20 → ((Int32.ofNat (sLv (100 + i + 50))) >>> ((0 : Int32) &&& 31)).toInt = (sLv (100 + i + 50) : Int) ∧ sLv (100 + i + 50) ≤ 6 ∧ (Int32.ofNat (sLv (100 + i + 50))).toInt = (sLv (100 + i + 50) : Int) := by decide +kernel
theorem str_chr : ∀ i, i < 20 → ∀ j, j < sLv (100 + i + 50) → decide (narrow .char (.int ((Int32.toUInt32 ((sBv (100 + i + 50) j) &&& 255) % 65536).toInt32)) = .int ((Int32.toUInt32 ((sBv (100 + i + 50) j) &&& 255) % 65536).toInt32)) = true := by decide +kernel
theorem tJ0_length_8abf5 (q0 : Nat) (s0 : Sg) (h0 : I9_ s0) (hq : 100 ≤ q0 ∧ q0 < 120) : wp_ (fJ0_length_8abf5 q0 s0) (fun q => q.2 = s0 ∧ (q.1.toInt = (sLv (q0 + 50) : Int) ∧ sLv (q0 + 50) ≤ 6)) := by
  obtain ⟨i, rfl⟩ : ∃ i, q0 = 100 + i := ⟨q0 - 100, by omega⟩
  obtain ⟨k1, k2, -⟩ := str_len i (by omega)
  have e : fJ0_coder_7d493 (100 + i) s0 = some (0, s0) := by
    unfold fJ0_coder_7d493
    exact if_neg one_n0
  unfold fJ0_length_8abf5
  rw [e, bnd_p]
  exact wp_some_i ⟨rfl, k1, k2⟩
theorem tJ0_charAt_5068e (q0 : Nat) (a1 : Int32) (s0 : Sg) (h0 : I9_ s0) (hq : 100 ≤ q0 ∧ q0 < 120) (ha : 0 ≤ a1.toInt ∧ a1.toInt < (sLv (q0 + 50) : Int)) : wp_ (fJ0_charAt_5068e q0 a1 s0) (fun q => q.2 = s0) := by
  obtain ⟨i, rfl⟩ : ∃ i, q0 = 100 + i := ⟨q0 - 100, by omega⟩
  obtain ⟨k1, k2, k3⟩ := str_len i (by omega)
  have h00 : (0 : Int32).toInt = 0 := rfl
  have hc : fJ3_checkIndex_8e157 a1 (Int32.ofNat (sLv (100 + i + 50))) s0 = some (a1, s0) := by
    unfold fJ3_checkIndex_8e157
    rw [bv_p, if_neg (by rw [Int32.lt_iff_toInt_lt]; omega), if_pos (by rw [Int32.lt_iff_toInt_lt, k3]; omega)]
  have hx : ix a1 = a1.toInt.toNat := rfl
  have hn := str_chr i (by omega) a1.toInt.toNat (by omega)
  have hl : fJ0_isLatin1_aae02 (100 + i) s0 = some (true, s0) := by
    unfold fJ0_isLatin1_aae02
    rw [if_neg one_n0, if_pos rfl]
  have h1 : fJ1_charAt_3b067 (100 + i + 50) a1 s0 = some ((Int32.toUInt32 ((sBv (100 + i + 50) a1.toInt.toNat) &&& 255) % 65536).toInt32, s0) := by
    unfold fJ1_charAt_3b067 fJ0_checkIndex_df160
    rw [hc, bnd_p, bnv_p, inb_ti ha.1 ha.2, chk_p, hx, hn, chk_p]
  unfold fJ0_charAt_5068e
  rw [hl, bnd_p, b2i_t, if_neg one_n0, h1, bnd_p, hn, chk_p]
  exact wp_some_i rfl
