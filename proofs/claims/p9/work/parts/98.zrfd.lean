/-! bytes fed -/
theorem nar_by (w : Int32) : 0 ≤ (w &&& 255).toInt ∧ (w &&& 255).toInt ≤ 255 ∧ (vp_nar .byte (w.toInt8.toInt32)).toInt = (if (w &&& 255).toInt < 128 then (w &&& 255).toInt else (w &&& 255).toInt - 256) := by
  have e1 : (vp_nar .byte (w.toInt8.toInt32)) = w.toInt8.toInt32.toInt8.toInt32 := rfl
  have e2 : (w &&& 255).toInt = w.toInt % 256 := by
    have h : (w &&& 255).toBitVec.toNat = w.toBitVec.toNat % 256 := by
      show (w.toBitVec &&& 255#32).toNat = _
      rw [BitVec.toNat_and]
      exact Nat.and_two_pow_sub_one_eq_mod w.toBitVec.toNat 8
    have h1 : (w &&& 255).toInt = ((w &&& 255).toBitVec.toNat : Int) := by
      show (w &&& 255).toBitVec.toInt = _
      rw [BitVec.toInt_eq_toNat_of_lt (by rw [h]; omega)]
    have h2 : w.toInt % 256 = ((w.toBitVec.toNat % 256 : Nat) : Int) := by
      show w.toBitVec.toInt % 256 = _
      rw [BitVec.toInt_eq_toNat_cond]
      split <;> omega
    rw [h1, h, h2]
  have e3 : w.toInt8.toInt32.toInt8.toInt32.toInt = (w.toInt.bmod 256) := by
    rw [Int8.toInt_toInt32, Int32.toInt_toInt8, Int8.toInt_toInt32, Int32.toInt_toInt8]
    exact Int.bmod_bmod ..
  rw [e1, e3, e2, Int.bmod_def]
  refine ⟨by omega, by omega, ?_⟩
  split <;> split <;> omega
def ap_ (B : Nat → Int) (n : Nat) (v : Int) : Nat → Int := fun k => if k = n then v else B k
theorem tpc_ap {B : Nat → Int} {n : Nat} {s t : Sg} (w : Int32) (h : TPc_ B n s) (hn : n < 300) (e : t = si (si s 17 n (vp_nar .byte (w.toInt8.toInt32))) 3 1 (nI (n + 1))) : TPc_ (ap_ B n (w &&& 255).toInt) (n + 1) t := by
  obtain ⟨b1, b2, b3⟩ := nar_by w
  refine ⟨by rw [e, gsi_eq], by omega, fun k hk => ?_, fun k hk => ?_⟩
  · unfold ap_
    by_cases hkn : k = n
    · rw [if_pos hkn]
      refine ⟨b1, b2, ?_⟩
      rw [e, gsi_k (by decide), hkn, gsi_eq]
      exact b3
    · rw [if_neg hkn, e, gsi_k (by decide), gsi_ne hkn]
      exact h.2.2.1 k (by omega)
  · unfold ap_
    rw [if_neg (by omega)]
    exact h.2.2.2 k (by omega)
theorem tpm_ap {B : Nat → Int} {n : Nat} {s t : Sg} (w : Int32) (h : TPm_ B n s) (hn : n < 300) (e : t = si (si s 31 n (w &&& 255)) 27 4 (nI (n + 1))) : TPm_ (ap_ B n (w &&& 255).toInt) (n + 1) t := by
  obtain ⟨b1, b2, _⟩ := nar_by w
  refine ⟨by rw [e, gsi_eq], by omega, fun k hk => ?_, fun k hk => ?_⟩
  · unfold ap_
    by_cases hkn : k = n
    · rw [if_pos hkn]
      refine ⟨b1, b2, ?_⟩
      rw [e, gsi_k (by decide), hkn, gsi_eq]
    · rw [if_neg hkn, e, gsi_k (by decide), gsi_ne hkn]
      exact h.2.2.1 k (by omega)
  · unfold ap_
    rw [if_neg (by omega)]
    exact h.2.2.2 k (by omega)
def iv_ (i : Nat) : Int32 := match i with
  | 0 => 24
  | 1 => 16
  | 2 => 8
  | 3 => 0
  | _ => -8
theorem iv_n : ∀ i, i < 4 → ¬ (iv_ i < 0) ∧ iv_ i + (-8) = iv_ (i + 1) := by decide +kernel
def fb_ (B : Nat → Int) (n : Nat) (a : Int32) : Nat → Nat → Int
  | 0 => B
  | i + 1 => ap_ (fb_ B n a i) (n + i) ((a >>> (iv_ i &&& 31)) &&& 255).toInt
theorem append_v {B : Nat → Int} {n : Nat} {a : Int32} {s : Sg} (h : TPc_ B n s) (hn : n + 4 ≤ 300) : pf_ (fX7_append a s) (fun t => TPc_ (fb_ B n a 4) (n + 4) t ∧ ∀ k, k ≠ 3 → k ≠ 17 → gi t k = gi s k) := by
  unfold fX7_append
  refine pf_lo2 (fun (x : Int32) v => ∃ i, i ≤ 4 ∧ x = iv_ i ∧ TPc_ (fb_ B n a i) (n + i) v ∧ ∀ k, k ≠ 3 → k ≠ 17 → gi v k = gi s k) ?_ FU 24 s ⟨0, by decide, rfl, h, fun _ _ _ => rfl⟩
  rintro rec x v ⟨i, hi, rfl, hv, fv⟩ hr
  unfold fX7_append_3_b
  by_cases e4 : i = 4
  · subst e4
    rw [if_pos (show iv_ 4 < 0 by decide +kernel)]
    exact pf_some ⟨hv, fv⟩
  · obtain ⟨n1, n2⟩ := iv_n i (by omega)
    rw [if_neg n1, hv.1]
    refine pf_ifi (show 300 ≤ nI (n + i) ↔ 300 ≤ n + i from nI_lei (a := 300) (by omega) (by omega)) (fun e => by omega) (fun _ => ?_)
    rw [ix_nI (show n + i < 2 ^ 31 by omega), n2]
    refine pf_chk (fun _ => pf_bv (fun s4 e4' => pf_bv (fun s5 e5 => pf_bv (fun y ey => ?_))))
    have h41 : gi s4 3 1 = nI (n + i) := by rw [e4', gsi_k (by decide)]; exact hv.1
    rw [h41, nI_1] at e5
    rw [ey]
    refine hr _ s5 ⟨i + 1, by omega, rfl, tpc_ap (a >>> (iv_ i &&& 31)) hv (by omega) (by rw [e5, e4']), fun k x y => by rw [e5, gsi_f x, e4', gsi_f y]; exact fv k x y⟩
theorem four_v {B : Nat → Int} {n : Nat} {a : Int32} {s : Sg} (h : TPm_ B n s) (hn : n + 4 ≤ 300) : pf_ (fX10_four a s) (fun t => TPm_ (fb_ B n a 4) (n + 4) t ∧ (∀ k, k ≠ 27 → k ≠ 31 → gi t k = gi s k) ∧ ∀ j, j ≠ 4 → gi t 27 j = gi s 27 j) := by
  unfold fX10_four
  refine pf_lo2 (fun (x : Int32) v => ∃ i, i ≤ 4 ∧ x = iv_ i ∧ TPm_ (fb_ B n a i) (n + i) v ∧ (∀ k, k ≠ 27 → k ≠ 31 → gi v k = gi s k) ∧ ∀ j, j ≠ 4 → gi v 27 j = gi s 27 j) ?_ FU 24 s ⟨0, by decide, rfl, h, fun _ _ _ => rfl, fun _ _ => rfl⟩
  rintro rec x v ⟨i, hi, rfl, hv, fv, gv⟩ hr
  unfold fX10_four_3_b
  by_cases e4 : i = 4
  · subst e4
    rw [if_pos (show iv_ 4 < 0 by decide +kernel)]
    exact pf_some ⟨hv, fv, gv⟩
  · obtain ⟨n1, n2⟩ := iv_n i (by omega)
    rw [if_neg n1, hv.1, ix_nI (show n + i < 2 ^ 31 by omega), n2]
    refine pf_chk (fun _ => pf_bv (fun s4 e4' => pf_bv (fun s5 e5 => pf_bv (fun y ey => ?_))))
    have h41 : gi s4 27 4 = nI (n + i) := by rw [e4', gsi_k (by decide)]; exact hv.1
    rw [h41, nI_1] at e5
    rw [ey]
    refine hr _ s5 ⟨i + 1, by omega, rfl, tpm_ap (a >>> (iv_ i &&& 31)) hv (by omega) (by rw [e5, e4']), fun k x y => by rw [e5, gsi_f x, e4', gsi_f y]; exact fv k x y, fun j x => by rw [e5, gsi_ne x, e4', gsi_k (by decide)]; exact gv j x⟩
def fd_ (B : Nat → Int) (n : Nat) (a1 a2 a3 a4 a5 : Int32) : Nat → Int := fb_ (fb_ (fb_ (fb_ (fb_ B n a1 4) (n + 4) a2 4) (n + 4 + 4) a3 4) (n + 4 + 4 + 4) a4 4) (n + 4 + 4 + 4 + 4) a5 4
theorem feed9_v {B : Nat → Int} {n : Nat} {a1 a2 a3 a4 a5 : Int32} {s : Sg} (h : TPc_ B n s) : pf_ (fX9_feed a1 a2 a3 a4 a5 s) (fun q => (280 < n → q = (-1, s)) ∧ (n ≤ 280 → q.1 = nI (n + 20) ∧ TPc_ (fd_ B n a1 a2 a3 a4 a5) (n + 20) q.2 ∧ ∀ k, k ≠ 3 → k ≠ 17 → gi q.2 k = gi s k)) := by
  generalize hQ : (fun q : Int32 × Sg => (280 < n → q = (-1, s)) ∧ (n ≤ 280 → q.1 = nI (n + 20) ∧ TPc_ (fd_ B n a1 a2 a3 a4 a5) (n + 20) q.2 ∧ ∀ k, k ≠ 3 → k ≠ 17 → gi q.2 k = gi s k)) = Q
  have hn := h.2.1
  unfold fX9_feed
  rw [h.1, show nI n + 20 = nI (n + 20) from nI_add_ n 20]
  refine pf_ifi (show nI (n + 20) ≤ 300 ↔ n + 20 ≤ 300 from nI_lei (b := 300) (by omega) (by omega)) (fun e => ?_) (fun e => pf_some (by rw [← hQ]; exact ⟨fun _ => rfl, fun e' => by omega⟩))
  refine pf_bnv (append_v h (by omega)) (fun s1 h1 => pf_bnv (append_v h1.1 (by omega)) (fun s2 h2 => pf_bnv (append_v h2.1 (by omega)) (fun s3 h3 => pf_bnv (append_v h3.1 (by omega)) (fun s4 h4 => pf_bnv (append_v h4.1 (by omega)) (fun s5 h5 => pf_some ?_)))))
  rw [← hQ]
  refine ⟨fun e' => by omega, fun _ => ⟨?_, h5.1, fun k x y => ?_⟩⟩
  · show gi s5 3 1 = _
    exact h5.1.1
  · show gi s5 k = _
    rw [h5.2 k x y, h4.2 k x y, h3.2 k x y, h2.2 k x y, h1.2 k x y]
theorem feed10_v {B : Nat → Int} {n : Nat} {a1 a2 a3 a4 a5 : Int32} {s : Sg} (h : TPm_ B n s) : pf_ (fX10_feed a1 a2 a3 a4 a5 s) (fun q => (280 < n → q = (-1, s)) ∧ (n ≤ 280 → q.1 = nI (n + 20) ∧ TPm_ (fd_ B n a1 a2 a3 a4 a5) (n + 20) q.2 ∧ (∀ k, k ≠ 27 → k ≠ 31 → gi q.2 k = gi s k) ∧ ∀ j, j ≠ 4 → gi q.2 27 j = gi s 27 j)) := by
  generalize hQ : (fun q : Int32 × Sg => (280 < n → q = (-1, s)) ∧ (n ≤ 280 → q.1 = nI (n + 20) ∧ TPm_ (fd_ B n a1 a2 a3 a4 a5) (n + 20) q.2 ∧ (∀ k, k ≠ 27 → k ≠ 31 → gi q.2 k = gi s k) ∧ ∀ j, j ≠ 4 → gi q.2 27 j = gi s 27 j)) = Q
  have hn := h.2.1
  unfold fX10_feed
  rw [h.1, show nI n + 20 = nI (n + 20) from nI_add_ n 20]
  refine pf_ifi (show nI (n + 20) ≤ 300 ↔ n + 20 ≤ 300 from nI_lei (b := 300) (by omega) (by omega)) (fun e => ?_) (fun e => pf_some (by rw [← hQ]; exact ⟨fun _ => rfl, fun e' => by omega⟩))
  refine pf_bnv (four_v h (by omega)) (fun s1 h1 => pf_bnv (four_v h1.1 (by omega)) (fun s2 h2 => pf_bnv (four_v h2.1 (by omega)) (fun s3 h3 => pf_bnv (four_v h3.1 (by omega)) (fun s4 h4 => pf_bnv (four_v h4.1 (by omega)) (fun s5 h5 => pf_some ?_)))))
  rw [← hQ]
  refine ⟨fun e' => by omega, fun _ => ⟨?_, h5.1, fun k x y => ?_, fun j x => ?_⟩⟩
  · show gi s5 27 4 = _
    exact h5.1.1
  · show gi s5 k = _
    rw [h5.2.1 k x y, h4.2.1 k x y, h3.2.1 k x y, h2.2.1 k x y, h1.2.1 k x y]
  · show gi s5 27 j = _
    rw [h5.2.2 j x, h4.2.2 j x, h3.2.2 j x, h2.2.2 j x, h1.2.2 j x]
