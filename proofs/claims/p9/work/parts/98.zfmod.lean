/-! the model: words, and what it asks of a token -/
theorem bnd_e {α β : Type} {f : Option (α × Sg)} {s : Sg} {r : α} {k : α → Sg → Option β} (h : f = some (r, s)) : bnd f k = k r s := by rw [h]; rfl
theorem wq_or : (28530 : Int64) = wc_ 0 := by decide +kernel
theorem we_and : (((((Int32.toInt64 97) <<< (Int32.toInt64 8 &&& 63)) ||| (Int32.toInt64 110)) <<< (Int32.toInt64 8 &&& 63)) ||| (Int32.toInt64 100)) = wc_ 1 := by decide +kernel
theorem wq_and (s : Sg) : fX10_w3 97 110 100 s = some (wc_ 1, s) := by
  unfold fX10_w3
  show some ((((((Int32.toInt64 97) <<< (Int32.toInt64 8 &&& 63)) ||| (Int32.toInt64 110)) <<< (Int32.toInt64 8 &&& 63)) ||| (Int32.toInt64 100)), s) = _
  rw [we_and]
theorem we_not : (((((Int32.toInt64 110) <<< (Int32.toInt64 8 &&& 63)) ||| (Int32.toInt64 111)) <<< (Int32.toInt64 8 &&& 63)) ||| (Int32.toInt64 116)) = wc_ 2 := by decide +kernel
theorem wq_not (s : Sg) : fX10_w3 110 111 116 s = some (wc_ 2, s) := by
  unfold fX10_w3
  show some ((((((Int32.toInt64 110) <<< (Int32.toInt64 8 &&& 63)) ||| (Int32.toInt64 111)) <<< (Int32.toInt64 8 &&& 63)) ||| (Int32.toInt64 116)), s) = _
  rw [we_not]
theorem wq_on : (28526 : Int64) = wc_ 3 := by decide +kernel
theorem we_bears : (((((((((Int32.toInt64 98) <<< (Int32.toInt64 8 &&& 63)) ||| (Int32.toInt64 101)) <<< (Int32.toInt64 8 &&& 63)) ||| (Int32.toInt64 97)) <<< (Int32.toInt64 8 &&& 63)) ||| (Int32.toInt64 114)) <<< (Int32.toInt64 8 &&& 63)) ||| (Int32.toInt64 115)) = wc_ 4 := by decide +kernel
theorem wq_bears (s : Sg) : fX10_w5 98 101 97 114 115 s = some (wc_ 4, s) := by
  unfold fX10_w5 fX10_w3
  show some ((((((((((Int32.toInt64 98) <<< (Int32.toInt64 8 &&& 63)) ||| (Int32.toInt64 101)) <<< (Int32.toInt64 8 &&& 63)) ||| (Int32.toInt64 97)) <<< (Int32.toInt64 8 &&& 63)) ||| (Int32.toInt64 114)) <<< (Int32.toInt64 8 &&& 63)) ||| (Int32.toInt64 115)), s) = _
  rw [we_bears]
theorem we_safe : (((((((Int32.toInt64 115) <<< (Int32.toInt64 8 &&& 63)) ||| (Int32.toInt64 97)) <<< (Int32.toInt64 8 &&& 63)) ||| (Int32.toInt64 102)) <<< (Int32.toInt64 8 &&& 63)) ||| (Int32.toInt64 101)) = wc_ 5 := by decide +kernel
theorem wq_safe (s : Sg) : fX10_w4 115 97 102 101 s = some (wc_ 5, s) := by
  unfold fX10_w4 fX10_w3
  show some ((((((((Int32.toInt64 115) <<< (Int32.toInt64 8 &&& 63)) ||| (Int32.toInt64 97)) <<< (Int32.toInt64 8 &&& 63)) ||| (Int32.toInt64 102)) <<< (Int32.toInt64 8 &&& 63)) ||| (Int32.toInt64 101)), s) = _
  rw [we_safe]
theorem we_put : (((((Int32.toInt64 112) <<< (Int32.toInt64 8 &&& 63)) ||| (Int32.toInt64 117)) <<< (Int32.toInt64 8 &&& 63)) ||| (Int32.toInt64 116)) = wc_ 6 := by decide +kernel
theorem wq_put (s : Sg) : fX10_w3 112 117 116 s = some (wc_ 6, s) := by
  unfold fX10_w3
  show some ((((((Int32.toInt64 112) <<< (Int32.toInt64 8 &&& 63)) ||| (Int32.toInt64 117)) <<< (Int32.toInt64 8 &&& 63)) ||| (Int32.toInt64 116)), s) = _
  rw [we_put]
theorem we_take : (((((((Int32.toInt64 116) <<< (Int32.toInt64 8 &&& 63)) ||| (Int32.toInt64 97)) <<< (Int32.toInt64 8 &&& 63)) ||| (Int32.toInt64 107)) <<< (Int32.toInt64 8 &&& 63)) ||| (Int32.toInt64 101)) = wc_ 7 := by decide +kernel
theorem wq_take (s : Sg) : fX10_w4 116 97 107 101 s = some (wc_ 7, s) := by
  unfold fX10_w4 fX10_w3
  show some ((((((((Int32.toInt64 116) <<< (Int32.toInt64 8 &&& 63)) ||| (Int32.toInt64 97)) <<< (Int32.toInt64 8 &&& 63)) ||| (Int32.toInt64 107)) <<< (Int32.toInt64 8 &&& 63)) ||| (Int32.toInt64 101)), s) = _
  rw [we_take]
theorem we_wait : (((((((Int32.toInt64 119) <<< (Int32.toInt64 8 &&& 63)) ||| (Int32.toInt64 97)) <<< (Int32.toInt64 8 &&& 63)) ||| (Int32.toInt64 105)) <<< (Int32.toInt64 8 &&& 63)) ||| (Int32.toInt64 116)) = wc_ 8 := by decide +kernel
theorem wq_wait (s : Sg) : fX10_w4 119 97 105 116 s = some (wc_ 8, s) := by
  unfold fX10_w4 fX10_w3
  show some ((((((((Int32.toInt64 119) <<< (Int32.toInt64 8 &&& 63)) ||| (Int32.toInt64 97)) <<< (Int32.toInt64 8 &&& 63)) ||| (Int32.toInt64 105)) <<< (Int32.toInt64 8 &&& 63)) ||| (Int32.toInt64 116)), s) = _
  rw [we_wait]
theorem we_hour : (((((((Int32.toInt64 104) <<< (Int32.toInt64 8 &&& 63)) ||| (Int32.toInt64 111)) <<< (Int32.toInt64 8 &&& 63)) ||| (Int32.toInt64 117)) <<< (Int32.toInt64 8 &&& 63)) ||| (Int32.toInt64 114)) = wc_ 9 := by decide +kernel
theorem wq_hour (s : Sg) : fX10_w4 104 111 117 114 s = some (wc_ 9, s) := by
  unfold fX10_w4 fX10_w3
  show some ((((((((Int32.toInt64 104) <<< (Int32.toInt64 8 &&& 63)) ||| (Int32.toInt64 111)) <<< (Int32.toInt64 8 &&& 63)) ||| (Int32.toInt64 117)) <<< (Int32.toInt64 8 &&& 63)) ||| (Int32.toInt64 114)), s) = _
  rw [we_hour]
theorem we_wet : (((((Int32.toInt64 119) <<< (Int32.toInt64 8 &&& 63)) ||| (Int32.toInt64 101)) <<< (Int32.toInt64 8 &&& 63)) ||| (Int32.toInt64 116)) = wc_ 10 := by decide +kernel
theorem wq_wet (s : Sg) : fX10_w3 119 101 116 s = some (wc_ 10, s) := by
  unfold fX10_w3
  show some ((((((Int32.toInt64 119) <<< (Int32.toInt64 8 &&& 63)) ||| (Int32.toInt64 101)) <<< (Int32.toInt64 8 &&& 63)) ||| (Int32.toInt64 116)), s) = _
  rw [we_wet]
theorem we_wind : (((((((Int32.toInt64 119) <<< (Int32.toInt64 8 &&& 63)) ||| (Int32.toInt64 105)) <<< (Int32.toInt64 8 &&& 63)) ||| (Int32.toInt64 110)) <<< (Int32.toInt64 8 &&& 63)) ||| (Int32.toInt64 100)) = wc_ 11 := by decide +kernel
theorem wq_wind (s : Sg) : fX10_w4 119 105 110 100 s = some (wc_ 11, s) := by
  unfold fX10_w4 fX10_w3
  show some ((((((((Int32.toInt64 119) <<< (Int32.toInt64 8 &&& 63)) ||| (Int32.toInt64 105)) <<< (Int32.toInt64 8 &&& 63)) ||| (Int32.toInt64 110)) <<< (Int32.toInt64 8 &&& 63)) ||| (Int32.toInt64 100)), s) = _
  rw [we_wind]
theorem we_thing : (((((((((Int32.toInt64 116) <<< (Int32.toInt64 8 &&& 63)) ||| (Int32.toInt64 104)) <<< (Int32.toInt64 8 &&& 63)) ||| (Int32.toInt64 105)) <<< (Int32.toInt64 8 &&& 63)) ||| (Int32.toInt64 110)) <<< (Int32.toInt64 8 &&& 63)) ||| (Int32.toInt64 103)) = wc_ 12 := by decide +kernel
theorem wq_thing (s : Sg) : fX10_w5 116 104 105 110 103 s = some (wc_ 12, s) := by
  unfold fX10_w5 fX10_w3
  show some ((((((((((Int32.toInt64 116) <<< (Int32.toInt64 8 &&& 63)) ||| (Int32.toInt64 104)) <<< (Int32.toInt64 8 &&& 63)) ||| (Int32.toInt64 105)) <<< (Int32.toInt64 8 &&& 63)) ||| (Int32.toInt64 110)) <<< (Int32.toInt64 8 &&& 63)) ||| (Int32.toInt64 103)), s) = _
  rw [we_thing]
theorem we_weight : (((((((((((Int32.toInt64 119) <<< (Int32.toInt64 8 &&& 63)) ||| (Int32.toInt64 101)) <<< (Int32.toInt64 8 &&& 63)) ||| (Int32.toInt64 105)) <<< (Int32.toInt64 8 &&& 63)) ||| (Int32.toInt64 103)) <<< (Int32.toInt64 8 &&& 63)) ||| (Int32.toInt64 104)) <<< (Int32.toInt64 8 &&& 63)) ||| (Int32.toInt64 116)) = wc_ 13 := by decide +kernel
theorem wq_weight (s : Sg) : fX10_w6 119 101 105 103 104 116 s = some (wc_ 13, s) := by
  unfold fX10_w6 fX10_w5 fX10_w3
  show some ((((((((((((Int32.toInt64 119) <<< (Int32.toInt64 8 &&& 63)) ||| (Int32.toInt64 101)) <<< (Int32.toInt64 8 &&& 63)) ||| (Int32.toInt64 105)) <<< (Int32.toInt64 8 &&& 63)) ||| (Int32.toInt64 103)) <<< (Int32.toInt64 8 &&& 63)) ||| (Int32.toInt64 104)) <<< (Int32.toInt64 8 &&& 63)) ||| (Int32.toInt64 116)), s) = _
  rw [we_weight]
theorem we_sort : (((((((Int32.toInt64 115) <<< (Int32.toInt64 8 &&& 63)) ||| (Int32.toInt64 111)) <<< (Int32.toInt64 8 &&& 63)) ||| (Int32.toInt64 114)) <<< (Int32.toInt64 8 &&& 63)) ||| (Int32.toInt64 116)) = wc_ 14 := by decide +kernel
theorem wq_sort (s : Sg) : fX10_w4 115 111 114 116 s = some (wc_ 14, s) := by
  unfold fX10_w4 fX10_w3
  show some ((((((((Int32.toInt64 115) <<< (Int32.toInt64 8 &&& 63)) ||| (Int32.toInt64 111)) <<< (Int32.toInt64 8 &&& 63)) ||| (Int32.toInt64 114)) <<< (Int32.toInt64 8 &&& 63)) ||| (Int32.toInt64 116)), s) = _
  rw [we_sort]
theorem we_pan : (((((Int32.toInt64 112) <<< (Int32.toInt64 8 &&& 63)) ||| (Int32.toInt64 97)) <<< (Int32.toInt64 8 &&& 63)) ||| (Int32.toInt64 110)) = wc_ 15 := by decide +kernel
theorem wq_pan (s : Sg) : fX10_w3 112 97 110 s = some (wc_ 15, s) := by
  unfold fX10_w3
  show some ((((((Int32.toInt64 112) <<< (Int32.toInt64 8 &&& 63)) ||| (Int32.toInt64 97)) <<< (Int32.toInt64 8 &&& 63)) ||| (Int32.toInt64 110)), s) = _
  rw [we_pan]
theorem we_left : (((((((Int32.toInt64 108) <<< (Int32.toInt64 8 &&& 63)) ||| (Int32.toInt64 101)) <<< (Int32.toInt64 8 &&& 63)) ||| (Int32.toInt64 102)) <<< (Int32.toInt64 8 &&& 63)) ||| (Int32.toInt64 116)) = wc_ 16 := by decide +kernel
theorem wq_left (s : Sg) : fX10_w4 108 101 102 116 s = some (wc_ 16, s) := by
  unfold fX10_w4 fX10_w3
  show some ((((((((Int32.toInt64 108) <<< (Int32.toInt64 8 &&& 63)) ||| (Int32.toInt64 101)) <<< (Int32.toInt64 8 &&& 63)) ||| (Int32.toInt64 102)) <<< (Int32.toInt64 8 &&& 63)) ||| (Int32.toInt64 116)), s) = _
  rw [we_left]
theorem we_right : (((((((((Int32.toInt64 114) <<< (Int32.toInt64 8 &&& 63)) ||| (Int32.toInt64 105)) <<< (Int32.toInt64 8 &&& 63)) ||| (Int32.toInt64 103)) <<< (Int32.toInt64 8 &&& 63)) ||| (Int32.toInt64 104)) <<< (Int32.toInt64 8 &&& 63)) ||| (Int32.toInt64 116)) = wc_ 17 := by decide +kernel
theorem wq_right (s : Sg) : fX10_w5 114 105 103 104 116 s = some (wc_ 17, s) := by
  unfold fX10_w5 fX10_w3
  show some ((((((((((Int32.toInt64 114) <<< (Int32.toInt64 8 &&& 63)) ||| (Int32.toInt64 105)) <<< (Int32.toInt64 8 &&& 63)) ||| (Int32.toInt64 103)) <<< (Int32.toInt64 8 &&& 63)) ||| (Int32.toInt64 104)) <<< (Int32.toInt64 8 &&& 63)) ||| (Int32.toInt64 116)), s) = _
  rw [we_right]
theorem we_moment : (((((((((((Int32.toInt64 109) <<< (Int32.toInt64 8 &&& 63)) ||| (Int32.toInt64 111)) <<< (Int32.toInt64 8 &&& 63)) ||| (Int32.toInt64 109)) <<< (Int32.toInt64 8 &&& 63)) ||| (Int32.toInt64 101)) <<< (Int32.toInt64 8 &&& 63)) ||| (Int32.toInt64 110)) <<< (Int32.toInt64 8 &&& 63)) ||| (Int32.toInt64 116)) = wc_ 18 := by decide +kernel
theorem wq_moment (s : Sg) : fX10_w6 109 111 109 101 110 116 s = some (wc_ 18, s) := by
  unfold fX10_w6 fX10_w5 fX10_w3
  show some ((((((((((((Int32.toInt64 109) <<< (Int32.toInt64 8 &&& 63)) ||| (Int32.toInt64 111)) <<< (Int32.toInt64 8 &&& 63)) ||| (Int32.toInt64 109)) <<< (Int32.toInt64 8 &&& 63)) ||| (Int32.toInt64 101)) <<< (Int32.toInt64 8 &&& 63)) ||| (Int32.toInt64 110)) <<< (Int32.toInt64 8 &&& 63)) ||| (Int32.toInt64 116)), s) = _
  rw [we_moment]
theorem we_turned : (((((((((((Int32.toInt64 116) <<< (Int32.toInt64 8 &&& 63)) ||| (Int32.toInt64 117)) <<< (Int32.toInt64 8 &&& 63)) ||| (Int32.toInt64 114)) <<< (Int32.toInt64 8 &&& 63)) ||| (Int32.toInt64 110)) <<< (Int32.toInt64 8 &&& 63)) ||| (Int32.toInt64 101)) <<< (Int32.toInt64 8 &&& 63)) ||| (Int32.toInt64 100)) = wc_ 19 := by decide +kernel
theorem wq_turned (s : Sg) : fX10_w6 116 117 114 110 101 100 s = some (wc_ 19, s) := by
  unfold fX10_w6 fX10_w5 fX10_w3
  show some ((((((((((((Int32.toInt64 116) <<< (Int32.toInt64 8 &&& 63)) ||| (Int32.toInt64 117)) <<< (Int32.toInt64 8 &&& 63)) ||| (Int32.toInt64 114)) <<< (Int32.toInt64 8 &&& 63)) ||| (Int32.toInt64 110)) <<< (Int32.toInt64 8 &&& 63)) ||| (Int32.toInt64 101)) <<< (Int32.toInt64 8 &&& 63)) ||| (Int32.toInt64 100)), s) = _
  rw [we_turned]
theorem kds_m : ∀ i, i < 20 → mtk_ (kds_.getD i 0) = 2 := by decide +kernel
theorem MK_2 {kd nm i K : Nat} {s : Sg} (h : MK_ kd nm s) (hi : i < 20) (hK : kds_.getD i 0 = K) (e : kd = K) : gi s 27 9 = 2 := by
  rcases h.1 with h1 | ⟨_, h1⟩
  · rw [e, ← hK, kds_m i hi] at h1; exact h1
  · exact h1
theorem isWord_v {kd nm i K : Nat} {s : Sg} (h : MK_ kd nm s) (hi : i < 20) (hK : kds_.getD i 0 = K) : fX10_isWord (wc_ i) s = some (decide (kd = K), s) := by
  unfold fX10_isWord
  by_cases h2 : gi s 27 9 = 2
  · rw [if_pos h2]
    have hw := h.2.2 h2 i hi
    rw [hK] at hw
    by_cases e : kd = K
    · rw [if_pos (lcmp_iff.mpr (hw.mpr e)), decide_eq_true e]
    · rw [if_neg (fun e' => e (hw.mp (lcmp_iff.mp e'))), decide_eq_false e]
  · rw [if_neg h2, decide_eq_false (fun e => h2 (MK_2 h hi hK e))]
theorem bT0_ : ¬ b2i true = 0 := by decide +kernel
theorem bF0_ : b2i false = 0 := rfl
def srt_ (kd : Nat) : Int32 := if kd = 19 then 0 else if kd = 20 then 1 else if kd = 21 then 2 else if kd = 22 then 3 else if kd = 23 then 4 else -1
theorem sortOf_v {kd nm : Nat} {s : Sg} (h : MK_ kd nm s) : fX10_sortOf s = some (srt_ kd, s) := by
  unfold fX10_sortOf srt_
  rw [bnd_e (wq_bears s), bnd_e (isWord_v h (i := 4) (K := 19) (by decide) rfl)]
  by_cases e19 : kd = 19
  · rw [decide_eq_true e19, if_neg bT0_, if_pos e19]
  rw [decide_eq_false e19, if_pos bF0_, if_neg e19]
  rw [bnd_e (wq_safe s), bnd_e (isWord_v h (i := 5) (K := 20) (by decide) rfl)]
  by_cases e20 : kd = 20
  · rw [decide_eq_true e20, if_neg bT0_, if_pos e20]
  rw [decide_eq_false e20, if_pos bF0_, if_neg e20]
  rw [bnd_e (wq_put s), bnd_e (isWord_v h (i := 6) (K := 21) (by decide) rfl)]
  by_cases e21 : kd = 21
  · rw [decide_eq_true e21, if_neg bT0_, if_pos e21]
  rw [decide_eq_false e21, if_pos bF0_, if_neg e21]
  rw [bnd_e (wq_take s), bnd_e (isWord_v h (i := 7) (K := 22) (by decide) rfl)]
  by_cases e22 : kd = 22
  · rw [decide_eq_true e22, if_neg bT0_, if_pos e22]
  rw [decide_eq_false e22, if_pos bF0_, if_neg e22]
  rw [bnd_e (wq_wait s), bnd_e (isWord_v h (i := 8) (K := 23) (by decide) rfl)]
  by_cases e23 : kd = 23
  · rw [decide_eq_true e23, if_neg bT0_, if_pos e23]
  rw [decide_eq_false e23, if_pos bF0_, if_neg e23]
def nam_ (kd : Nat) : Int32 := if 26 ≤ kd ∧ kd ≤ 36 then nI (kd - 26) else -1
theorem nameOf_v {kd nm : Nat} {s : Sg} (h : MK_ kd nm s) : fX10_nameOf s = some (nam_ kd, s) := by
  unfold fX10_nameOf
  by_cases h2 : gi s 27 9 = 2
  · rw [if_pos h2]
    have c26 := h.2.2 h2 9 (by decide)
    rw [show kds_.getD 9 0 = 26 from rfl] at c26
    rw [bnd_e (wq_hour s)]
    by_cases e26 : kd = 26
    · rw [if_pos (lcmp_iff.mpr (c26.mpr e26)), e26]; rfl
    rw [if_neg (fun e => e26 (c26.mp (lcmp_iff.mp e)))]
    have c27 := h.2.2 h2 10 (by decide)
    rw [show kds_.getD 10 0 = 27 from rfl] at c27
    rw [bnd_e (wq_wet s)]
    by_cases e27 : kd = 27
    · rw [if_pos (lcmp_iff.mpr (c27.mpr e27)), e27]; rfl
    rw [if_neg (fun e => e27 (c27.mp (lcmp_iff.mp e)))]
    have c28 := h.2.2 h2 11 (by decide)
    rw [show kds_.getD 11 0 = 28 from rfl] at c28
    rw [bnd_e (wq_wind s)]
    by_cases e28 : kd = 28
    · rw [if_pos (lcmp_iff.mpr (c28.mpr e28)), e28]; rfl
    rw [if_neg (fun e => e28 (c28.mp (lcmp_iff.mp e)))]
    have c29 := h.2.2 h2 12 (by decide)
    rw [show kds_.getD 12 0 = 29 from rfl] at c29
    rw [bnd_e (wq_thing s)]
    by_cases e29 : kd = 29
    · rw [if_pos (lcmp_iff.mpr (c29.mpr e29)), e29]; rfl
    rw [if_neg (fun e => e29 (c29.mp (lcmp_iff.mp e)))]
    have c30 := h.2.2 h2 13 (by decide)
    rw [show kds_.getD 13 0 = 30 from rfl] at c30
    rw [bnd_e (wq_weight s)]
    by_cases e30 : kd = 30
    · rw [if_pos (lcmp_iff.mpr (c30.mpr e30)), e30]; rfl
    rw [if_neg (fun e => e30 (c30.mp (lcmp_iff.mp e)))]
    have c31 := h.2.2 h2 14 (by decide)
    rw [show kds_.getD 14 0 = 31 from rfl] at c31
    rw [bnd_e (wq_sort s)]
    by_cases e31 : kd = 31
    · rw [if_pos (lcmp_iff.mpr (c31.mpr e31)), e31]; rfl
    rw [if_neg (fun e => e31 (c31.mp (lcmp_iff.mp e)))]
    have c32 := h.2.2 h2 15 (by decide)
    rw [show kds_.getD 15 0 = 32 from rfl] at c32
    rw [bnd_e (wq_pan s)]
    by_cases e32 : kd = 32
    · rw [if_pos (lcmp_iff.mpr (c32.mpr e32)), e32]; rfl
    rw [if_neg (fun e => e32 (c32.mp (lcmp_iff.mp e)))]
    have c33 := h.2.2 h2 16 (by decide)
    rw [show kds_.getD 16 0 = 33 from rfl] at c33
    rw [bnd_e (wq_left s)]
    by_cases e33 : kd = 33
    · rw [if_pos (lcmp_iff.mpr (c33.mpr e33)), e33]; rfl
    rw [if_neg (fun e => e33 (c33.mp (lcmp_iff.mp e)))]
    have c34 := h.2.2 h2 17 (by decide)
    rw [show kds_.getD 17 0 = 34 from rfl] at c34
    rw [bnd_e (wq_right s)]
    by_cases e34 : kd = 34
    · rw [if_pos (lcmp_iff.mpr (c34.mpr e34)), e34]; rfl
    rw [if_neg (fun e => e34 (c34.mp (lcmp_iff.mp e)))]
    have c35 := h.2.2 h2 18 (by decide)
    rw [show kds_.getD 18 0 = 35 from rfl] at c35
    rw [bnd_e (wq_moment s)]
    by_cases e35 : kd = 35
    · rw [if_pos (lcmp_iff.mpr (c35.mpr e35)), e35]; rfl
    rw [if_neg (fun e => e35 (c35.mp (lcmp_iff.mp e)))]
    have c36 := h.2.2 h2 19 (by decide)
    rw [show kds_.getD 19 0 = 36 from rfl] at c36
    rw [bnd_e (wq_turned s)]
    by_cases e36 : kd = 36
    · rw [if_pos (lcmp_iff.mpr (c36.mpr e36)), e36]; rfl
    rw [if_neg (fun e => e36 (c36.mp (lcmp_iff.mp e)))]
    unfold nam_
    rw [if_neg (by omega)]
  · rw [if_neg h2]
    unfold nam_
    rw [if_neg (fun hk => ?_)]
    have : ∀ k, 26 ≤ k → k ≤ 36 → mtk_ k = 2 := by
      intro k a b
      have : ∀ j, j < 11 → mtk_ (26 + j) = 2 := by decide +kernel
      have := this (k - 26) (by omega)
      rw [show 26 + (k - 26) = k by omega] at this
      exact this
    rcases h.1 with h1 | ⟨_, h1⟩
    · exact h2 (by rw [h1]; exact this kd hk.1 hk.2)
    · exact h2 h1
def cmp_ (x : Int32) : Int32 := if x = 60 then 10 else if x = 4 then 11 else if x = 62 then 12 else if x = 5 then 13 else if x = 61 then 14 else if x = 35 then 15 else -1
theorem compareOf_e (s : Sg) : fX10_compareOf s = some (cmp_ (gi s 27 9), s) := by
  unfold fX10_compareOf cmp_
  repeat' split
  all_goals rfl
theorem cmp_iff : ∀ kd, kd < 40 → (0 ≤ cmp_ (mtk_ kd) ↔ 4 ≤ kd ∧ kd ≤ 9) := by decide +kernel
theorem compareOf_v {kd nm : Nat} {s : Sg} (h : MK_ kd nm s) (hk : kd < 40) : ∃ r, fX10_compareOf s = some (r, s) ∧ (0 ≤ r ↔ 4 ≤ kd ∧ kd ≤ 9) := by
  refine ⟨_, compareOf_e s, ?_⟩
  rcases h.1 with h1 | ⟨e, h1⟩
  · rw [h1]; exact cmp_iff kd hk
  · rw [h1, e]; decide +kernel
/-- the token's code, for the signs -/
theorem mtk_iff : ∀ kd, kd < 40 → (mtk_ kd = 43 ↔ kd = 10) ∧ (mtk_ kd = 45 ↔ kd = 11) ∧ (mtk_ kd = 42 ↔ kd = 12) ∧ (mtk_ kd = 47 ↔ kd = 13) ∧ (mtk_ kd = 41 ↔ kd = 15) ∧ (mtk_ kd = 59 ↔ kd = 16) ∧ (mtk_ kd = 40 ↔ kd = 0) ∧ (mtk_ kd = 1 ↔ kd = 17) ∧ (mtk_ kd = 0 ↔ kd = 24) := by decide +kernel
theorem MK_sg {kd nm : Nat} {s : Sg} (h : MK_ kd nm s) (hk : kd < 40) : (gi s 27 9 = 43 ↔ kd = 10) ∧ (gi s 27 9 = 45 ↔ kd = 11) ∧ (gi s 27 9 = 42 ↔ kd = 12) ∧ (gi s 27 9 = 47 ↔ kd = 13) ∧ (gi s 27 9 = 41 ↔ kd = 15) ∧ (gi s 27 9 = 59 ↔ kd = 16) ∧ (gi s 27 9 = 40 ↔ kd = 0) ∧ (gi s 27 9 = 1 ↔ kd = 17) ∧ (gi s 27 9 = 0 ↔ kd = 24) := by
  rcases h.1 with h1 | ⟨e, h1⟩
  · rw [h1]; exact mtk_iff kd hk
  · rw [h1, e]; decide +kernel
theorem isBarred_v {kd : Nat} {asks : Bool} {s : Sg} (h20 : gi s 27 20 = b2i asks) (h1 : 26 ≤ kd) (h2 : kd ≤ 36) : ∃ b, fX10_isBarred (nI (kd - 26)) s = some (b, s) ∧ (b = false ↔ (kd < 29 ∨ decide (33 ≤ kd) = asks)) := by
  unfold fX10_isBarred
  rw [h20]
  cases asks with
  | false =>
    rw [if_pos bF0_]
    have h6 : nI (kd - 26) ≤ 6 ↔ kd - 26 ≤ 6 := nI_lei (b := 6) (by omega) (by omega)
    by_cases e : kd ≤ 32
    · exact ⟨false, by rw [if_pos (h6.mpr (show kd - 26 ≤ 6 by omega))], ⟨fun _ => Or.inr (decide_eq_false (by omega)), fun _ => rfl⟩⟩
    · refine ⟨true, by rw [if_neg (fun e' => e (by have := h6.mp e'; omega))], ⟨fun e' => (nomatch e'), fun e' => ?_⟩⟩
      rcases e' with e' | e'
      · omega
      · exact absurd (of_decide_eq_false e') (by omega)
  | true =>
    rw [if_neg bT0_]
    have h3 : nI (kd - 26) < 3 ↔ kd - 26 < 3 := nI_lti (b := 3) (by omega) (by omega)
    have h6 : 6 < nI (kd - 26) ↔ 6 < kd - 26 := nI_lti (a := 6) (by omega) (by omega)
    have hb : ∃ b, fX10_isIn (nI (kd - 26)) 3 6 s = some (b, s) ∧ (b = false ↔ (kd < 29 ∨ decide (33 ≤ kd) = true)) := by
      unfold fX10_isIn
      by_cases e : kd < 29
      · exact ⟨false, by rw [if_pos (h3.mpr (by omega))], ⟨fun _ => Or.inl e, fun _ => rfl⟩⟩
      · by_cases e2 : 33 ≤ kd
        · exact ⟨false, by rw [if_neg (fun x => e (by have := h3.mp x; omega)), if_pos (h6.mpr (by omega))], ⟨fun _ => Or.inr (decide_eq_true e2), fun _ => rfl⟩⟩
        · refine ⟨true, by rw [if_neg (fun x => e (by have := h3.mp x; omega)), if_neg (fun x => e2 (by have := h6.mp x; omega))], ⟨fun e' => (nomatch e'), fun e' => ?_⟩⟩
          rcases e' with e' | e'
          · exact absurd e' e
          · exact absurd (of_decide_eq_true e') e2
    obtain ⟨b, hb1, hb2⟩ := hb
    exact ⟨b, by rw [bnd_e hb1], hb2⟩

