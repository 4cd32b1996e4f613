/-! weighing -/
/-- slots of the model's state that only thing, reading, forget, image and back change -/
def kp_ (j : Nat) : Prop := j = 0 ∨ j = 10 ∨ (15 ≤ j ∧ j < 51 ∧ j % 3 = 0)
def K10_ (s t : Sg) : Prop := N10_ s t ∧ gi t 29 = gi s 29 ∧ ∀ j, kp_ j → gi t 28 j = gi s 28 j
theorem K10_.n {s t : Sg} (h : K10_ s t) : N10_ s t := h.1
theorem K10_.rf {s : Sg} (h : I10_ s) : K10_ s s := ⟨N10_.rf h, rfl, fun _ _ => rfl⟩
theorem K10_.tr {s t u : Sg} (h1 : K10_ s t) (h2 : K10_ t u) : K10_ s u := ⟨h1.1.tr h2.1, by rw [h2.2.1, h1.2.1], fun j hj => by rw [h2.2.2 j hj, h1.2.2 j hj]⟩
theorem K10_.si {s σ : Sg} (h : K10_ s σ) {k j : Nat} {v : Int32} (hk : 27 ≤ k ∧ k < 48 ∧ k ≠ 30 ∧ k ≠ 29) (hb : Bd10_ k j v.toInt) (hj : k = 28 → ¬ kp_ j) : K10_ s (si σ k j v) :=
  ⟨h.1.si ⟨hk.1, hk.2.1, hk.2.2.1⟩ hb, by rw [gsi_f (by omega)]; exact h.2.1, fun i hi => by
    by_cases e : k = 28
    · subst e; rw [gsi_ne (fun e' => hj rfl (by rw [← e']; exact hi))]; exact h.2.2 i hi
    · rw [gsi_k (fun e' => e e'.symm)]; exact h.2.2 i hi⟩
theorem K10_.sl {s σ : Sg} (h : K10_ s σ) {k j : Nat} {v : Int64} : K10_ s (sl σ k j v) := ⟨h.1.sl, h.2.1, h.2.2⟩
/-- only names and truths (and longs) are written -/
def B10_ (s t : Sg) : Prop := N10_ s t ∧ ∀ k, k ≠ 33 → k ≠ 35 → gi t k = gi s k
theorem B10_.rf {s : Sg} (h : I10_ s) : B10_ s s := ⟨N10_.rf h, fun _ _ _ => rfl⟩
theorem B10_.tr {s t u : Sg} (h1 : B10_ s t) (h2 : B10_ t u) : B10_ s u := ⟨h1.1.tr h2.1, fun k a b => by rw [h2.2 k a b, h1.2 k a b]⟩
theorem B10_.si33 {s σ : Sg} (h : B10_ s σ) {j : Nat} {v : Int32} : B10_ s (si σ 33 j v) := ⟨h.1.si (by decide) trivial, fun k a b => by rw [gsi_f a]; exact h.2 k a b⟩
theorem B10_.si35 {s σ : Sg} (h : B10_ s σ) {j : Nat} {v : Int32} (hb : 0 ≤ v.toInt ∧ v.toInt ≤ 1) : B10_ s (si σ 35 j v) := ⟨h.1.si (by decide) hb, fun k a b => by rw [gsi_f b]; exact h.2 k a b⟩
theorem B10_.sl {s σ : Sg} (h : B10_ s σ) {k j : Nat} {v : Int64} : B10_ s (sl σ k j v) := ⟨h.1.sl, h.2⟩
theorem B10_.k {s t : Sg} (h : B10_ s t) : K10_ s t := ⟨h.1, h.2 29 (by decide) (by decide), fun j _ => by rw [h.2 28 (by decide) (by decide)]⟩
theorem B10_.v {s t : Sg} (h : B10_ s t) (hv : VA_ s) : VA_ t := fun q hq => by rw [h.1.2.2.2]; exact hv q hq
theorem K10_.v {s t : Sg} (h : K10_ s t) (hv : VA_ s) : VA_ t := fun q hq => by rw [h.1.2.2.2]; exact hv q hq
theorem N10_.v {s t : Sg} (h : N10_ s t) (hv : VA_ s) : VA_ t := fun q hq => by rw [h.2.2.2]; exact hv q hq
theorem dst_cases {o v : Int} {n t : Nat} {p : Nat × Nat} (h : dst_ o v (n, t) = some p) : (o ≤ 1 ∧ (o = 0 ∨ (0 ≤ v ∧ v < 11)) ∧ p = (n + 1, t)) ∨ (o = 2 ∧ 1 ≤ n ∧ p = (n, t)) ∨ (2 < o ∧ o < 10 ∧ 2 ≤ n ∧ p = (n - 1, t)) ∨ (10 ≤ o ∧ o < 20 ∧ 2 ≤ n ∧ p = (n - 2, t + 1)) ∨ (o = 20 ∧ 1 ≤ t ∧ p = (n, t)) ∨ (20 < o ∧ 2 ≤ t ∧ p = (n, t - 1)) := by
  unfold dst_ at h
  by_cases h1 : o ≤ 1
  · rw [if_pos h1] at h
    by_cases h2 : o = 0 ∨ (0 ≤ v ∧ v < 11)
    · rw [if_pos h2] at h; injection h with h; exact Or.inl ⟨h1, h2, h.symm⟩
    · rw [if_neg h2] at h; exact nomatch h
  rw [if_neg h1] at h
  by_cases h2 : o = 2
  · rw [if_pos h2] at h
    by_cases h3 : 1 ≤ n
    · rw [if_pos h3] at h; injection h with h; exact Or.inr (Or.inl ⟨h2, h3, h.symm⟩)
    · rw [if_neg h3] at h; exact nomatch h
  rw [if_neg h2] at h
  by_cases h3 : o < 10
  · rw [if_pos h3] at h
    by_cases h4 : 2 ≤ n
    · rw [if_pos h4] at h; injection h with h; exact Or.inr (Or.inr (Or.inl ⟨by omega, h3, h4, h.symm⟩))
    · rw [if_neg h4] at h; exact nomatch h
  rw [if_neg h3] at h
  by_cases h4 : o < 20
  · rw [if_pos h4] at h
    by_cases h5 : 2 ≤ n
    · rw [if_pos h5] at h; injection h with h; exact Or.inr (Or.inr (Or.inr (Or.inl ⟨by omega, h4, h5, h.symm⟩)))
    · rw [if_neg h5] at h; exact nomatch h
  rw [if_neg h4] at h
  by_cases h5 : o = 20
  · rw [if_pos h5] at h
    by_cases h6 : 1 ≤ t
    · rw [if_pos h6] at h; injection h with h; exact Or.inr (Or.inr (Or.inr (Or.inr (Or.inl ⟨h5, h6, h.symm⟩))))
    · rw [if_neg h6] at h; exact nomatch h
  rw [if_neg h5] at h
  by_cases h6 : 2 ≤ t
  · rw [if_pos h6] at h; injection h with h; exact Or.inr (Or.inr (Or.inr (Or.inr (Or.inr ⟨by omega, h6, h.symm⟩))))
  · rw [if_neg h6] at h; exact nomatch h
theorem wp_bnd_s {α β : Type} {f : Option (α × Sg)} {s : Sg} {k : α → Sg → Option β} {Q : β → Prop} (h : wp_ f (fun q => q.2 = s)) (hk : ∀ r, wp_ (k r s) Q) : wp_ (bnd f k) Q := by
  refine wp_bnd_i h (fun r t ht => ?_)
  dsimp only at ht
  subst ht
  exact hk r
set_option maxHeartbeats 1000000 in
theorem work_ok {s : Sg} {a1 : Int32} {q k : Nat} (h : I10_ s) (hq : q < 4) (h8 : (gi s 28 8).toInt = (q : Int)) (hk : a1.toInt = (k : Int)) (hk24 : k < 24) (hc : VC_ (gi s 30) q k 302) (hs : (gi s 30 (680 * q + 1 + 3 * k)).toInt ≤ 1) : wp_ (fX10_work a1 s) (fun t => B10_ s t) := by
  generalize hQ : (fun t : Sg => B10_ s t) = Q
  have L0 : (0 : Int32).toInt = 0 := rfl
  have L1 : (1 : Int32).toInt = 1 := rfl
  have L2 : (2 : Int32).toInt = 2 := rfl
  have L10 : (10 : Int32).toInt = 10 := rfl
  have L20 : (20 : Int32).toInt = 20 := rfl
  have L75 : (75 : Int32).toInt = 75 := rfl
  have M1 : (-1 : Int32).toInt = -1 := rfl
  have M2 : (-2 : Int32).toInt = -2 := rfl
  obtain ⟨i0, N, f1, f2, f3, pp, hd⟩ := hc hs
  unfold fX10_work
  rw [ixl_8]
  have m := tm_680 (x := gi s 28 8) (by omega) (by omega)
  have m3 := tm_3 (x := a1) (by omega) (by omega)
  have e1 := ti_add (x := 680 * gi s 28 8) (y := 1) (by omega) (by omega)
  have e2 := ti_add (x := 680 * gi s 28 8 + 1) (y := 3 * a1) (by omega) (by omega)
  have e3 := ti_add (x := 680 * gi s 28 8) (y := 75) (by omega) (by omega)
  refine wp_bv_i (fun v1 ev1 => wp_bv_i (fun v2 ev2 => ?_))
  rw [← ev1] at e2
  rw [← ev2] at e3
  have E1 : v1.toInt = ((680 * q + 1 + 3 * k : Nat) : Int) := by omega
  have E2 : v2.toInt = ((680 * q + 75 : Nat) : Int) := by omega
  clear e1 e2 e3 m m3 ev1 ev2
  have a11 := ti_add (x := v1) (y := 1) (by omega) (by omega)
  have a12 := ti_add (x := v1) (y := 2) (by omega) (by omega)
  have x11 : ix (v1 + 1) = 680 * q + 1 + 3 * k + 1 := by show (v1 + 1).toInt.toNat = _; omega
  have x12 : ix (v1 + 2) = 680 * q + 1 + 3 * k + 2 := by show (v1 + 2).toInt.toNat = _; omega
  refine wp_chk_i (inb_ti (by omega) (by omega)) ?_
  rw [x11]
  refine wp_bv_i (fun v4 ev4 => ?_)
  rw [← ev4] at f1
  refine lo4_i (fun (x4 x5 x6 : Int32) u => ∃ mm n t : Nat, x6.toInt = ((i0 + mm : Nat) : Int) ∧ mm ≤ N ∧ x4.toInt = (n : Int) ∧ x5.toInt = (t : Int) ∧ dp_ (gi s 30) (680 * q + 75) i0 mm = some (n, t) ∧ B10_ s u) (fun x4 x5 x6 u => (400 - x6.toInt).toNat) ?_ FU 0 0 v4 s ⟨0, 0, 0, by omega, by omega, rfl, rfl, rfl, B10_.rf h⟩ (by show _ < 1000000000; omega)
  rintro rec x4 x5 x6 u ⟨mm, n, t, g6, gm, g4, g5, gd, gb⟩ hr
  have u30 : gi u 30 = gi s 30 := gb.2 30 (by decide) (by decide)
  have hle : n + t ≤ mm := dp_le mm gd
  unfold fX10_work_49_b
  obtain ⟨vA, eA⟩ : ∃ w, w = x4 + (-1) := ⟨_, rfl⟩
  obtain ⟨vB, eB⟩ : ∃ w, w = x4 + (-2) := ⟨_, rfl⟩
  obtain ⟨vC, eC⟩ : ∃ w, w = x5 + (-1) := ⟨_, rfl⟩
  rw [← eA, ← eB, ← eC]
  refine wp_chk_i (inb_ti (by omega) (by omega)) ?_
  rw [x12, u30]
  refine wp_if_i (fun _ => wp_some_i (by rw [← hQ]; exact gb)) (fun hlt => ?_)
  have hlt' := nle_ti hlt
  have m2 := tm2_ (x := x6) (by omega) (by omega)
  have b1 := ti_add (x := v2) (y := 2 * x6) (by omega) (by omega)
  have b2 := ti_add (x := v2 + 2 * x6) (y := 1) (by omega) (by omega)
  have y1 : ix (v2 + 2 * x6) = 680 * q + 75 + 2 * (i0 + mm) := by show (v2 + 2 * x6).toInt.toNat = _; omega
  have y2 : ix (v2 + 2 * x6 + 1) = 680 * q + 75 + 2 * (i0 + mm) + 1 := by show (v2 + 2 * x6 + 1).toInt.toNat = _; omega
  refine wp_chk_i (inb_ti (by omega) (by omega)) ?_
  rw [y1]
  refine wp_bv_i (fun v11 ev11 => wp_chk_i (inb_ti (by omega) (by omega)) ?_)
  rw [y2]
  refine wp_bv_i (fun v13 ev13 => ?_)
  have hN : N = (mm + 1) + (N - (mm + 1)) := by omega
  rw [hN] at hd
  obtain ⟨p', hp'⟩ := dp_pre (mm + 1) _ hd
  have hst := hp'
  rw [dp_snoc gd, ← ev11, ← ev13] at hst
  rcases p' with ⟨n', t'⟩
  refine wp_jn (fun k => ∀ (z4 z5 : Int32) w, z4.toInt = (n' : Int) → z5.toInt = (t' : Int) → B10_ s w → wp_ (k z4 z5 w) Q) ?_ (fun k17 hk17 => ?_)
  · intro z4 z5 w h4 h5 hw
    refine wp_bv_i (fun v18 ev18 => ?_)
    have e := ti_add (x := x6) (y := 1) (by omega) (by omega)
    rw [← ev18] at e
    exact hr z4 z5 v18 w ⟨mm + 1, n', t', by omega, by omega, h4, h5, hp', hw⟩ (by omega)
  clear y1 y2 b1 b2 m2 a11 a12 x11 x12 ev11 ev13 hd hN hp' hr ev4 E1 E2
  rcases dst_cases hst with ⟨c1, c2, c3⟩ | ⟨c1, c2, c3⟩ | ⟨c1, c2, c3, c4⟩ | ⟨c1, c2, c3, c4⟩ | ⟨c1, c2, c3⟩ | ⟨c1, c2, c3⟩
  · injection c3 with d1 d2
    refine wp_if_i (fun e => by have := lt_ti e; omega) (fun _ => ?_)
    refine wp_jn (fun k => ∀ z : Int64, wp_ (k x4 z) Q) ?_ (fun k57 hk57 => ?_)
    · intro z
      refine wp_chk_i (inb_ti (by omega) (by omega)) (wp_bv_i (fun w ew => wp_bv_i (fun v ev => ?_)))
      have e := ti_add (x := x4) (y := 1) (by omega) (by omega)
      rw [← ev] at e
      exact hk17 v x5 w (by omega) (by omega) (by rw [ew]; exact gb.sl)
    · refine wp_if_i (fun _ => hk57 _) (fun e => ?_)
      have e' := ne_ti e
      exact wp_chk_i (inb_ti (by omega) (by omega)) (hk57 _)
  · injection c3 with d1 d2
    refine wp_if_i (fun _ => ?_) (fun e => by have := nlt_ti e; omega)
    refine wp_if_i (fun _ => ?_) (fun e => by have := ne_ti e; omega)
    have e := ti_sub (x := x4) (y := 1) (by omega) (by omega)
    refine wp_chk_i (inb_ti (by omega) (by omega)) (wp_bv_i (fun w ew => ?_))
    exact hk17 x4 x5 w (by omega) (by omega) (by rw [ew]; exact gb.sl)
  · injection c4 with d1 d2
    refine wp_if_i (fun _ => ?_) (fun e => by have := nlt_ti e; omega)
    refine wp_if_i (fun e => by have := eq_ti e; omega) (fun _ => ?_)
    refine wp_if_i (fun e => by have := le_ti e; omega) (fun _ => ?_)
    refine wp_bv_i (fun v47 ev47 => ?_)
    rw [eA] at ev47
    have e := ti_add (x := x4) (y := -1) (by omega) (by omega)
    rw [← ev47] at e
    have e' := ti_sub (x := v47) (y := 1) (by omega) (by omega)
    refine wp_chk_i (inb_ti (by omega) (by omega)) (wp_chk_i (inb_ti (by omega) (by omega)) ?_)
    refine wp_bnd_s (tX10_two _ _ _ u gb.1.1) (fun r => wp_bv_i (fun w ew => ?_))
    exact hk17 v47 x5 w (by omega) (by omega) (by rw [ew]; exact gb.sl)
  · injection c4 with d1 d2
    refine wp_if_i (fun _ => ?_) (fun e => by have := nlt_ti e; omega)
    refine wp_if_i (fun e => by have := eq_ti e; omega) (fun _ => ?_)
    refine wp_if_i (fun _ => ?_) (fun e => by have := nle_ti e; omega)
    refine wp_if_i (fun e => by have := le_ti e; omega) (fun _ => ?_)
    refine wp_bv_i (fun v39 ev39 => ?_)
    rw [eB] at ev39
    have e := ti_add (x := x4) (y := -2) (by omega) (by omega)
    rw [← ev39] at e
    have e' := ti_add (x := v39) (y := 1) (by omega) (by omega)
    refine wp_chk_i (inb_ti (by omega) (by omega)) (wp_chk_i (inb_ti (by omega) (by omega)) ?_)
    refine wp_bnd_s (tX10_isAsked _ _ _ u gb.1.1) (fun r => ?_)
    refine wp_chk_i (inb_ti (by omega) (by omega)) (wp_bv_i (fun w ew => wp_bv_i (fun v46 ev46 => ?_)))
    have e5 := ti_add (x := x5) (y := 1) (by omega) (by omega)
    rw [← ev46] at e5
    exact hk17 v39 v46 w (by omega) (by omega) (by rw [ew, nar_b]; exact gb.si35 (b2i_bd r))
  · injection c3 with d1 d2
    refine wp_if_i (fun _ => ?_) (fun e => by have := nlt_ti e; omega)
    refine wp_if_i (fun e => by have := eq_ti e; omega) (fun _ => ?_)
    refine wp_if_i (fun _ => ?_) (fun e => by have := nle_ti e; omega)
    refine wp_if_i (fun _ => ?_) (fun e => by have := nle_ti e; omega)
    refine wp_if_i (fun _ => ?_) (fun e => by have := ne_ti e; omega)
    have e := ti_sub (x := x5) (y := 1) (by omega) (by omega)
    refine wp_chk_i (inb_ti (by omega) (by omega)) ?_
    refine wp_jn (fun k => ∀ b : Bool, wp_ (k (x5 - 1) b) Q) ?_ (fun k36 hk36 => wp_if_i (fun _ => hk36 _) (fun _ => hk36 _))
    intro b
    refine wp_chk_i (inb_ti (by omega) (by omega)) (wp_bv_i (fun w ew => ?_))
    exact hk17 x4 x5 w (by omega) (by omega) (by rw [ew, nar_b]; exact gb.si35 (b2i_bd b))
  · injection c3 with d1 d2
    refine wp_if_i (fun _ => ?_) (fun e => by have := nlt_ti e; omega)
    refine wp_if_i (fun e => by have := eq_ti e; omega) (fun _ => ?_)
    refine wp_if_i (fun _ => ?_) (fun e => by have := nle_ti e; omega)
    refine wp_if_i (fun _ => ?_) (fun e => by have := nle_ti e; omega)
    refine wp_if_i (fun e => by have := eq_ti e; omega) (fun _ => ?_)
    refine wp_bv_i (fun v19 ev19 => ?_)
    rw [eC] at ev19
    have e := ti_add (x := x5) (y := -1) (by omega) (by omega)
    rw [← ev19] at e
    have e' := ti_sub (x := v19) (y := 1) (by omega) (by omega)
    refine wp_jn (fun k => ∀ b : Bool, wp_ (k (v19 - 1) b) Q) ?_ (fun k22 hk22 => ?_)
    · intro b
      refine wp_chk_i (inb_ti (by omega) (by omega)) (wp_bv_i (fun w ew => ?_))
      exact hk17 x4 v19 w (by omega) (by omega) (by rw [ew, nar_b]; exact gb.si35 (b2i_bd b))
    · refine wp_if_i (fun _ => ?_) (fun _ => ?_)
      · refine wp_chk_i (inb_ti (by omega) (by omega)) ?_
        refine wp_jn (fun k => wp_ (k (v19 - 1)) Q) (hk22 _) (fun k31 hk31 => ?_)
        refine wp_if_i (fun _ => hk31) (fun _ => wp_chk_i (inb_ti (by omega) (by omega)) (wp_if_i (fun _ => hk31) (fun _ => hk22 _)))
      · refine wp_chk_i (inb_ti (by omega) (by omega)) ?_
        refine wp_jn (fun k => wp_ (k (v19 - 1)) Q) (hk22 _) (fun k31 hk31 => ?_)
        refine wp_if_i (fun _ => wp_chk_i (inb_ti (by omega) (by omega)) (wp_if_i (fun _ => hk22 _) (fun _ => hk31))) (fun _ => hk31)
