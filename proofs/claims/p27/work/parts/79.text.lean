theorem sortOf_x (t : Sg) : ∃ r : Int32, fX10_sortOf t = some (r, t) ∧ -1 ≤ r.toInt ∧ r.toInt ≤ 4 ∧ (0 ≤ r.toInt → gi t 27 9 = 2) := by
  have h : wp_ (fX10_sortOf t) (fun q => q.2 = t ∧ -1 ≤ q.1.toInt ∧ q.1.toInt ≤ 4 ∧ (0 ≤ q.1.toInt → gi t 27 9 = 2)) := by
    generalize hQ : (fun q : Int32 × Sg => q.2 = t ∧ -1 ≤ q.1.toInt ∧ q.1.toInt ≤ 4 ∧ (0 ≤ q.1.toInt → gi t 27 9 = 2)) = Q
    have fin : ∀ r : Int32, -1 ≤ r.toInt → r.toInt ≤ 4 → (0 ≤ r.toInt → gi t 27 9 = 2) → wp_ (some (r, t)) Q := fun r a b c => wp_some_i (by rw [← hQ]; exact ⟨rfl, a, b, c⟩)
    unfold fX10_sortOf
    obtain ⟨b1, e1, h1⟩ := isWord_x (w5v_ 98 101 97 114 115) t
    refine wp_bnd_e (w5_e _ _ _ _ _ _) (wp_bnd_e e1 (wp_if_i (fun _ => ?_) (fun hb => fin _ (by decide +kernel) (by decide +kernel) (fun _ => h1 (b2i_ne hb)))))
    obtain ⟨b2, e2, h2⟩ := isWord_x (w4v_ 115 97 102 101) t
    refine wp_bnd_e (w4_e _ _ _ _ _) (wp_bnd_e e2 (wp_if_i (fun _ => ?_) (fun hb => fin _ (by decide +kernel) (by decide +kernel) (fun _ => h2 (b2i_ne hb)))))
    obtain ⟨b3, e3, h3⟩ := isWord_x (w3v_ 112 117 116) t
    refine wp_bnd_e (w3_e _ _ _ _) (wp_bnd_e e3 (wp_if_i (fun _ => ?_) (fun hb => fin _ (by decide +kernel) (by decide +kernel) (fun _ => h3 (b2i_ne hb)))))
    obtain ⟨b4, e4, h4⟩ := isWord_x (w4v_ 116 97 107 101) t
    refine wp_bnd_e (w4_e _ _ _ _ _) (wp_bnd_e e4 (wp_if_i (fun _ => ?_) (fun hb => fin _ (by decide +kernel) (by decide +kernel) (fun _ => h4 (b2i_ne hb)))))
    obtain ⟨b5, e5, h5⟩ := isWord_x (w4v_ 119 97 105 116) t
    exact wp_bnd_e (w4_e _ _ _ _ _) (wp_bnd_e e5 (wp_if_i (fun _ => fin _ (by decide +kernel) (by decide +kernel) (fun h => absurd h (by decide +kernel))) (fun hb => fin _ (by decide +kernel) (by decide +kernel) (fun _ => h5 (b2i_ne hb)))))
  obtain ⟨⟨r, u⟩, e, h1, h2, h3, h4⟩ := wp_ex h
  dsimp only at h1
  subst h1
  exact ⟨r, e, h2, h3, h4⟩
/-- behind a figure: what it may have written -/
def FG_ (s : Sg) (lo hi : Nat) (p : Int32 × Sg) : Prop := RF_ s p.2 ∧ (∀ y, y < lo ∨ hi < y → gi p.2 30 y = gi s 30 y) ∧ gi p.2 27 14 = gi s 27 14 ∧ gi p.2 27 18 = gi s 27 18 ∧ (p.1 = 0 → TK_ p.2 ∧ (gi s 27 8).toInt ≤ (gi p.2 27 8).toInt)
theorem figure_ok {s : Sg} {x a : Int32} {lo hi : Nat} (hk : TK_ s) (hx : 0 ≤ x.toInt) (hx2 : x.toInt < 2720) (h1 : lo ≤ ix x) (h2 : ix x ≤ hi) : wp_ (fX10_figure x a s) (FG_ s lo hi) := by
  generalize hQ : FG_ s lo hi = Q
  have bad : ∀ r : Int32, r ≠ 0 → wp_ (some (r, s)) Q := fun r hr => wp_some_i (by rw [← hQ]; exact ⟨RF_.rf, fun _ _ => rfl, rfl, rfl, fun e => absurd e hr⟩)
  unfold fX10_figure
  refine wp_if_i (fun h9 => ?_) (fun _ => bad 1 (by decide +kernel))
  refine wp_if_i (fun _ => ?_) (fun _ => bad 2 (by decide +kernel))
  refine wp_chk_i (inb_ti hx (by omega)) (wp_bv_i (fun t et => ?_))
  have gj : ∀ j, gi t 27 j = gi s 27 j := fun j => by rw [et, gsi_k (by decide)]
  obtain ⟨k1, k2, k3, k4, k5, k6⟩ := hk
  refine wp_bnv_i (nt_ok t (by rw [gj]; exact k5) (by rw [gj]; exact k6) (by rw [gj]; omega) (by rw [gj]; exact k3)) (fun u hu => wp_some_i ?_)
  obtain ⟨n, p, tk⟩ := hu
  rw [gj] at p
  rw [← hQ]
  have r1 : RF_ s t := by rw [et]; exact RFs0_ RF_.rf (Or.inl rfl)
  refine ⟨r1.tr n.r, fun y hy => ?_, ?_, ?_, fun _ => ⟨tk, by show _ ≤ (gi u 27 8).toInt; omega⟩⟩
  · show gi u 30 y = _
    rw [n.1 30 (by decide), et, gsi_ne (by omega)]
  · show gi u 27 14 = _
    rw [n.2.1 14 (by decide), gj]
  · show gi u 27 18 = _
    rw [n.2.1 18 (by decide), gj]
theorem laid_ok {s : Sg} {x : Int32} {lo : Nat} (hk : TK_ s) (hx : 0 ≤ x.toInt) (hx2 : x.toInt < 2700) (h1 : (lo : Int) = x.toInt) : wp_ (fX10_laid x s) (FG_ s (lo + 1) (lo + 2)) := by
  generalize hQ : FG_ s (lo + 1) (lo + 2) = Q
  have L1 : (1 : Int32).toInt = 1 := rfl
  have L2 : (2 : Int32).toInt = 2 := rfl
  have e1 := ti_add (x := x) (y := 1) (by omega) (by omega)
  have e2 := ti_add (x := x) (y := 2) (by omega) (by omega)
  have x1 : ix (x + 1) = lo + 1 := by show (x + 1).toInt.toNat = _; omega
  have x2 : ix (x + 2) = lo + 2 := by show (x + 2).toInt.toNat = _; omega
  unfold fX10_laid
  refine wp_bnd_i (figure_ok (lo := lo + 1) (hi := lo + 2) hk (by omega) (by omega) (by omega) (by omega)) (fun r t ht => ?_)
  obtain ⟨t1, t2, t3, t4, t5⟩ := ht
  dsimp only at t1 t2 t3 t4 t5
  have bad : ∀ r : Int32, r ≠ 0 → wp_ (some (r, t)) Q := fun r hr => wp_some_i (by rw [← hQ]; exact ⟨t1, t2, t3, t4, fun e => absurd e hr⟩)
  refine wp_if_i (fun hr => ?_) (fun hr => bad r hr)
  obtain ⟨k, p⟩ := t5 hr
  refine wp_if_i (fun h9 => wp_if_i (fun _ => ?_) (fun _ => bad 1 (by decide +kernel))) (fun _ => bad 1 (by decide +kernel))
  obtain ⟨k1, k2, k3, k4, k5, k6⟩ := k
  refine wp_bnv_i (nt_ok t k5 k6 (by omega) k3) (fun u hu => ?_)
  obtain ⟨n, pu, tk⟩ := hu
  refine wp_bnd_i (figure_ok (lo := lo + 1) (hi := lo + 2) tk (by omega) (by omega) (by omega) (by omega)) (fun r2 v hv => wp_some_i ?_)
  obtain ⟨v1, v2, v3, v4, v5⟩ := hv
  rw [← hQ]
  refine ⟨(t1.tr n.r).tr v1, fun y hy => ?_, ?_, ?_, fun e => ⟨(v5 e).1, ?_⟩⟩
  · show gi v 30 y = _
    rw [v2 y hy, n.1 30 (by decide), t2 y hy]
  · show gi v 27 14 = _
    rw [v3, n.2.1 14 (by decide), t3]
  · show gi v 27 18 = _
    rw [v4, n.2.1 18 (by decide), t4]
  · have := (v5 e).2
    show _ ≤ (gi v 27 8).toInt
    dsimp only at this
    omega
/-- clause k of text q is no law, or its code runs, within w -/
def VC_ (f : Nat → Int32) (q k w : Nat) : Prop := (f (680 * q + 1 + 3 * k)).toInt ≤ 1 → ∃ i n : Nat, (f (680 * q + 1 + 3 * k + 1)).toInt = (i : Int) ∧ (f (680 * q + 1 + 3 * k + 2)).toInt = ((i + n : Nat) : Int) ∧ i + n ≤ w ∧ ∃ p, dp_ f (680 * q + 75) i n = some p
theorem VC_.fr {f g : Nat → Int32} {q k w w' : Nat} (h : VC_ f q k w) (hw : w ≤ w') (h1 : ∀ x, 680 * q + 1 + 3 * k ≤ x → x ≤ 680 * q + 1 + 3 * k + 2 → g x = f x) (h2 : ∀ x, 680 * q + 75 ≤ x → x < 680 * q + 75 + 2 * w → g x = f x) : VC_ g q k w' := by
  intro hs
  rw [h1 _ (by omega) (by omega)] at hs
  obtain ⟨i, n, a, b, c, p, d⟩ := h hs
  refine ⟨i, n, by rw [h1 _ (by omega) (by omega)]; exact a, by rw [h1 _ (by omega) (by omega)]; exact b, by omega, p, ?_⟩
  rw [dp_frame (f := f) n (fun j x y => h2 j (by omega) (by omega))]
  exact d
def VT_ (f : Nat → Int32) (q w : Nat) : Prop := ∃ c : Nat, (f (680 * q)).toInt = (c : Int) ∧ c ≤ 24 ∧ ∀ k, k < c → VC_ f q k w
theorem VT_.fr {f g : Nat → Int32} {q w : Nat} (h : VT_ f q w) (hw : w ≤ 302) (h1 : ∀ x, 680 * q ≤ x → x < 680 * q + 680 → g x = f x) : VT_ g q w := by
  obtain ⟨c, a, b, d⟩ := h
  exact ⟨c, by rw [h1 _ (by omega) (by omega)]; exact a, b, fun k hk => (d k hk).fr (Nat.le_refl _) (fun x y z => h1 x (by omega) (by omega)) (fun x y z => h1 x (by omega) (by omega))⟩
/-- what reading a text may change -/
def CF_ (q : Nat) (s t : Sg) : Prop := (∀ k, k ≠ 27 → k ≠ 30 → k ≠ 32 → gi t k = gi s k) ∧ (∀ j, j < 7 ∨ 21 < j → gi t 27 j = gi s 27 j) ∧ t.2.2 = s.2.2 ∧ ∀ x, x < 680 * q ∨ 680 * q + 680 ≤ x → gi t 30 x = gi s 30 x
theorem CF_.rf {q : Nat} {s : Sg} : CF_ q s s := ⟨fun _ _ _ _ => rfl, fun _ _ => rfl, rfl, fun _ _ => rfl⟩
theorem CF_.tr {q : Nat} {s t u : Sg} (h1 : CF_ q s t) (h2 : CF_ q t u) : CF_ q s u := ⟨fun k a b c => by rw [h2.1 k a b c, h1.1 k a b c], fun j hj => by rw [h2.2.1 j hj, h1.2.1 j hj], by rw [h2.2.2.1, h1.2.2.1], fun x hx => by rw [h2.2.2.2 x hx, h1.2.2.2 x hx]⟩
theorem CF_.si {q j : Nat} {s t : Sg} {v : Int32} (h : CF_ q s t) (hj : 7 ≤ j ∧ j ≤ 21) : CF_ q s (si t 27 j v) := ⟨fun k a b c => by rw [gsi_f a]; exact h.1 k a b c, fun i hi => by rw [gsi_ne (by omega)]; exact h.2.1 i hi, h.2.2.1, fun x hx => by rw [gsi_k (by decide)]; exact h.2.2.2 x hx⟩
theorem CFs0_ {q j : Nat} {s t : Sg} {v : Int32} (h : CF_ q s t) (hj : 680 * q ≤ j ∧ j < 680 * q + 680) : CF_ q s (si t 30 j v) := ⟨fun k a b c => by rw [gsi_f b]; exact h.1 k a b c, fun i hi => by rw [gsi_k (by decide)]; exact h.2.1 i hi, h.2.2.1, fun x hx => by rw [gsi_ne (by omega)]; exact h.2.2.2 x hx⟩
theorem NT_.c {q : Nat} {s t : Sg} (h : NT_ s t) : CF_ q s t := ⟨fun k a _ _ => h.1 k a, fun j hj => h.2.1 j (by omega), h.2.2, fun x _ => by rw [h.1 30 (by decide)]⟩
theorem RF_.c {q : Nat} {s t : Sg} (h : RF_ s t) (h2 : ∀ x, x < 680 * q ∨ 680 * q + 680 ≤ x → gi t 30 x = gi s 30 x) : CF_ q s t := ⟨h.1, fun j hj => h.2.1 j (by omega), h.2.2, h2⟩
/-- between clauses -/
def CI_ (s : Sg) (q : Nat) (t : Sg) : Prop := ∃ i c : Nat, CF_ q s t ∧ (gi t 27 12).toInt = ((680 * q : Nat) : Int) ∧ (gi t 27 14).toInt = (i : Int) ∧ (gi t 27 18).toInt = 0 ∧ TK_ t ∧ (i : Int) ≤ (gi t 27 8).toInt ∧ (gi t 30 (680 * q)).toInt = (c : Int) ∧ c ≤ 24 ∧ ∀ k, k < c → VC_ (gi t 30) q k i
/-- behind a clause, or behind the text: what was whole still is -/
def PC_ (s : Sg) (q : Nat) (t : Sg) (p : Int32 × Sg) : Prop := CF_ q s p.2 ∧ VT_ (gi p.2 30) q 302 ∧ (p.1 = 0 → CI_ s q p.2 ∧ (gi t 27 8).toInt < (gi p.2 27 8).toInt)
