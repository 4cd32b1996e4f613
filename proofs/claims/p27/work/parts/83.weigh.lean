theorem clauseOf_x {s : Sg} {a : Int32} (h : I10_ s) (hv : VA_ s) : ∃ r : Int32, fX10_clauseOf a s = some (r, s) ∧ (0 ≤ r.toInt → ∃ q k : Nat, q < 4 ∧ (gi s 28 8).toInt = (q : Int) ∧ r.toInt = (k : Int) ∧ k < 24 ∧ VC_ (gi s 30) q k 302 ∧ gi s 30 (680 * q + 1 + 3 * k) = a) := by
  have L0 : (0 : Int32).toInt = 0 := rfl
  have L1 : (1 : Int32).toInt = 1 := rfl
  have b8 : -1 ≤ (gi s 28 8).toInt ∧ (gi s 28 8).toInt ≤ 3 := (h 28 8).2.2.1 rfl
  have hw : wp_ (fX10_clauseOf a s) (fun p => p.2 = s ∧ (0 ≤ p.1.toInt → ∃ q k : Nat, q < 4 ∧ (gi s 28 8).toInt = (q : Int) ∧ p.1.toInt = (k : Int) ∧ k < 24 ∧ VC_ (gi s 30) q k 302 ∧ gi s 30 (680 * q + 1 + 3 * k) = a)) := by
    generalize hQ : (fun p : Int32 × Sg => p.2 = s ∧ (0 ≤ p.1.toInt → ∃ q k : Nat, q < 4 ∧ (gi s 28 8).toInt = (q : Int) ∧ p.1.toInt = (k : Int) ∧ k < 24 ∧ VC_ (gi s 30) q k 302 ∧ gi s 30 (680 * q + 1 + 3 * k) = a)) = Q
    have none_ : wp_ (some ((-1 : Int32), s)) Q := wp_some_i (by rw [← hQ]; exact ⟨rfl, fun e => absurd e (show ¬ 0 ≤ (-1 : Int32).toInt by decide +kernel)⟩)
    unfold fX10_clauseOf
    refine lo1_i (fun x : Int32 => 0 ≤ x.toInt ∧ x.toInt ≤ 24) (fun x => (25 - x.toInt).toNat) ?_ FU 0 (by decide +kernel) (show (25 - (0 : Int32).toInt).toNat < 1000000000 by decide +kernel)
    rintro rec x ⟨x1, x2⟩ hr
    unfold fX10_clauseOf_2_b
    rw [ixl_8]
    refine wp_if_i (fun _ => none_) (fun h0 => ?_)
    have h0' := nlt_ti h0
    obtain ⟨q, hq⟩ : ∃ q : Nat, (gi s 28 8).toInt = (q : Int) := ⟨(gi s 28 8).toInt.toNat, by omega⟩
    have m := tm_680 (x := gi s 28 8) (by omega) (by omega)
    have m3 := tm_3 (x := x) (by omega) (by omega)
    have e1 := ti_add (x := 680 * gi s 28 8) (y := 1) (by omega) (by omega)
    have e2 := ti_add (x := 680 * gi s 28 8 + 1) (y := 3 * x) (by omega) (by omega)
    have i1 : ix (680 * gi s 28 8) = 680 * q := by show (680 * gi s 28 8).toInt.toNat = _; omega
    obtain ⟨c, c1, c2, c3⟩ := hv q (by omega)
    refine wp_chk_i (inb_ti (by omega) (by omega)) ?_
    rw [i1]
    refine wp_if_i (fun _ => none_) (fun hc => ?_)
    have hc' := nle_ti hc
    have i2 : ix (680 * gi s 28 8 + 1 + 3 * x) = 680 * q + 1 + 3 * x.toInt.toNat := by show (680 * gi s 28 8 + 1 + 3 * x).toInt.toNat = _; omega
    refine wp_chk_i (inb_ti (by omega) (by omega)) ?_
    rw [i2]
    refine wp_if_i (fun hs => wp_some_i ?_) (fun _ => wp_bv_i (fun v ev => ?_))
    · rw [← hQ]
      exact ⟨rfl, fun _ => ⟨q, x.toInt.toNat, by omega, hq, by show x.toInt = _; omega, by omega, c3 _ (by omega), hs⟩⟩
    · have e := ti_add (x := x) (y := 1) (by omega) (by omega)
      rw [← ev] at e
      exact hr v ⟨by omega, by omega⟩ (by omega)
  obtain ⟨⟨r, u⟩, e, h1, h2⟩ := wp_ex hw
  dsimp only at h1
  subst h1
  exact ⟨r, e, h2⟩
theorem borne_ok {s : Sg} {a b c d : Int32} (h : I10_ s) (hv : VA_ s) : wp_ (fX10_borne a b c d s) (fun p => B10_ s p.2) := by
  generalize hQ : (fun p : Int32 × Sg => B10_ s p.2) = Q
  obtain ⟨r, er, hr⟩ := clauseOf_x (a := 0) h hv
  unfold fX10_borne
  refine wp_bnd_e er (wp_if_i (fun h0 => ?_) (fun _ => wp_some_i (by rw [← hQ]; exact B10_.rf h)))
  have h0' : 0 ≤ r.toInt := le_ti h0
  obtain ⟨q, k, q4, q8, rk, k24, vc, so⟩ := hr h0'
  refine wp_bv_i (fun s3 e3 => wp_bv_i (fun s4 e4 => wp_bv_i (fun s5 e5 => wp_bv_i (fun s6 e6 => ?_))))
  have b6 : B10_ s s6 := by rw [e6, e5, e4, e3]; exact ((((B10_.rf h).si33).si33).si33).si33
  have g28 : gi s6 28 = gi s 28 := b6.2 28 (by decide) (by decide)
  have g30 : gi s6 30 = gi s 30 := b6.2 30 (by decide) (by decide)
  clear e6 e5 e4 e3
  refine wp_bnv_i (work_ok b6.1.1 q4 (by rw [g28]; exact q8) rk k24 (by rw [g30]; exact vc) (by rw [g30, so]; decide +kernel)) (fun t ht => ?_)
  refine wp_bnd_s (tX10_held _ _ _ t ht.1.1) (fun r => wp_some_i ?_)
  rw [← hQ]
  exact b6.tr ht
theorem thingAt_x {s : Sg} {a : Int32} (h : -1 ≤ a.toInt ∧ a.toInt ≤ 12) : ∃ r : Int32, fX10_thingAt a s = some (r, s) ∧ r.toInt = 15 + 3 * a.toInt := by
  have m := tm_3 (x := a) (by omega) (by omega)
  have L : (15 : Int32).toInt = 15 := rfl
  exact ⟨15 + 3 * a, rfl, by rw [ti_add (by omega) (by omega)]; omega⟩
theorem panOf_x {s : Sg} {a : Int32} (h : 0 ≤ a.toInt ∧ a.toInt ≤ 11) : fX10_panOf a s = some (gi s 28 (17 + 3 * a.toInt.toNat), s) := by
  obtain ⟨r, e, hr⟩ := thingAt_x (s := s) (a := a) (by omega)
  have L : (2 : Int32).toInt = 2 := rfl
  have e2 := ti_add (x := r) (y := 2) (by omega) (by omega)
  have i2 : ix (r + 2) = 17 + 3 * a.toInt.toNat := by show (r + 2).toInt.toNat = _; omega
  unfold fX10_panOf
  rw [e]
  show chk (inb 720 (r + 2)) (some (gi s 28 (ix (r + 2)), s)) = _
  rw [inb_ti (by omega) (by omega), i2]
  rfl
theorem isThing_x {s : Sg} (a : Int32) (h : I10_ s) : ∃ b, fX10_isThing a s = some (b, s) ∧ (b = true → 0 ≤ a.toInt ∧ a.toInt < (gi s 28 0).toInt ∧ a.toInt ≤ 11) := by
  have b0 : 0 ≤ (gi s 28 0).toInt ∧ (gi s 28 0).toInt ≤ 12 := (h 28 0).1 rfl
  obtain ⟨⟨b, u⟩, e, h1, h2⟩ := wp_ex (tX10_isThing a s h)
  dsimp only at h1 h2
  subst h1
  refine ⟨b, e, fun hb => ?_⟩
  rw [hb] at h2
  have : (b2i true).toInt = 1 := rfl
  omega
theorem bears_ok {s : Sg} {a p : Int32} (h : I10_ s) (hv : VA_ s) (ha : 0 ≤ a.toInt ∧ a.toInt ≤ 11) : wp_ (fX10_bears a p s) (fun q => B10_ s q.2) := by
  obtain ⟨r, e, hr⟩ := thingAt_x (s := s) (a := a) (by omega)
  have L : (1 : Int32).toInt = 1 := rfl
  have e1 := ti_add (x := r) (y := 1) (by omega) (by omega)
  unfold fX10_bears
  refine wp_bnd_e e (wp_chk_i (inb_ti (by omega) (by omega)) (wp_bnd_e e (wp_chk_i (inb_ti (by omega) (by omega)) ?_)))
  exact wp_bnd_i (borne_ok h hv) (fun _ _ hb => wp_some_i hb)
theorem load_ok {s : Sg} {p : Int32} (h : I10_ s) (hv : VA_ s) : wp_ (fX10_load p s) (fun q => B10_ s q.2) := by
  generalize hQ : (fun q : Int32 × Sg => B10_ s q.2) = Q
  have L1 : (1 : Int32).toInt = 1 := rfl
  have b0 : 0 ≤ (gi s 28 0).toInt ∧ (gi s 28 0).toInt ≤ 12 := (h 28 0).1 rfl
  unfold fX10_load
  refine lo3_i (fun (x y : Int32) u => 0 ≤ y.toInt ∧ y.toInt ≤ 12 ∧ B10_ s u) (fun x y u => (13 - y.toInt).toNat) ?_ FU 0 0 s ⟨by decide +kernel, by decide +kernel, B10_.rf h⟩ (show (13 - (0 : Int32).toInt).toNat < 1000000000 by decide +kernel)
  rintro rec x y u ⟨y1, y2, bu⟩ hr
  unfold fX10_load_4_b
  rw [ixl_0]
  refine wp_if_i (fun _ => wp_some_i (by rw [← hQ]; exact bu)) (fun hlt => ?_)
  have hlt' := nle_ti hlt
  have g28 : gi u 28 = gi s 28 := bu.2 28 (by decide) (by decide)
  rw [g28] at hlt'
  refine wp_bnd_e (panOf_x (by omega)) ?_
  refine wp_jn (fun k => ∀ (a b : Int32) w, B10_ s w → wp_ (k a b w) Q) ?_ (fun k9 hk9 => ?_)
  · intro a b w hw
    refine wp_bv_i (fun v10 _ => wp_bv_i (fun v11 e11 => ?_))
    have e := ti_add (x := y) (y := 1) (by omega) (by omega)
    rw [← e11] at e
    exact hr v10 v11 w ⟨by omega, by omega, hw⟩ (by omega)
  · refine wp_if_i (fun _ => ?_) (fun _ => hk9 _ _ _ bu)
    exact wp_bnd_i (bears_ok bu.1.1 (bu.v hv) (by omega)) (fun r w hw => hk9 _ _ _ (bu.tr hw))
theorem name_b {s : Sg} {a b c : Int32} (h : I10_ s) : ∃ t, fX10_name a b c s = some t ∧ B10_ s t := ⟨_, rfl, (((B10_.rf h).si33).si33).si33⟩
theorem nameNow_b {s : Sg} (h : I10_ s) : ∃ t, fX10_nameNow s = some t ∧ B10_ s t := ⟨_, rfl, (((B10_.rf h).si33).si33).si33⟩
theorem isSafe_ok {s : Sg} {a b : Int32} (h : I10_ s) (hv : VA_ s) : wp_ (fX10_isSafe a b s) (fun q => B10_ s q.2) := by
  generalize hQ : (fun q : Bool × Sg => B10_ s q.2) = Q
  obtain ⟨r, er, hr⟩ := clauseOf_x (a := 1) h hv
  unfold fX10_isSafe
  refine wp_bnd_e er (wp_if_i (fun h0 => ?_) (fun _ => wp_some_i (by rw [← hQ]; exact B10_.rf h)))
  have h0' : 0 ≤ r.toInt := le_ti h0
  obtain ⟨q, k, q4, q8, rk, k24, vc, so⟩ := hr h0'
  refine wp_bv_i (fun s3 e3 => wp_bv_i (fun s4 e4 => ?_))
  have b4 : B10_ s s4 := by rw [e4, e3]; exact ((B10_.rf h).si33).si33
  clear e4 e3
  refine wp_bnd_s (tX10_moment _ _ s4 b4.1.1) (fun r5 => wp_bv_i (fun s7 e7 => ?_))
  have b7 : B10_ s s7 := by rw [e7]; exact b4.si33
  clear e7
  refine wp_bnd_s (tX10_without _ s7 b7.1.1) (fun r8 => wp_bv_i (fun s6 e6 => ?_))
  have b6 : B10_ s s6 := by rw [e6]; exact b7.si33
  clear e6
  have g28 : gi s6 28 = gi s 28 := b6.2 28 (by decide) (by decide)
  have g30 : gi s6 30 = gi s 30 := b6.2 30 (by decide) (by decide)
  refine wp_bnv_i (work_ok b6.1.1 q4 (by rw [g28]; exact q8) rk k24 (by rw [g30]; exact vc) (by rw [g30, so]; decide +kernel)) (fun t ht => ?_)
  refine wp_chk_i (bool_ti (ht.1.1 35 (ix 0))) (wp_some_i ?_)
  rw [← hQ]
  exact b6.tr ht
theorem isSafeNow_ok {s : Sg} (h : I10_ s) (hv : VA_ s) : wp_ (fX10_isSafeNow s) (fun q => B10_ s q.2) := by
  unfold fX10_isSafeNow
  obtain ⟨t, et, bt⟩ := nameNow_b h
  refine wp_bnv_e et (wp_bnd_i (load_ok bt.1.1 (bt.v hv)) (fun r u hu => ?_))
  dsimp only at hu
  have bu := bt.tr hu
  refine wp_bnd_i (load_ok bu.1.1 (bu.v hv)) (fun r2 w hw => ?_)
  have bw := bu.tr hw
  exact wp_bnd_i (isSafe_ok bw.1.1 (bw.v hv)) (fun r3 x hx => wp_some_i (bw.tr hx))
theorem of_ok {s : Sg} {a b : Int32} (h : I10_ s) (hv : VA_ s) : wp_ (fX10_of a b s) (fun q => B10_ s q.2) := by
  obtain ⟨r, er, hr⟩ := isThing_x a h
  unfold fX10_of
  refine wp_bnd_e er (wp_if_i (fun _ => wp_some_i (B10_.rf h)) (fun hb => ?_))
  have ha := hr (b2i_ne hb)
  refine wp_bnd_e (isIn_eq _ _ _ _) (wp_if_i (fun _ => wp_some_i (B10_.rf h)) (fun hb2 => ?_))
  have hb' := inR_iff.mp (b2i_ne hb2)
  have L0 : (0 : Int32).toInt = 0 := rfl
  have L4 : (4 : Int32).toInt = 4 := rfl
  obtain ⟨t, et, bt⟩ := nameNow_b h
  refine wp_bnv_e et (wp_if_i (fun _ => ?_) (fun _ => ?_))
  · exact wp_bnd_i (bears_ok bt.1.1 (bt.v hv) (by omega)) (fun r u hu => wp_some_i (bt.tr hu))
  · obtain ⟨r2, e2, hr2⟩ := thingAt_x (s := t) (a := a) (by omega)
    have e3 := ti_add (x := r2) (y := b) (by omega) (by omega)
    exact wp_bnd_e e2 (wp_chk_i (inb_ti (by omega) (by omega)) (wp_some_i bt))
theorem now_ok {s : Sg} {a : Int32} (h : I10_ s) (hv : VA_ s) : wp_ (fX10_now a s) (fun q => B10_ s q.2) := by
  unfold fX10_now
  obtain ⟨t, et, bt⟩ := nameNow_b h
  refine wp_bnv_e et (wp_bnd_i (load_ok bt.1.1 (bt.v hv)) (fun r u hu => ?_))
  dsimp only at hu
  have bu := bt.tr hu
  refine wp_bnd_i (load_ok bu.1.1 (bu.v hv)) (fun r2 w hw => ?_)
  dsimp only at hw
  have bw := bu.tr hw
  refine wp_if_i (fun _ => wp_some_i bw) (fun _ => wp_if_i (fun _ => wp_some_i bw) (fun _ => wp_if_i (fun _ => ?_) (fun _ => wp_if_i (fun _ => ?_) (fun _ => wp_if_i (fun _ => ?_) (fun _ => wp_some_i bw)))))
  · exact wp_bnd_s (tX10_moment _ _ w bw.1.1) (fun r5 => wp_some_i bw)
  · exact wp_bnd_s (tX10_moment _ _ w bw.1.1) (fun r5 => wp_bnd_s (tX10_beamBy _ _ w bw.1.1) (fun r6 => wp_some_i bw))
  · exact wp_bnd_i (isSafe_ok bw.1.1 (bw.v hv)) (fun r3 x hx => wp_if_i (fun _ => wp_some_i (bw.tr hx)) (fun _ => wp_some_i (bw.tr hx)))
