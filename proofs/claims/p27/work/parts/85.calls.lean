theorem bd28_rd {j : Nat} {v : Int} (h : 55 ≤ j) (h2 : j < 160) : Bd10_ 28 j v := ⟨by omega, by omega, by omega, by omega, by omega, by omega⟩
/-- the slots that only thing, image and back change -/
def R10_ (s t : Sg) : Prop := N10_ s t ∧ gi t 29 = gi s 29 ∧ ∀ j, kp_ j → j ≠ 10 → gi t 28 j = gi s 28 j
def rdok_ (s : Sg) (a b : Int32) : Bool := inR a 0 1 && (inR b 0 2 && !(gi s 28 10 == 10))
theorem reading_ok {s : Sg} {a b : Int32} (h : I10_ s) (hv : VA_ s) : wp_ (fX10_reading a b s) (fun q => R10_ s q.2 ∧ (rdok_ s a b = true → q.1 = gi s 28 10 + 1 ∧ gi q.2 28 10 = gi s 28 10 + 1) ∧ (rdok_ s a b = false → q.1 = -1 ∧ q.2 = s)) := by
  generalize hQ : (fun q : Int32 × Sg => R10_ s q.2 ∧ (rdok_ s a b = true → q.1 = gi s 28 10 + 1 ∧ gi q.2 28 10 = gi s 28 10 + 1) ∧ (rdok_ s a b = false → q.1 = -1 ∧ q.2 = s)) = Q
  have L1 : (1 : Int32).toInt = 1 := rfl
  have L2 : (2 : Int32).toInt = 2 := rfl
  have L3 : (3 : Int32).toInt = 3 := rfl
  have L4 : (4 : Int32).toInt = 4 := rfl
  have L5 : (5 : Int32).toInt = 5 := rfl
  have L6 : (6 : Int32).toInt = 6 := rfl
  have L7 : (7 : Int32).toInt = 7 := rfl
  have L8 : (8 : Int32).toInt = 8 := rfl
  have L9 : (9 : Int32).toInt = 9 := rfl
  have L10 : (10 : Int32).toInt = 10 := rfl
  have L55 : (55 : Int32).toInt = 55 := rfl
  have b10 : 0 ≤ (gi s 28 10).toInt ∧ (gi s 28 10).toInt ≤ 10 := (h 28 10).2.2.2.2.1 rfl
  have bad : rdok_ s a b = false → wp_ (some ((-1 : Int32), s)) Q := fun e => wp_some_i (by rw [← hQ]; exact ⟨⟨N10_.rf h, rfl, fun _ _ _ => rfl⟩, fun e' => (by rw [e] at e'; exact nomatch e'), fun _ => ⟨rfl, rfl⟩⟩)
  unfold fX10_reading
  rw [ixl_1, ixl_2, ixl_3, ixl_4, ixl_5, ixl_6, ixl_10]
  refine wp_bnd_e (isIn_eq _ _ _ _) (wp_if_i (fun hb => bad (by unfold rdok_; rw [b2i_eq hb]; rfl)) (fun hb1 => ?_))
  refine wp_bnd_e (isIn_eq _ _ _ _) (wp_if_i (fun hb => bad (by unfold rdok_; rw [b2i_eq hb]; cases inR a 0 1 <;> rfl)) (fun hb2 => ?_))
  refine wp_if_i (fun he => bad (by unfold rdok_; rw [he]; cases inR a 0 1 <;> cases inR b 0 2 <;> rfl)) (fun hne => ?_)
  have hok : rdok_ s a b = true := by
    unfold rdok_
    rw [b2i_ne hb1, b2i_ne hb2]
    simp [hne]
  have hne' := ne_ti hne
  have m := tm_10 (x := gi s 28 10) (by omega) (by omega)
  have e0 := ti_add (x := 55) (y := 10 * gi s 28 10) (by omega) (by omega)
  refine wp_bv_i (fun v ev => ?_)
  rw [← ev] at e0
  have e1 := ti_add (x := v) (y := 1) (by omega) (by omega)
  have e2 := ti_add (x := v) (y := 2) (by omega) (by omega)
  have e3 := ti_add (x := v) (y := 3) (by omega) (by omega)
  have e4 := ti_add (x := v) (y := 4) (by omega) (by omega)
  have e5 := ti_add (x := v) (y := 5) (by omega) (by omega)
  have e6 := ti_add (x := v) (y := 6) (by omega) (by omega)
  have e7 := ti_add (x := v) (y := 7) (by omega) (by omega)
  have e8 := ti_add (x := v) (y := 8) (by omega) (by omega)
  have e9 := ti_add (x := v) (y := 9) (by omega) (by omega)
  have st : ∀ {u : Sg} {x w : Int32}, K10_ s u → 55 ≤ x.toInt → x.toInt < 160 → K10_ s (si u 28 (ix x) w) := by
    intro u x w hu h1 h2
    have i : ix x = x.toInt.toNat := rfl
    exact hu.si (by decide) (bd28_rd (by omega) (by omega)) (fun _ hk => by unfold kp_ at hk; omega)
  refine wp_chk_i (inb_ti (by omega) (by omega)) (wp_bv_i (fun s1 d1 => ?_))
  have k1 : K10_ s s1 := by rw [d1]; exact st (K10_.rf h) (by omega) (by omega)
  clear d1
  refine wp_chk_i (inb_ti (by omega) (by omega)) (wp_bv_i (fun s2 d2 => ?_))
  have k2 : K10_ s s2 := by rw [d2]; exact st k1 (by omega) (by omega)
  clear d2
  refine wp_chk_i (inb_ti (by omega) (by omega)) (wp_bv_i (fun s3 d3 => ?_))
  have k3 : K10_ s s3 := by rw [d3]; exact st k2 (by omega) (by omega)
  clear d3
  refine wp_chk_i (inb_ti (by omega) (by omega)) (wp_bv_i (fun s4 d4 => ?_))
  have k4 : K10_ s s4 := by rw [d4]; exact st k3 (by omega) (by omega)
  clear d4
  refine wp_chk_i (inb_ti (by omega) (by omega)) (wp_bv_i (fun s5 d5 => ?_))
  have k5 : K10_ s s5 := by rw [d5]; exact st k4 (by omega) (by omega)
  clear d5
  refine wp_chk_i (inb_ti (by omega) (by omega)) (wp_bv_i (fun s6 d6 => ?_))
  have k6 : K10_ s s6 := by rw [d6]; exact st k5 (by omega) (by omega)
  clear d6
  refine wp_chk_i (inb_ti (by omega) (by omega)) (wp_bv_i (fun s7 d7 => ?_))
  have k7 : K10_ s s7 := by rw [d7]; exact st k6 (by omega) (by omega)
  clear d7
  refine wp_chk_i (inb_ti (by omega) (by omega)) (wp_bv_i (fun s8 d8 => ?_))
  have k8 : K10_ s s8 := by rw [d8]; exact st k7 (by omega) (by omega)
  clear d8
  obtain ⟨t, et, bt⟩ := nameNow_b k8.1.1
  have kt := k8.tr bt.k
  refine wp_bnv_e et (wp_bnd_i (load_ok kt.1.1 (kt.v hv)) (fun r u hu => ?_))
  dsimp only at hu
  have ku := kt.tr hu.k
  refine wp_chk_i (inb_ti (by omega) (by omega)) (wp_bv_i (fun s9 d9 => ?_))
  have k9 : K10_ s s9 := by rw [d9]; exact st ku (by omega) (by omega)
  clear d9
  refine wp_bnd_i (load_ok k9.1.1 (k9.v hv)) (fun r2 w hw => ?_)
  dsimp only at hw
  have kw := k9.tr hw.k
  refine wp_chk_i (inb_ti (by omega) (by omega)) (wp_bv_i (fun s10 d10 => ?_))
  have k10 : K10_ s s10 := by rw [d10]; exact st kw (by omega) (by omega)
  clear d10
  refine wp_bv_i (fun s11 d11 => wp_some_i ?_)
  have g10 : gi s10 28 10 = gi s 28 10 := k10.2.2 10 (Or.inr (Or.inl rfl))
  have ea := ti_add (x := gi s 28 10) (y := 1) (by omega) (by omega)
  have g11 : gi s11 28 10 = gi s 28 10 + 1 := by rw [d11, gsi_eq, g10]
  rw [← hQ]
  refine ⟨⟨?_, ?_, ?_⟩, fun _ => ⟨g11, g11⟩, fun e' => (by rw [hok] at e'; exact nomatch e')⟩
  · show N10_ s s11
    rw [d11, g10]
    exact k10.1.si (by decide) ⟨by omega, by omega, by omega, by omega, fun _ => by rw [ea]; omega, by omega⟩
  · show gi s11 29 = _
    rw [d11, gsi_f (by decide)]; exact k10.2.1
  · intro j hj hn
    show gi s11 28 j = _
    rw [d11, gsi_ne hn]; exact k10.2.2 j hj
theorem rest_ok {s : Sg} {a b c : Int32} (h : I10_ s) (hv : VA_ s) : wp_ (fX10_rest a b c s) (fun q => B10_ s q.2) := by
  generalize hQ : (fun q : Int32 × Sg => B10_ s q.2) = Q
  have L1 : (1 : Int32).toInt = 1 := rfl
  have L99 : (99 : Int32).toInt = 99 := rfl
  have fin : ∀ (r : Int32) u, B10_ s u → wp_ (some (r, u)) Q := fun r u hu => wp_some_i (by rw [← hQ]; exact hu)
  unfold fX10_rest
  refine wp_bnd_e (isIn_eq _ _ _ _) (wp_if_i (fun _ => fin _ _ (B10_.rf h)) (fun _ => ?_))
  refine wp_bnd_e (isIn_eq _ _ _ _) (wp_if_i (fun _ => fin _ _ (B10_.rf h)) (fun hb => ?_))
  have hb' := inR_iff.mp (b2i_ne hb)
  refine wp_bnd_e (isIn_eq _ _ _ _) (wp_if_i (fun _ => fin _ _ (B10_.rf h)) (fun _ => ?_))
  refine wp_bv_i (fun v7 _ => ?_)
  refine wp_jn (fun k => ∀ x y u, B10_ s u → wp_ (k x y u) Q) (fun x y u hu => wp_if_i (fun _ => fin _ _ hu) (fun _ => fin _ _ hu)) (fun k11 hk11 => ?_)
  refine lo6_i (fun (_ _ _ _ x : Int32) u => 0 ≤ x.toInt ∧ x.toInt ≤ 99 ∧ B10_ s u) (fun _ _ _ _ x u => (100 - x.toInt).toNat) ?_ FU v7 0 0 0 0 s ⟨by decide +kernel, by decide +kernel, B10_.rf h⟩ (show (100 - (0 : Int32).toInt).toNat < 1000000000 by decide +kernel)
  rintro rec w4 w5 w6 w7 x u ⟨x1, x2, bu⟩ hr
  unfold fX10_rest_53_b
  refine wp_if_i (fun _ => hk11 _ _ _ bu) (fun hlt => ?_)
  have hlt' := nle_ti hlt
  refine wp_bv_i (fun v18 _ => wp_bv_i (fun v19 _ => ?_))
  generalize (gi u 28 (ix 4) + x - (gi u 28 (ix 4) + x) / 24 * 24) = hh
  obtain ⟨t, et, bt⟩ := name_b (a := hh) (b := gi u 28 (ix 5)) (c := v18) bu.1.1
  have bt' := bu.tr bt
  refine wp_bnv_e et (wp_bnd_i (load_ok bt'.1.1 (bt'.v hv)) (fun r1 w1 h1 => ?_))
  dsimp only at h1
  have bw1 := bt'.tr h1
  refine wp_bnd_i (load_ok bw1.1.1 (bw1.v hv)) (fun r2 w2 h2 => ?_)
  dsimp only at h2
  have bw2 := bw1.tr h2
  refine wp_bnd_s (tX10_beamBy _ _ w2 bw2.1.1) (fun r3 => ?_)
  refine wp_jn (fun k => ∀ y, wp_ (k y) Q) ?_ (fun k28 hk28 => wp_if_i (fun _ => hk28 _) (fun _ => hk28 _))
  intro y
  refine wp_jn (fun k => ∀ y z, wp_ (k y z) Q) ?_ (fun k31 hk31 => wp_if_i (fun _ => hk31 _ _) (fun _ => hk31 _ _))
  intro y2 y3
  refine wp_bv_i (fun v32 _ => ?_)
  refine wp_jn (fun k => ∀ y, wp_ (k y) Q) ?_ (fun k34 hk34 => wp_if_i (fun _ => hk34 _) (fun _ => hk34 _))
  intro y4
  refine wp_jn (fun k => ∀ y, wp_ (k y) Q) ?_ (fun k36 hk36 => wp_if_i (fun _ => hk36 _) (fun _ => hk36 _))
  intro y5
  refine wp_bv_i (fun v ev => ?_)
  have e := ti_add (x := x) (y := 1) (by omega) (by omega)
  rw [← ev] at e
  exact hr _ _ _ _ v w2 ⟨by omega, by omega, bw2⟩ (by omega)
theorem bent_ok {s : Sg} {a b : Int32} (h : I10_ s) (hv : VA_ s) : wp_ (fX10_bent a b s) (fun q => K10_ s q.2) := by
  generalize hQ : (fun q : Int32 × Sg => K10_ s q.2) = Q
  have L0 : (0 : Int32).toInt = 0 := rfl
  have L1 : (1 : Int32).toInt = 1 := rfl
  have L20 : (20 : Int32).toInt = 20 := rfl
  have b10 : 0 ≤ (gi s 28 10).toInt ∧ (gi s 28 10).toInt ≤ 10 := (h 28 10).2.2.2.2.1 rfl
  have fin : ∀ (r : Int32) u, K10_ s u → wp_ (some (r, u)) Q := fun r u hu => wp_some_i (by rw [← hQ]; exact hu)
  unfold fX10_bent
  refine wp_bnd_e (isIn_eq _ _ _ _) (wp_if_i (fun _ => fin _ _ (K10_.rf h)) (fun _ => ?_))
  refine wp_bnd_e (isIn_eq _ _ _ _) (wp_if_i (fun _ => fin _ _ (K10_.rf h)) (fun _ => ?_))
  refine wp_jn (fun k => ∀ u, K10_ s u → wp_ (k u) Q) ?_ (fun k6 hk6 => ?_)
  · intro u ku
    have g10 : gi u 28 10 = gi s 28 10 := ku.2.2 10 (Or.inr (Or.inl rfl))
    have hu10 := congrArg Int32.toInt g10
    refine wp_jn (fun k => ∀ x y, wp_ (k x y u) Q) (fun x y => wp_if_i (fun _ => fin _ _ ku) (fun _ => fin _ _ ku)) (fun k10 hk10 => ?_)
    refine lo4_i (fun (_ _ x : Int32) w => 1 ≤ x.toInt ∧ x.toInt ≤ 21 ∧ w = u) (fun _ _ x w => (22 - x.toInt).toNat) ?_ FU 0 (-1) 1 u ⟨by decide +kernel, by decide +kernel, rfl⟩ (show (22 - (1 : Int32).toInt).toNat < 1000000000 by decide +kernel)
    rintro rec p3 p4 x w ⟨x1, x2, rfl⟩ hr
    unfold fX10_bent_61_b
    refine wp_if_i (fun _ => hk10 _ _) (fun hlt => ?_)
    have hlt' := nlt_ti hlt
    refine wp_jn (fun k => ∀ y z, wp_ (k y z w) Q) ?_ (fun k18 hk18 => ?_)
    · intro y z
      refine wp_bv_i (fun v ev => ?_)
      have e := ti_add (x := x) (y := 1) (by omega) (by omega)
      rw [← ev] at e
      exact hr y z v w ⟨by omega, by omega, rfl⟩ (by omega)
    · refine lo4_i (fun (_ _ x : Int32) t => 1 ≤ x.toInt ∧ x.toInt ≤ 21 ∧ t = w) (fun _ _ x w => (22 - x.toInt).toNat) ?_ FU p3 p4 1 w ⟨by decide +kernel, by decide +kernel, rfl⟩ (show (22 - (1 : Int32).toInt).toNat < 1000000000 by decide +kernel)
      rintro rec2 q3 q4 z t ⟨z1, z2, rfl⟩ hr2
      unfold fX10_bent_71_b
      refine wp_if_i (fun _ => hk18 _ _) (fun hlt2 => ?_)
      have hlt2' := nlt_ti hlt2
      refine wp_jn (fun k => ∀ y, wp_ (k y t) Q) ?_ (fun k26 hk26 => ?_)
      · intro y
        refine wp_jn (fun k => ∀ y z, wp_ (k y z) Q) ?_ (fun k29 hk29 => ?_)
        · intro y3 y4
          refine wp_bv_i (fun v ev => ?_)
          have e := ti_add (x := z) (y := 1) (by omega) (by omega)
          rw [← ev] at e
          exact hr2 y3 y4 v t ⟨by omega, by omega, rfl⟩ (by omega)
        · refine wp_if_i (fun _ => hk29 _ _) (fun _ => wp_bv_i (fun v31 _ => ?_))
          exact wp_jn (fun k => ∀ y, wp_ (k y) Q) (fun y => hk29 _ _) (fun k33 hk33 => wp_if_i (fun _ => hk33 _) (fun _ => hk33 _))
      · refine lo3_i (fun (_ : Bool) (y : Int32) r => 0 ≤ y.toInt ∧ y.toInt ≤ 10 ∧ r = t) (fun _ y r => (11 - y.toInt).toNat) ?_ FU true 0 t ⟨by decide +kernel, by decide +kernel, rfl⟩ (show (11 - (0 : Int32).toInt).toNat < 1000000000 by decide +kernel)
        rintro rec3 q y r ⟨y1, y2, rfl⟩ hr3
        unfold fX10_bent_84_b
        rw [ixl_10]
        refine wp_if_i (fun _ => hk26 _) (fun hlt3 => ?_)
        have hlt3' := nle_ti hlt3
        refine wp_jn (fun k => ∀ b, wp_ (k b r) Q) ?_ (fun k39 hk39 => ?_)
        · intro b
          refine wp_bv_i (fun v ev => ?_)
          have e := ti_add (x := y) (y := 1) (by omega) (by omega)
          rw [← ev] at e
          exact hr3 b v r ⟨by omega, by omega, rfl⟩ (by omega)
        · refine wp_jn (fun k => wp_ (k r) Q) (hk39 _) (fun k42 hk42 => ?_)
          refine wp_if_i (fun _ => hk42) (fun _ => wp_chk_i (inb_ti (by omega) (by omega)) ?_)
          exact wp_bnd_s (tX10_isRead _ _ _ _ r ku.1.1 (by omega)) (fun r7 => wp_if_i (fun _ => hk42) (fun _ => hk39 _))
  · refine lo2_i (fun (x : Int32) u => 0 ≤ x.toInt ∧ x.toInt ≤ 10 ∧ K10_ s u) (fun x u => (11 - x.toInt).toNat) ?_ FU 0 s ⟨by decide +kernel, by decide +kernel, K10_.rf h⟩ (show (11 - (0 : Int32).toInt).toNat < 1000000000 by decide +kernel)
    rintro rec x u ⟨x1, x2, ku⟩ hr
    have g10 : gi u 28 10 = gi s 28 10 := ku.2.2 10 (Or.inr (Or.inl rfl))
    unfold fX10_bent_24_b
    rw [ixl_10, g10]
    refine wp_if_i (fun _ => hk6 u ku) (fun hlt => ?_)
    have hlt' := nle_ti hlt
    refine wp_bnd_i (borneBy_ok ku.1.1 (ku.v hv) (by omega)) (fun r w hw => ?_)
    dsimp only at hw
    have kw := ku.tr hw.k
    refine wp_chk_i (inb_ti (by omega) (by omega)) (wp_bv_i (fun t et => wp_bv_i (fun v ev => ?_)))
    have e := ti_add (x := x) (y := 1) (by omega) (by omega)
    rw [← ev] at e
    exact hr v t ⟨by omega, by omega, by rw [et]; exact kw.si (by decide) trivial (fun e => absurd e (by decide))⟩ (by omega)
