/-! the model's side -/
def KK_ (s t : Sg) : Prop := (∀ k, k < 27 → gi t k = gi s k) ∧ gi t 29 = gi s 29 ∧ ∀ j, kp_ j → gi t 28 j = gi s 28 j
theorem K10_.kk {s t : Sg} (h : K10_ s t) : KK_ s t := ⟨fun k hk => h.1.2.1 k (Or.inl hk), h.2.1, h.2.2⟩
theorem kpan {a : Nat} (h : a ≤ 11) : ¬ kp_ (17 + 3 * a) := by unfold kp_; omega
theorem laysk {s : Sg} {a b : Int32} (h : I10_ s) (hv : VA_ s) (ha : 0 ≤ a.toInt ∧ a.toInt ≤ 11) : wp_ (fX10_lays a b s) (fun q => K10_ s q.2) := by
  have L2 : (2 : Int32).toInt = 2 := rfl
  have tk : ∀ u : Sg, ∃ r : Int32, fX10_thingAt a u = some (r, u) ∧ 0 ≤ (r + 2).toInt ∧ (r + 2).toInt < 720 ∧ ix (r + 2) = 17 + 3 * a.toInt.toNat := by
    intro u
    obtain ⟨r, e, hr⟩ := thingAt_x (s := u) (a := a) (by omega)
    have e2 := ti_add (x := r) (y := 2) (by omega) (by omega)
    refine ⟨r, e, by omega, by omega, ?_⟩
    show (r + 2).toInt.toNat = _; omega
  have st : ∀ {u : Sg} {w : Int32}, K10_ s u → K10_ s (si u 28 (17 + 3 * a.toInt.toNat) w) := fun {u w} hu => hu.si (by decide) (bd28_pan (by omega) (by omega)) (fun _ => kpan (by omega))
  unfold fX10_lays
  refine wp_bnd_e (panOf_x (by omega)) ?_
  obtain ⟨r1, e1, a1, a2, a3⟩ := tk s
  refine wp_bnd_e e1 (wp_chk_i (inb_ti a1 (by omega)) (wp_bv_i (fun s6 e6 => ?_)))
  have n6 : K10_ s s6 := by rw [e6, a3]; exact st (K10_.rf h)
  clear e6
  refine wp_bnd_i (isSafeNow_ok n6.1.1 (n6.v hv)) (fun r7 s8 h8 => ?_)
  dsimp only at h8
  have n8 := n6.tr h8.k
  obtain ⟨r2, e2, b1, b2, b3⟩ := tk s8
  refine wp_bnd_e e2 (wp_chk_i (inb_ti b1 (by omega)) (wp_bv_i (fun s12 e12 => ?_)))
  have n12 : K10_ s s12 := by rw [e12, b3]; exact st n8
  clear e12
  refine wp_if_i (fun _ => wp_some_i n12) (fun _ => ?_)
  refine wp_bnv_i (tkX10_keep s12 n12.1.1) (fun s13 h13 => ?_)
  have n13 := n12.tr h13.2
  obtain ⟨r3, e3, c1, c2, c3⟩ := tk s13
  refine wp_bnd_e e3 (wp_chk_i (inb_ti c1 (by omega)) (wp_bv_i (fun s17 e17 => wp_some_i ?_)))
  show K10_ s s17
  rw [e17, c3]
  exact st n13
theorem putk {s : Sg} {a b : Int32} (h : I10_ s) (hv : VA_ s) : wp_ (fX10_put a b s) (fun q => K10_ s q.2) := by
  obtain ⟨r, er, hr⟩ := isThing_x a h
  unfold fX10_put
  refine wp_bnd_e er (wp_if_i (fun _ => wp_some_i (K10_.rf h)) (fun hb => ?_))
  have ha := hr (b2i_ne hb)
  refine wp_bnd_e (isIn_eq _ _ _ _) (wp_if_i (fun _ => wp_some_i (K10_.rf h)) (fun _ => ?_))
  refine wp_bnd_e (panOf_x (by omega)) (wp_if_i (fun _ => wp_some_i (K10_.rf h)) (fun _ => ?_))
  refine wp_bnd_i (laysk h hv (by omega)) (fun r7 s8 h8 => ?_)
  dsimp only at h8
  refine wp_if_i (fun _ => wp_some_i h8) (fun _ => ?_)
  obtain ⟨t, et, bt⟩ := nameNow_b h8.1.1
  refine wp_bnv_e et ?_
  have nt := h8.tr bt.k
  exact wp_bnd_i (load_ok nt.1.1 (nt.v hv)) (fun r10 s11 h11 => wp_some_i (nt.tr h11.k))
theorem takek {s : Sg} {a : Int32} (h : I10_ s) (hv : VA_ s) : wp_ (fX10_take a s) (fun q => K10_ s q.2) := by
  obtain ⟨r, er, hr⟩ := isThing_x a h
  unfold fX10_take
  refine wp_bnd_e er (wp_if_i (fun _ => wp_some_i (K10_.rf h)) (fun hb => ?_))
  have ha := hr (b2i_ne hb)
  refine wp_bnd_e (panOf_x (by omega)) (wp_if_i (fun _ => ?_) (fun _ => wp_some_i (K10_.rf h)))
  refine wp_bnd_e (panOf_x (by omega)) ?_
  refine wp_bnd_i (laysk h hv (by omega)) (fun r7 s8 h8 => ?_)
  exact wp_if_i (fun _ => wp_some_i h8) (fun _ => wp_some_i h8)
theorem isPlayedk {s : Sg} {a : Int32} (h : I10_ s) (hv : VA_ s) (h1 : 0 ≤ a.toInt) (h2 : a.toInt < 2700) : wp_ (fX10_isPlayed a s) (fun q => K10_ s q.2) := by
  have L1 : (1 : Int32).toInt = 1 := rfl
  have L2 : (2 : Int32).toInt = 2 := rfl
  have e1 := ti_add (x := a) (y := 1) (by omega) (by omega)
  have e2 := ti_add (x := a) (y := 2) (by omega) (by omega)
  unfold fX10_isPlayed
  refine wp_chk_i (inb_ti h1 (by omega)) (wp_if_i (fun _ => ?_) (fun _ => wp_if_i (fun _ => ?_) (fun _ => wp_if_i (fun _ => ?_) (fun _ => wp_some_i (K10_.rf h)))))
  · refine wp_chk_i (inb_ti (by omega) (by omega)) (wp_chk_i (inb_ti (by omega) (by omega)) ?_)
    exact wp_bnd_i (putk h hv) (fun r u hu => wp_if_i (fun _ => wp_some_i hu) (fun _ => wp_some_i hu))
  · refine wp_chk_i (inb_ti (by omega) (by omega)) ?_
    exact wp_bnd_i (takek h hv) (fun r u hu => wp_if_i (fun _ => wp_some_i hu) (fun _ => wp_some_i hu))
  · refine wp_chk_i (inb_ti (by omega) (by omega)) ?_
    exact wp_bnd_i (tkX10_pass _ s h) (fun r u hu => wp_if_i (fun _ => wp_some_i hu.2) (fun _ => wp_some_i hu.2))
theorem playedk {s : Sg} {a : Int32} (h : I10_ s) (hv : VA_ s) : wp_ (fX10_played a s) (fun q => K10_ s q.2) := by
  generalize hQ : (fun q : Int32 × Sg => K10_ s q.2) = Q
  have L0 : (0 : Int32).toInt = 0 := rfl
  have L1 : (1 : Int32).toInt = 1 := rfl
  have b7 : 0 ≤ (gi s 28 7).toInt ∧ (gi s 28 7).toInt ≤ 4 := (h 28 7).2.1 rfl
  unfold fX10_played
  rw [ixl_7]
  have e7 := ti_sub (x := gi s 28 7) (y := 1) (by omega) (by omega)
  refine wp_bnd_e (isIn_eq _ _ _ _) (wp_if_i (fun _ => wp_some_i (by rw [← hQ]; exact K10_.rf h)) (fun hb => ?_))
  have ha := inR_iff.mp (b2i_ne hb)
  obtain ⟨q, hq⟩ : ∃ q : Nat, a.toInt = (q : Int) := ⟨a.toInt.toNat, by omega⟩
  obtain ⟨c, c1, c2, c3⟩ := hv q (by omega)
  have m := tm_680 (x := a) (by omega) (by omega)
  have i1 : ix (680 * a) = 680 * q := by show (680 * a).toInt.toNat = _; omega
  refine lo2_i (fun (x : Int32) u => 0 ≤ x.toInt ∧ x.toInt ≤ 24 ∧ K10_ s u) (fun x u => (25 - x.toInt).toNat) ?_ FU 0 s ⟨by decide +kernel, by decide +kernel, K10_.rf h⟩ (show (25 - (0 : Int32).toInt).toNat < 1000000000 by decide +kernel)
  rintro rec x u ⟨x1, x2, nu⟩ hr
  unfold fX10_played_22_b
  refine wp_chk_i (inb_ti (by omega) (by omega)) ?_
  rw [i1, nu.1.2.2.2]
  refine wp_if_i (fun _ => wp_some_i (by rw [← hQ]; exact nu)) (fun hlt => ?_)
  have hlt' := nle_ti hlt
  have m3 := tm_3 (x := x) (by omega) (by omega)
  have f1 := ti_add (x := 680 * a) (y := 1) (by omega) (by omega)
  have f2 := ti_add (x := 680 * a + 1) (y := 3 * x) (by omega) (by omega)
  refine wp_bnd_i (isPlayedk nu.1.1 (nu.v hv) (by omega) (by omega)) (fun r w hw => ?_)
  dsimp only at hw
  refine wp_if_i (fun _ => wp_some_i (by rw [← hQ]; exact nu.tr hw)) (fun _ => wp_bv_i (fun v ev => ?_))
  have e := ti_add (x := x) (y := 1) (by omega) (by omega)
  rw [← ev] at e
  exact hr v w ⟨by omega, by omega, nu.tr hw⟩ (by omega)
/-- the model's things -/
def thok_ (n a b : Int32) : Bool := inR a 1 999 && (inR b 0 9 && !(n == 12))
theorem thing10_v {s : Sg} {a b : Int32} (h : I10_ s) : wp_ (fX10_thing a b s) (fun q => (thok_ (gi s 28 0) a b = true → q.1 = gi s 28 0 ∧ gi q.2 28 0 = gi s 28 0 + 1 ∧ gi q.2 28 (15 + 3 * (gi s 28 0).toInt.toNat) = a ∧ (∀ j, kp_ j → j ≠ 0 → j ≠ 15 + 3 * (gi s 28 0).toInt.toNat → gi q.2 28 j = gi s 28 j) ∧ gi q.2 29 = gi s 29 ∧ ∀ k, k < 27 → gi q.2 k = gi s k) ∧ (thok_ (gi s 28 0) a b = false → q = (-1, s))) := by
  generalize hQ : (fun q : Int32 × Sg => (thok_ (gi s 28 0) a b = true → q.1 = gi s 28 0 ∧ gi q.2 28 0 = gi s 28 0 + 1 ∧ gi q.2 28 (15 + 3 * (gi s 28 0).toInt.toNat) = a ∧ (∀ j, kp_ j → j ≠ 0 → j ≠ 15 + 3 * (gi s 28 0).toInt.toNat → gi q.2 28 j = gi s 28 j) ∧ gi q.2 29 = gi s 29 ∧ ∀ k, k < 27 → gi q.2 k = gi s k) ∧ (thok_ (gi s 28 0) a b = false → q = (-1, s))) = Q
  have L1 : (1 : Int32).toInt = 1 := rfl
  have L2 : (2 : Int32).toInt = 2 := rfl
  have L12 : (12 : Int32).toInt = 12 := rfl
  have b0 : 0 ≤ (gi s 28 0).toInt ∧ (gi s 28 0).toInt ≤ 12 := (h 28 0).1 rfl
  have bad : thok_ (gi s 28 0) a b = false → wp_ (some ((-1 : Int32), s)) Q := fun e => wp_some_i (by rw [← hQ]; exact ⟨fun e' => (by rw [e] at e'; exact nomatch e'), fun _ => rfl⟩)
  unfold fX10_thing
  rw [ixl_0]
  refine wp_bnd_e (isIn_eq _ _ _ _) (wp_if_i (fun hb => bad (by unfold thok_; rw [b2i_eq hb]; rfl)) (fun hb1 => ?_))
  refine wp_bnd_e (isIn_eq _ _ _ _) (wp_if_i (fun hb => bad (by unfold thok_; rw [b2i_eq hb]; cases inR a 1 999 <;> rfl)) (fun hb2 => ?_))
  refine wp_if_i (fun he => bad (by unfold thok_; rw [he]; cases inR a 1 999 <;> cases inR b 0 9 <;> rfl)) (fun hne => ?_)
  have hok : thok_ (gi s 28 0) a b = true := by
    unfold thok_
    rw [b2i_ne hb1, b2i_ne hb2]
    simp [hne]
  have hne' := ne_ti hne
  obtain ⟨r, e, hr⟩ := thingAt_x (s := s) (a := gi s 28 0) (by omega)
  have i0 : ix r = 15 + 3 * (gi s 28 0).toInt.toNat := by show r.toInt.toNat = _; omega
  have e1 := ti_add (x := r) (y := 1) (by omega) (by omega)
  have e2 := ti_add (x := r) (y := 2) (by omega) (by omega)
  have i1 : ix (r + 1) = 16 + 3 * (gi s 28 0).toInt.toNat := by show (r + 1).toInt.toNat = _; omega
  have i2 : ix (r + 2) = 17 + 3 * (gi s 28 0).toInt.toNat := by show (r + 2).toInt.toNat = _; omega
  have same : ∀ u : Sg, fX10_thingAt (gi s 28 0) u = some (r, u) := fun u => by
    have e' := e
    unfold fX10_thingAt at e' ⊢
    injection e' with e'
    injection e' with e' _
    rw [e']
  refine wp_bnd_e e (wp_chk_i (inb_ti (by omega) (by omega)) (wp_bv_i (fun s8 d8 => ?_)))
  rw [i0] at d8
  have z8 : gi s8 28 0 = gi s 28 0 := by rw [d8, gsi_ne (by omega)]
  rw [z8]
  refine wp_bnd_e (same s8) (wp_chk_i (inb_ti (by omega) (by omega)) (wp_bv_i (fun s12 d12 => ?_)))
  rw [i1] at d12
  have z12 : gi s12 28 0 = gi s 28 0 := by rw [d12, gsi_ne (by omega)]; exact z8
  rw [z12]
  refine wp_bnd_e (same s12) (wp_chk_i (inb_ti (by omega) (by omega)) (wp_bv_i (fun s16 d16 => ?_)))
  rw [i2] at d16
  have z16 : gi s16 28 0 = gi s 28 0 := by rw [d16, gsi_ne (by omega)]; exact z12
  rw [z16]
  refine wp_bv_i (fun s17 d17 => wp_some_i ?_)
  rw [← hQ]
  have z17 : gi s17 28 0 = gi s 28 0 + 1 := by rw [d17, gsi_eq]
  have ea := ti_add (x := gi s 28 0) (y := 1) (by omega) (by omega)
  have es := ti_sub (x := gi s 28 0 + 1) (y := 1) (by omega) (by omega)
  have fr : ∀ k, k ≠ 28 → gi s17 k = gi s k := fun k hk => by rw [d17, gsi_f hk, d16, gsi_f hk, d12, gsi_f hk, d8, gsi_f hk]
  refine ⟨fun _ => ⟨?_, z17, ?_, fun j hj h0 h1 => ?_, fr 29 (by decide), fun k hk => fr k (by omega)⟩, fun e' => (by rw [hok] at e'; exact nomatch e')⟩
  · show gi s17 28 0 - 1 = _
    rw [z17]
    exact Int32.toInt_inj.mp (by rw [es]; omega)
  · show gi s17 28 _ = a
    rw [d17, gsi_ne (by omega), d16, gsi_ne (by omega), d12, gsi_ne (by omega), d8, gsi_eq]
  · show gi s17 28 j = _
    unfold kp_ at hj
    rw [d17, gsi_ne h0, d16, gsi_ne (by omega), d12, gsi_ne (by omega), d8, gsi_ne h1]
set_option maxRecDepth 100000 in
theorem copy_i_v (s : Sg) : wp_ (fX10_copy_i s) (fun t => gi t 28 = gi s 28 ∧ (∀ k, k < 27 → gi t k = gi s k) ∧ ∀ j, j < 720 → gi t 29 j = gi s 28 j) := by
  generalize hQ : (fun t : Sg => gi t 28 = gi s 28 ∧ (∀ k, k < 27 → gi t k = gi s k) ∧ ∀ j, j < 720 → gi t 29 j = gi s 28 j) = Q
  have L1 : (1 : Int32).toInt = 1 := rfl
  have L720 : (720 : Int32).toInt = 720 := rfl
  unfold fX10_copy_i
  refine lo2_i (fun (x : Int32) u => ∃ n : Nat, x.toInt = (n : Int) ∧ n ≤ 720 ∧ gi u 28 = gi s 28 ∧ (∀ k, k < 27 → gi u k = gi s k) ∧ ∀ j, j < n → gi u 29 j = gi s 28 j) (fun x u => (721 - x.toInt).toNat) ?_ FU 0 s ⟨0, rfl, by decide, rfl, fun _ _ => rfl, fun j hj => by omega⟩ (show (721 - (0 : Int32).toInt).toNat < 1000000000 by decide +kernel)
  rintro rec x u ⟨n, hx, hn, h28, hk, hj⟩ hr
  unfold fX10_copy_i_2_b
  refine wp_if_i (fun h => wp_some_i ?_) (fun h => ?_)
  · have h' := le_ti h
    rw [← hQ]
    exact ⟨h28, hk, fun j h1 => hj j (by omega)⟩
  · have h' := nle_ti h
    have i : ix x = n := by show x.toInt.toNat = _; omega
    refine wp_chk_i (inb_ti (by omega) (by omega)) (wp_bv_i (fun w ew => wp_bv_i (fun v ev => ?_)))
    have e := ti_add (x := x) (y := 1) (by omega) (by omega)
    rw [← ev] at e
    rw [i] at ew
    refine hr v w ⟨n + 1, by omega, by omega, by rw [ew, gsi_f (by decide)]; exact h28, fun k h1 => by rw [ew, gsi_f (by omega)]; exact hk k h1, fun j h1 => ?_⟩ (by omega)
    by_cases hjn : j = n
    · subst hjn; rw [ew, gsi_eq, h28]
    · rw [ew, gsi_ne hjn]; exact hj j (by omega)
set_option maxRecDepth 100000 in
theorem copy_b_v (s : Sg) : wp_ (fX10_copy_b s) (fun t => gi t 29 = gi s 29 ∧ (∀ k, k < 27 → gi t k = gi s k) ∧ ∀ j, j < 720 → gi t 28 j = gi s 29 j) := by
  generalize hQ : (fun t : Sg => gi t 29 = gi s 29 ∧ (∀ k, k < 27 → gi t k = gi s k) ∧ ∀ j, j < 720 → gi t 28 j = gi s 29 j) = Q
  have L1 : (1 : Int32).toInt = 1 := rfl
  have L720 : (720 : Int32).toInt = 720 := rfl
  unfold fX10_copy_b
  refine lo2_i (fun (x : Int32) u => ∃ n : Nat, x.toInt = (n : Int) ∧ n ≤ 720 ∧ gi u 29 = gi s 29 ∧ (∀ k, k < 27 → gi u k = gi s k) ∧ ∀ j, j < n → gi u 28 j = gi s 29 j) (fun x u => (721 - x.toInt).toNat) ?_ FU 0 s ⟨0, rfl, by decide, rfl, fun _ _ => rfl, fun j hj => by omega⟩ (show (721 - (0 : Int32).toInt).toNat < 1000000000 by decide +kernel)
  rintro rec x u ⟨n, hx, hn, h28, hk, hj⟩ hr
  unfold fX10_copy_b_2_b
  refine wp_if_i (fun h => wp_some_i ?_) (fun h => ?_)
  · have h' := le_ti h
    rw [← hQ]
    exact ⟨h28, hk, fun j h1 => hj j (by omega)⟩
  · have h' := nle_ti h
    have i : ix x = n := by show x.toInt.toNat = _; omega
    refine wp_chk_i (inb_ti (by omega) (by omega)) (wp_bv_i (fun w ew => wp_bv_i (fun v ev => ?_)))
    have e := ti_add (x := x) (y := 1) (by omega) (by omega)
    rw [← ev] at e
    rw [i] at ew
    refine hr v w ⟨n + 1, by omega, by omega, by rw [ew, gsi_f (by decide)]; exact h28, fun k h1 => by rw [ew, gsi_f (by omega)]; exact hk k h1, fun j h1 => ?_⟩ (by omega)
    by_cases hjn : j = n
    · subst hjn; rw [ew, gsi_eq, h28]
    · rw [ew, gsi_ne hjn]; exact hj j (by omega)
set_option maxRecDepth 100000 in
theorem image10_v (s : Sg) : wp_ (fX10_image s) (fun q => q.1 = gi s 28 0 ∧ gi q.2 28 = gi s 28 ∧ (∀ k, k < 27 → gi q.2 k = gi s k) ∧ ∀ j, j < 720 → gi q.2 29 j = gi s 28 j) := by
  unfold fX10_image
  rw [ixl_0]
  exact wp_bnv_i (copy_i_v s) (fun t ht => wp_some_i ⟨by show gi t 28 0 = _; rw [ht.1], ht⟩)
set_option maxRecDepth 100000 in
theorem back10_v (s : Sg) : wp_ (fX10_back s) (fun q => q.1 = gi s 29 0 ∧ gi q.2 29 = gi s 29 ∧ (∀ k, k < 27 → gi q.2 k = gi s k) ∧ ∀ j, j < 720 → gi q.2 28 j = gi s 29 j) := by
  unfold fX10_back
  rw [ixl_0]
  exact wp_bnv_i (copy_b_v s) (fun t ht => wp_some_i ⟨ht.2.2 0 (by decide), ht⟩)
