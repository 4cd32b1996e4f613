theorem bd28_pan {j : Nat} {v : Int} (h : 15 ≤ j) (h2 : j < 55) : Bd10_ 28 j v := ⟨by omega, by omega, by omega, by omega, by omega, by omega⟩
theorem lays_ok {s : Sg} {a b : Int32} (h : I10_ s) (hv : VA_ s) (ha : 0 ≤ a.toInt ∧ a.toInt ≤ 11) : wp_ (fX10_lays a b s) (fun q => N10_ s q.2) := by
  have L2 : (2 : Int32).toInt = 2 := rfl
  have tk : ∀ u : Sg, ∃ r : Int32, fX10_thingAt a u = some (r, u) ∧ 0 ≤ (r + 2).toInt ∧ (r + 2).toInt < 720 ∧ 15 ≤ ix (r + 2) ∧ ix (r + 2) < 55 := by
    intro u
    obtain ⟨r, e, hr⟩ := thingAt_x (s := u) (a := a) (by omega)
    have e2 := ti_add (x := r) (y := 2) (by omega) (by omega)
    refine ⟨r, e, by omega, by omega, ?_, ?_⟩
    · show 15 ≤ (r + 2).toInt.toNat; omega
    · show (r + 2).toInt.toNat < 55; omega
  unfold fX10_lays
  refine wp_bnd_e (panOf_x (by omega)) ?_
  obtain ⟨r1, e1, a1, a2, a3, a4⟩ := tk s
  refine wp_bnd_e e1 (wp_chk_i (inb_ti a1 (by omega)) (wp_bv_i (fun s6 e6 => ?_)))
  have n6 : N10_ s s6 := by rw [e6]; exact (N10_.rf h).si (by decide) (bd28_pan a3 a4)
  clear e6
  refine wp_bnd_i (isSafeNow_ok n6.1 (n6.v hv)) (fun r7 s8 h8 => ?_)
  dsimp only at h8
  have n8 := n6.tr h8.1
  obtain ⟨r2, e2, b1, b2, b3, b4⟩ := tk s8
  refine wp_bnd_e e2 (wp_chk_i (inb_ti b1 (by omega)) (wp_bv_i (fun s12 e12 => ?_)))
  have n12 : N10_ s s12 := by rw [e12]; exact n8.si (by decide) (bd28_pan b3 b4)
  clear e12
  refine wp_if_i (fun _ => wp_some_i n12) (fun _ => ?_)
  refine wp_bnv_i (tX10_keep s12 n12.1) (fun s13 h13 => ?_)
  have n13 := n12.tr h13
  obtain ⟨r3, e3, c1, c2, c3, c4⟩ := tk s13
  refine wp_bnd_e e3 (wp_chk_i (inb_ti c1 (by omega)) (wp_bv_i (fun s17 e17 => wp_some_i ?_)))
  show N10_ s s17
  rw [e17]
  exact n13.si (by decide) (bd28_pan c3 c4)
theorem put_ok {s : Sg} {a b : Int32} (h : I10_ s) (hv : VA_ s) : wp_ (fX10_put a b s) (fun q => N10_ s q.2) := by
  obtain ⟨r, er, hr⟩ := isThing_x a h
  unfold fX10_put
  refine wp_bnd_e er (wp_if_i (fun _ => wp_some_i (N10_.rf h)) (fun hb => ?_))
  have ha := hr (b2i_ne hb)
  refine wp_bnd_e (isIn_eq _ _ _ _) (wp_if_i (fun _ => wp_some_i (N10_.rf h)) (fun _ => ?_))
  refine wp_bnd_e (panOf_x (by omega)) (wp_if_i (fun _ => wp_some_i (N10_.rf h)) (fun _ => ?_))
  refine wp_bnd_i (lays_ok h hv (by omega)) (fun r7 s8 h8 => ?_)
  dsimp only at h8
  refine wp_if_i (fun _ => wp_some_i h8) (fun _ => ?_)
  obtain ⟨t, et, bt⟩ := nameNow_b h8.1
  refine wp_bnv_e et ?_
  have nt := h8.tr bt.1
  exact wp_bnd_i (load_ok nt.1 (nt.v hv)) (fun r10 s11 h11 => wp_some_i (nt.tr h11.1))
theorem take_ok {s : Sg} {a : Int32} (h : I10_ s) (hv : VA_ s) : wp_ (fX10_take a s) (fun q => N10_ s q.2) := by
  obtain ⟨r, er, hr⟩ := isThing_x a h
  unfold fX10_take
  refine wp_bnd_e er (wp_if_i (fun _ => wp_some_i (N10_.rf h)) (fun hb => ?_))
  have ha := hr (b2i_ne hb)
  refine wp_bnd_e (panOf_x (by omega)) (wp_if_i (fun _ => ?_) (fun _ => wp_some_i (N10_.rf h)))
  refine wp_bnd_e (panOf_x (by omega)) ?_
  refine wp_bnd_i (lays_ok h hv (by omega)) (fun r7 s8 h8 => ?_)
  exact wp_if_i (fun _ => wp_some_i h8) (fun _ => wp_some_i h8)
theorem isPlayed_ok {s : Sg} {a : Int32} (h : I10_ s) (hv : VA_ s) (h1 : 0 ≤ a.toInt) (h2 : a.toInt < 2700) : wp_ (fX10_isPlayed a s) (fun q => N10_ s q.2) := by
  have L1 : (1 : Int32).toInt = 1 := rfl
  have L2 : (2 : Int32).toInt = 2 := rfl
  have e1 := ti_add (x := a) (y := 1) (by omega) (by omega)
  have e2 := ti_add (x := a) (y := 2) (by omega) (by omega)
  unfold fX10_isPlayed
  refine wp_chk_i (inb_ti h1 (by omega)) (wp_if_i (fun _ => ?_) (fun _ => wp_if_i (fun _ => ?_) (fun _ => wp_if_i (fun _ => ?_) (fun _ => wp_some_i (N10_.rf h)))))
  · refine wp_chk_i (inb_ti (by omega) (by omega)) (wp_chk_i (inb_ti (by omega) (by omega)) ?_)
    exact wp_bnd_i (put_ok h hv) (fun r u hu => wp_if_i (fun _ => wp_some_i hu) (fun _ => wp_some_i hu))
  · refine wp_chk_i (inb_ti (by omega) (by omega)) ?_
    exact wp_bnd_i (take_ok h hv) (fun r u hu => wp_if_i (fun _ => wp_some_i hu) (fun _ => wp_some_i hu))
  · refine wp_chk_i (inb_ti (by omega) (by omega)) ?_
    exact wp_bnd_i (tX10_pass _ s h) (fun r u hu => wp_if_i (fun _ => wp_some_i hu) (fun _ => wp_some_i hu))
theorem played_ok {s : Sg} {a : Int32} (h : I10_ s) (hv : VA_ s) : wp_ (fX10_played a s) (fun q => N10_ s q.2) := by
  generalize hQ : (fun q : Int32 × Sg => N10_ s q.2) = Q
  have L0 : (0 : Int32).toInt = 0 := rfl
  have L1 : (1 : Int32).toInt = 1 := rfl
  have b7 : 0 ≤ (gi s 28 7).toInt ∧ (gi s 28 7).toInt ≤ 4 := (h 28 7).2.1 rfl
  unfold fX10_played
  rw [ixl_7]
  have e7 := ti_sub (x := gi s 28 7) (y := 1) (by omega) (by omega)
  refine wp_bnd_e (isIn_eq _ _ _ _) (wp_if_i (fun _ => wp_some_i (by rw [← hQ]; exact N10_.rf h)) (fun hb => ?_))
  have ha := inR_iff.mp (b2i_ne hb)
  obtain ⟨q, hq⟩ : ∃ q : Nat, a.toInt = (q : Int) := ⟨a.toInt.toNat, by omega⟩
  obtain ⟨c, c1, c2, c3⟩ := hv q (by omega)
  have m := tm_680 (x := a) (by omega) (by omega)
  have i1 : ix (680 * a) = 680 * q := by show (680 * a).toInt.toNat = _; omega
  refine lo2_i (fun (x : Int32) u => 0 ≤ x.toInt ∧ x.toInt ≤ 24 ∧ N10_ s u) (fun x u => (25 - x.toInt).toNat) ?_ FU 0 s ⟨by decide +kernel, by decide +kernel, N10_.rf h⟩ (show (25 - (0 : Int32).toInt).toNat < 1000000000 by decide +kernel)
  rintro rec x u ⟨x1, x2, nu⟩ hr
  unfold fX10_played_22_b
  refine wp_chk_i (inb_ti (by omega) (by omega)) ?_
  rw [i1, nu.2.2.2]
  refine wp_if_i (fun _ => wp_some_i (by rw [← hQ]; exact nu)) (fun hlt => ?_)
  have hlt' := nle_ti hlt
  have m3 := tm_3 (x := x) (by omega) (by omega)
  have f1 := ti_add (x := 680 * a) (y := 1) (by omega) (by omega)
  have f2 := ti_add (x := 680 * a + 1) (y := 3 * x) (by omega) (by omega)
  refine wp_bnd_i (isPlayed_ok nu.1 (nu.v hv) (by omega) (by omega)) (fun r w hw => ?_)
  dsimp only at hw
  refine wp_if_i (fun _ => wp_some_i (by rw [← hQ]; exact nu.tr hw)) (fun _ => wp_bv_i (fun v ev => ?_))
  have e := ti_add (x := x) (y := 1) (by omega) (by omega)
  rw [← ev] at e
  exact hr v w ⟨by omega, by omega, nu.tr hw⟩ (by omega)
theorem borneBy_ok {s : Sg} {a b : Int32} (h : I10_ s) (hv : VA_ s) (ha : 0 ≤ a.toInt ∧ a.toInt ≤ 9) : wp_ (fX10_borneBy a b s) (fun q => B10_ s q.2) := by
  have L55 : (55 : Int32).toInt = 55 := rfl
  have L2 : (2 : Int32).toInt = 2 := rfl
  have L3 : (3 : Int32).toInt = 3 := rfl
  have L4 : (4 : Int32).toInt = 4 := rfl
  have m := tm_10 (x := a) (by omega) (by omega)
  have e0 := ti_add (x := 55) (y := 10 * a) (by omega) (by omega)
  unfold fX10_borneBy
  refine wp_bv_i (fun v ev => ?_)
  rw [← ev] at e0
  have e2 := ti_add (x := v) (y := 2) (by omega) (by omega)
  have e3 := ti_add (x := v) (y := 3) (by omega) (by omega)
  have e4 := ti_add (x := v) (y := 4) (by omega) (by omega)
  refine wp_chk_i (inb_ti (by omega) (by omega)) (wp_chk_i (inb_ti (by omega) (by omega)) (wp_chk_i (inb_ti (by omega) (by omega)) ?_))
  obtain ⟨t, et, bt⟩ := name_b (a := gi s 28 (ix (v + 2))) (b := gi s 28 (ix (v + 3))) (c := gi s 28 (ix (v + 4))) h
  refine wp_bnv_e et (wp_chk_i (inb_ti (by omega) (by omega)) ?_)
  exact wp_bnd_i (borne_ok bt.1.1 (bt.v hv)) (fun r u hu => wp_some_i (bt.tr hu))
theorem areRead_ok {s : Sg} {a : Int32} (h : I10_ s) (hv : VA_ s) : wp_ (fX10_areRead a s) (fun q => B10_ s q.2) := by
  generalize hQ : (fun q : Bool × Sg => B10_ s q.2) = Q
  have L0 : (0 : Int32).toInt = 0 := rfl
  have L1 : (1 : Int32).toInt = 1 := rfl
  have L55 : (55 : Int32).toInt = 55 := rfl
  have L5 : (5 : Int32).toInt = 5 := rfl
  have L6 : (6 : Int32).toInt = 6 := rfl
  have b10 : 0 ≤ (gi s 28 10).toInt ∧ (gi s 28 10).toInt ≤ 10 := (h 28 10).2.2.2.2.1 rfl
  unfold fX10_areRead
  refine lo2_i (fun (x : Int32) u => 0 ≤ x.toInt ∧ x.toInt ≤ 10 ∧ B10_ s u) (fun x u => (11 - x.toInt).toNat) ?_ FU 0 s ⟨by decide +kernel, by decide +kernel, B10_.rf h⟩ (show (11 - (0 : Int32).toInt).toNat < 1000000000 by decide +kernel)
  rintro rec x u ⟨x1, x2, bu⟩ hr
  have g28 : gi u 28 = gi s 28 := bu.2 28 (by decide) (by decide)
  unfold fX10_areRead_2_b
  rw [ixl_10]
  refine wp_if_i (fun _ => wp_some_i (by rw [← hQ]; exact bu)) (fun hlt => ?_)
  have hlt' := nle_ti hlt
  rw [g28] at hlt'
  refine wp_bnd_i (borneBy_ok bu.1.1 (bu.v hv) (by omega)) (fun r w hw => ?_)
  dsimp only at hw
  have bw := bu.tr hw
  have m := tm_10 (x := x) (by omega) (by omega)
  have e0 := ti_add (x := 55) (y := 10 * x) (by omega) (by omega)
  have e5 := ti_add (x := 55 + 10 * x) (y := 5) (by omega) (by omega)
  have e6 := ti_add (x := 55 + 10 * x) (y := 6) (by omega) (by omega)
  refine wp_chk_i (inb_ti (by omega) (by omega)) (wp_chk_i (inb_ti (by omega) (by omega)) ?_)
  refine wp_bnd_s (tX10_isRead _ _ _ _ w bw.1.1 (by omega)) (fun r7 => ?_)
  refine wp_if_i (fun _ => wp_some_i (by rw [← hQ]; exact bw)) (fun _ => wp_bv_i (fun v ev => ?_))
  have e := ti_add (x := x) (y := 1) (by omega) (by omega)
  rw [← ev] at e
  exact hr v w ⟨by omega, by omega, bw⟩ (by omega)
theorem lo5_i {α1 α2 α3 α4 α5 β : Type} {b : (α1 → α2 → α3 → α4 → α5 → Option β) → α1 → α2 → α3 → α4 → α5 → Option β} {Q : β → Prop} (I : α1 → α2 → α3 → α4 → α5 → Prop) (m : α1 → α2 → α3 → α4 → α5 → Nat) (h : ∀ rec x1 x2 x3 x4 x5, I x1 x2 x3 x4 x5 → (∀ y1 y2 y3 y4 y5, I y1 y2 y3 y4 y5 → m y1 y2 y3 y4 y5 < m x1 x2 x3 x4 x5 → wp_ (rec y1 y2 y3 y4 y5) Q) → wp_ (b rec x1 x2 x3 x4 x5) Q) : ∀ n x1 x2 x3 x4 x5, I x1 x2 x3 x4 x5 → m x1 x2 x3 x4 x5 < n → wp_ (lo5 b n x1 x2 x3 x4 x5) Q := by
  intro n
  induction n with
  | zero => intro x1 x2 x3 x4 x5 _ h; omega
  | succ n ih => intro x1 x2 x3 x4 x5 hx hm; exact h (lo5 b n) x1 x2 x3 x4 x5 hx (fun y1 y2 y3 y4 y5 hy hl => ih y1 y2 y3 y4 y5 hy (by omega))
theorem lo6_i {α1 α2 α3 α4 α5 α6 β : Type} {b : (α1 → α2 → α3 → α4 → α5 → α6 → Option β) → α1 → α2 → α3 → α4 → α5 → α6 → Option β} {Q : β → Prop} (I : α1 → α2 → α3 → α4 → α5 → α6 → Prop) (m : α1 → α2 → α3 → α4 → α5 → α6 → Nat) (h : ∀ rec x1 x2 x3 x4 x5 x6, I x1 x2 x3 x4 x5 x6 → (∀ y1 y2 y3 y4 y5 y6, I y1 y2 y3 y4 y5 y6 → m y1 y2 y3 y4 y5 y6 < m x1 x2 x3 x4 x5 x6 → wp_ (rec y1 y2 y3 y4 y5 y6) Q) → wp_ (b rec x1 x2 x3 x4 x5 x6) Q) : ∀ n x1 x2 x3 x4 x5 x6, I x1 x2 x3 x4 x5 x6 → m x1 x2 x3 x4 x5 x6 < n → wp_ (lo6 b n x1 x2 x3 x4 x5 x6) Q := by
  intro n
  induction n with
  | zero => intro x1 x2 x3 x4 x5 x6 _ h; omega
  | succ n ih => intro x1 x2 x3 x4 x5 x6 hx hm; exact h (lo6 b n) x1 x2 x3 x4 x5 x6 hx (fun y1 y2 y3 y4 y5 y6 hy hl => ih y1 y2 y3 y4 y5 y6 hy (by omega))
theorem span_ok {s : Sg} {a : Int32} (h : I10_ s) (hv : VA_ s) : wp_ (fX10_span a s) (fun q => B10_ s q.2) := by
  generalize hQ : (fun q : Int32 × Sg => B10_ s q.2) = Q
  have L1 : (1 : Int32).toInt = 1 := rfl
  have L999 : (999 : Int32).toInt = 999 := rfl
  have fin : ∀ (r : Int32) u, B10_ s u → wp_ (some (r, u)) Q := fun r u hu => wp_some_i (by rw [← hQ]; exact hu)
  unfold fX10_span
  refine wp_bnd_e (isIn_eq _ _ _ _) (wp_if_i (fun _ => fin _ _ (B10_.rf h)) (fun _ => ?_))
  refine wp_jn (fun k => ∀ x y z u, B10_ s u → wp_ (k x y z u) Q) (fun x y z u hu => wp_if_i (fun _ => fin _ _ hu) (fun _ => wp_if_i (fun _ => fin _ _ hu) (fun _ => fin _ _ hu))) (fun k7 hk7 => ?_)
  refine lo5_i (fun (_ _ _ x : Int32) u => 1 ≤ x.toInt ∧ x.toInt ≤ 1000 ∧ B10_ s u) (fun _ _ _ x u => (1001 - x.toInt).toNat) ?_ FU 0 (-1) (-1) 1 s ⟨by decide +kernel, by decide +kernel, B10_.rf h⟩ (show (1001 - (1 : Int32).toInt).toNat < 1000000000 by decide +kernel)
  rintro rec w2 w3 w4 x u ⟨x1, x2, bu⟩ hr
  unfold fX10_span_21_b
  refine wp_if_i (fun _ => hk7 _ _ _ _ bu) (fun hlt => ?_)
  have hlt' := nlt_ti hlt
  refine wp_bnd_i (areRead_ok bu.1.1 (bu.v hv)) (fun r w hw => ?_)
  dsimp only at hw
  have bw := bu.tr hw
  refine wp_jn (fun k => ∀ x y z, wp_ (k x y z) Q) ?_ (fun k18 hk18 => ?_)
  · intro a1 a2 a3
    refine wp_bv_i (fun v ev => ?_)
    have e := ti_add (x := x) (y := 1) (by omega) (by omega)
    rw [← ev] at e
    exact hr a1 a2 a3 v w ⟨by omega, by omega, bw⟩ (by omega)
  · refine wp_if_i (fun _ => hk18 _ _ _) (fun _ => wp_bv_i (fun v _ => ?_))
    exact wp_jn (fun k => ∀ y, wp_ (k y) Q) (fun y => hk18 _ _ _) (fun k22 hk22 => wp_if_i (fun _ => hk22 _) (fun _ => hk22 _))
