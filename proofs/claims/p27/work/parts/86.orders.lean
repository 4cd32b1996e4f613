/-! orders of loading -/
def hb_ (a k : Int32) : Bool := decide (((a >>> (k &&& 31)) &&& 1) = 1)
theorem has_e (a k : Int32) (s : Sg) : fX10_has a k s = some (hb_ a k, s) := by
  unfold fX10_has hb_
  by_cases h : ((a >>> (k &&& 31)) &&& 1) = 1
  · rw [if_pos h]; simp [h]
  · rw [if_neg h]; simp [h]
theorem hb_v (a k : Int32) : ((a >>> (k &&& 31)) &&& 1).toInt = (bn_ (hb_ a k) : Int) := by
  have h := and_bd (a >>> (k &&& 31)) 1 (by decide +kernel)
  have L1 : (1 : Int32).toInt = 1 := rfl
  unfold hb_
  by_cases e : ((a >>> (k &&& 31)) &&& 1) = 1
  · rw [e]; rfl
  · have : ¬ ((a >>> (k &&& 31)) &&& 1).toInt = 1 := fun e' => e (Int32.toInt_inj.mp (by rw [e']; rfl))
    simp only [e, decide_false, bn_]
    omega
theorem bn_le (b : Bool) : bn_ b ≤ 1 := by cases b <;> decide
/-- how many of the first n bits are set -/
def pc_ (a : Int32) : Nat → Nat
  | 0 => 0
  | n + 1 => pc_ a n + bn_ (hb_ a (nI n))
theorem pc_mono (a : Int32) (m : Nat) : ∀ n, pc_ a m ≤ pc_ a (m + n) := by
  intro n
  induction n with
  | zero => exact Nat.le_refl _
  | succ n ih => exact Nat.le_trans ih (Nat.le_add_right _ _)
theorem pc_le (a : Int32) : ∀ n, pc_ a n ≤ n := by
  intro n
  induction n with
  | zero => exact Nat.le_refl _
  | succ n ih => have := bn_le (hb_ a (nI n)); show pc_ a n + _ ≤ _; omega
theorem bits_x (a : Int32) (s : Sg) : ∃ r : Int32, fX10_bits a s = some (r, s) ∧ r.toInt = (pc_ a 12 : Int) := by
  have L1 : (1 : Int32).toInt = 1 := rfl
  have L12 : (12 : Int32).toInt = 12 := rfl
  have hw : wp_ (fX10_bits a s) (fun q => q.2 = s ∧ q.1.toInt = (pc_ a 12 : Int)) := by
    generalize hQ : (fun q : Int32 × Sg => q.2 = s ∧ q.1.toInt = (pc_ a 12 : Int)) = Q
    unfold fX10_bits
    refine lo2_i (fun (x y : Int32) => ∃ n : Nat, y.toInt = (n : Int) ∧ n ≤ 12 ∧ x.toInt = (pc_ a n : Int)) (fun x y => (12 - y.toInt).toNat) ?_ FU 0 0 ⟨0, rfl, by decide, rfl⟩ (show (12 - (0 : Int32).toInt).toNat < 1000000000 by decide +kernel)
    rintro rec x y ⟨n, hy, hn, hx⟩ hr
    unfold fX10_bits_4_b
    refine wp_if_i (fun h => wp_some_i ?_) (fun h => ?_)
    · have h' := le_ti h
      have : n = 12 := by omega
      subst this
      rw [← hQ]
      exact ⟨rfl, hx⟩
    · have h' := nle_ti h
      refine wp_bv_i (fun v3 e3 => wp_bv_i (fun v4 e4 => ?_))
      have hbv := hb_v a y
      have hb1 := bn_le (hb_ a y)
      have hp := pc_le a n
      have ey : y = nI n := Int32.toInt_inj.mp (by rw [nI_toInt (by omega)]; exact hy)
      have f3 := ti_add (x := x) (y := (a >>> (y &&& 31)) &&& 1) (by omega) (by omega)
      have f4 := ti_add (x := y) (y := 1) (by omega) (by omega)
      rw [← e3] at f3
      rw [← e4] at f4
      refine hr v3 v4 ⟨n + 1, by omega, by omega, ?_⟩ (by omega)
      show _ = ((pc_ a n + bn_ (hb_ a (nI n)) : Nat) : Int)
      rw [← ey]
      omega
  obtain ⟨⟨r, u⟩, e, h1, h2⟩ := wp_ex hw
  dsimp only at h1
  subst h1
  exact ⟨r, e, h2⟩
theorem areAsked_x {s : Sg} {a b : Int32} (h : I10_ s) : ∃ r, fX10_areAsked a b s = some (r, s) ∧ (r = true → pc_ a 12 ≤ 10) := by
  have L1 : (1 : Int32).toInt = 1 := rfl
  have L10 : (10 : Int32).toInt = 10 := rfl
  have b0 : 0 ≤ (gi s 28 0).toInt ∧ (gi s 28 0).toInt ≤ 12 := (h 28 0).1 rfl
  have hw : wp_ (fX10_areAsked a b s) (fun q => q.2 = s ∧ (q.1 = true → pc_ a 12 ≤ 10)) := by
    generalize hQ : (fun q : Bool × Sg => q.2 = s ∧ (q.1 = true → pc_ a 12 ≤ 10)) = Q
    have no : wp_ (some (false, s)) Q := wp_some_i (by rw [← hQ]; exact ⟨rfl, fun e => nomatch e⟩)
    unfold fX10_areAsked
    refine wp_bnd_e (isIn_eq _ _ _ _) (wp_if_i (fun _ => no) (fun _ => ?_))
    refine wp_bnd_e (isIn_eq _ _ _ _) (wp_if_i (fun _ => no) (fun _ => wp_if_i (fun _ => ?_) (fun _ => no)))
    obtain ⟨r, er, hr⟩ := bits_x a s
    refine wp_bnd_e er (wp_if_i (fun h10 => ?_) (fun _ => no))
    have h10' := le_ti h10
    refine lo2_i (fun (x : Int32) u => 0 ≤ x.toInt ∧ x.toInt ≤ 12 ∧ u = s) (fun x u => (13 - x.toInt).toNat) ?_ FU 0 s ⟨by decide +kernel, by decide +kernel, rfl⟩ (show (13 - (0 : Int32).toInt).toNat < 1000000000 by decide +kernel)
    rintro rec x u ⟨x1, x2, rfl⟩ hrec
    unfold fX10_areAsked_50_b
    rw [ixl_0]
    refine wp_if_i (fun _ => wp_some_i (by rw [← hQ]; exact ⟨rfl, fun _ => by omega⟩)) (fun hlt => ?_)
    have hlt' := nle_ti hlt
    refine wp_bnd_e (has_e _ _ _) (wp_jn (fun k => wp_ (k u) Q) ?_ (fun k12 hk12 => ?_))
    · refine wp_bv_i (fun v ev => ?_)
      have e := ti_add (x := x) (y := 1) (by omega) (by omega)
      rw [← ev] at e
      exact hrec v u ⟨by omega, by omega, rfl⟩ (by omega)
    · exact wp_if_i (fun _ => hk12) (fun _ => wp_bnd_e (panOf_x (by omega)) (wp_if_i (fun _ => hk12) (fun _ => no)))
  obtain ⟨⟨r, u⟩, e, h1, h2⟩ := wp_ex hw
  dsimp only at h1
  subst h1
  exact ⟨r, e, h2⟩
theorem findLoads_ok {s : Sg} {a b : Int32} (h : I10_ s) (hv : VA_ s) (hp : pc_ a 12 ≤ 10) : wp_ (fX10_findLoads a b s) (fun t => K10_ s t ∧ 0 ≤ (gi t 27 29).toInt ∧ (gi t 27 29).toInt ≤ 10) := by
  generalize hQ : (fun t : Sg => K10_ s t ∧ 0 ≤ (gi t 27 29).toInt ∧ (gi t 27 29).toInt ≤ 10) = Q
  have L0 : (0 : Int32).toInt = 0 := rfl
  have L1 : (1 : Int32).toInt = 1 := rfl
  have b0 : 0 ≤ (gi s 28 0).toInt ∧ (gi s 28 0).toInt ≤ 12 := (h 28 0).1 rfl
  unfold fX10_findLoads
  obtain ⟨t, et, bt⟩ := nameNow_b h
  refine wp_bnv_e et (wp_bnd_i (load_ok bt.1.1 (bt.v hv)) (fun r2 u hu => ?_))
  dsimp only at hu
  have bu := bt.tr hu
  refine wp_bnd_i (load_ok bu.1.1 (bu.v hv)) (fun r4 w hw => ?_)
  dsimp only at hw
  have bw := bu.tr hw
  refine wp_bv_i (fun s6 e6 => ?_)
  have k6 : K10_ s s6 := by rw [e6]; exact bw.k.si (by decide) (show 0 ≤ (0 : Int32).toInt ∧ (0 : Int32).toInt ≤ 12 by decide +kernel) (fun e => absurd e (by decide))
  have z6 : (gi s6 27 29).toInt = ((pc_ a 0 : Nat) : Int) := by rw [e6, gsi_eq]; rfl
  clear e6
  refine wp_jn (fun k => ∀ x, K10_ s x → 0 ≤ (gi x 27 29).toInt → (gi x 27 29).toInt ≤ 10 → wp_ (k x) Q) ?_ (fun k8 hk8 => ?_)
  · intro x kx m1 m2
    refine lo2_i (fun (p : Int32) y => 0 ≤ p.toInt ∧ p.toInt ≤ 1024 ∧ K10_ s y ∧ gi y 27 29 = gi x 27 29) (fun p y => (1025 - p.toInt).toNat) ?_ FU 0 x ⟨by decide +kernel, by decide +kernel, kx, rfl⟩ (show (1025 - (0 : Int32).toInt).toNat < 1000000000 by decide +kernel)
    rintro rec p y ⟨p1, p2, ky, ey⟩ hr
    unfold fX10_findLoads_107_b
    rw [ey]
    have sh := shl_le (gi x 27 29) 10 m1 (by omega) (by decide)
    have c1024 : ((2 ^ 10 : Nat) : Int) = 1024 := by decide
    rw [c1024] at sh
    refine wp_if_i (fun _ => wp_some_i (by rw [← hQ]; exact ⟨ky, by rw [ey]; exact m1, by rw [ey]; exact m2⟩)) (fun hlt => ?_)
    have hlt' := nle_ti hlt
    refine wp_jn (fun k => ∀ l r, wp_ (k l r y) Q) ?_ (fun k14 hk14 => ?_)
    · intro l r
      refine wp_bnd_i (isSafe_ok ky.1.1 (ky.v hv)) (fun r15 y2 h2 => ?_)
      dsimp only at h2
      have ky2 := ky.tr h2.k
      have ey2 : gi y2 27 29 = gi x 27 29 := by rw [h2.2 27 (by decide) (by decide)]; exact ey
      refine wp_chk_i (inb_ti (by omega) (by omega)) (wp_bv_i (fun y3 e3 => ?_))
      have ky3 : K10_ s y3 := by rw [e3, nar_b]; exact ky2.si (by decide) (b2i_bd r15) (fun e => absurd e (by decide))
      have ey3 : gi y3 27 29 = gi x 27 29 := by rw [e3, gsi_k (by decide)]; exact ey2
      clear e3
      refine wp_bnd_s (tX10_moment _ _ y3 ky3.1.1) (fun r19 => wp_bnd_s (tX10_without _ y3 ky3.1.1) (fun r21 => ?_))
      refine wp_bv_i (fun y4 e4 => wp_bv_i (fun v ev => ?_))
      have ky4 : K10_ s y4 := by rw [e4]; exact ky3.si (by decide) trivial (fun e => absurd e (by decide))
      have ey4 : gi y4 27 29 = gi x 27 29 := by rw [e4, gsi_k (by decide)]; exact ey3
      have e := ti_add (x := p) (y := 1) (by omega) (by omega)
      rw [← ev] at e
      exact hr v y4 ⟨by omega, by omega, ky4, ey4⟩ (by omega)
    · refine lo4_i (fun (_ _ k : Int32) z => 0 ≤ k.toInt ∧ k.toInt ≤ 10 ∧ z = y) (fun _ _ k z => (11 - k.toInt).toNat) ?_ FU r2 r4 0 y ⟨by decide +kernel, by decide +kernel, rfl⟩ (show (11 - (0 : Int32).toInt).toNat < 1000000000 by decide +kernel)
      rintro rec2 l r k z ⟨z1, z2, rfl⟩ hr2
      unfold fX10_findLoads_128_b
      rw [ey]
      refine wp_if_i (fun _ => hk14 _ _) (fun hk => ?_)
      have hk' := nle_ti hk
      refine wp_bnd_e (has_e _ _ _) (wp_jn (fun kk => ∀ l r, wp_ (kk l r z) Q) ?_ (fun k34 hk34 => ?_))
      · intro l' r'
        refine wp_bv_i (fun v ev => ?_)
        have e := ti_add (x := k) (y := 1) (by omega) (by omega)
        rw [← ev] at e
        exact hr2 l' r' v z ⟨by omega, by omega, rfl⟩ (by omega)
      · refine wp_if_i (fun _ => hk34 _ _) (fun _ => wp_chk_i (inb_ti (by omega) (by omega)) (wp_bnd_e (has_e _ _ _) ?_))
        refine wp_jn (fun kk => ∀ l r, wp_ (kk l r) Q) ?_ (fun k41 hk41 => wp_if_i (fun _ => hk41 _ _) (fun _ => hk41 _ _))
        intro l' r'
        refine wp_bv_i (fun v42 _ => wp_chk_i (inb_ti (by omega) (by omega)) (wp_bnd_e (has_e _ _ _) ?_))
        refine wp_jn (fun kk => ∀ l r, wp_ (kk l r) Q) ?_ (fun k48 hk48 => wp_if_i (fun _ => hk48 _ _) (fun _ => hk48 _ _))
        intro l2 r2'
        exact wp_bv_i (fun v49 _ => hk34 _ _)
  · refine lo2_i (fun (x : Int32) y => ∃ n : Nat, x.toInt = (n : Int) ∧ n ≤ 12 ∧ K10_ s y ∧ (gi y 27 29).toInt = ((pc_ a n : Nat) : Int)) (fun x y => (13 - x.toInt).toNat) ?_ FU 0 s6 ⟨0, rfl, by decide, k6, z6⟩ (show (13 - (0 : Int32).toInt).toNat < 1000000000 by decide +kernel)
    rintro rec x y ⟨n, hx, hn, ky, hy⟩ hr
    have g0 : gi y 28 0 = gi s 28 0 := ky.2.2 0 (Or.inl rfl)
    have hpn : pc_ a n ≤ pc_ a 12 := by
      have := pc_mono a n (12 - n)
      rwa [show n + (12 - n) = 12 by omega] at this
    unfold fX10_findLoads_25_b
    rw [ixl_0, g0]
    refine wp_if_i (fun _ => hk8 y ky (by omega) (by omega)) (fun hlt => ?_)
    have hlt' := nle_ti hlt
    have exn : x = nI n := Int32.toInt_inj.mp (by rw [nI_toInt (by omega)]; exact hx)
    have hpn1 : pc_ a (n + 1) ≤ pc_ a 12 := by
      have := pc_mono a (n + 1) (12 - (n + 1))
      rwa [show n + 1 + (12 - (n + 1)) = 12 by omega] at this
    refine wp_bnd_e (has_e _ _ _) (wp_jn (fun k => ∀ z, K10_ s z → (gi z 27 29).toInt = ((pc_ a (n + 1) : Nat) : Int) → wp_ (k z) Q) ?_ (fun k55 hk55 => ?_))
    · intro z kz hz
      refine wp_bv_i (fun v ev => ?_)
      have e := ti_add (x := x) (y := 1) (by omega) (by omega)
      rw [← ev] at e
      exact hr v z ⟨n + 1, by omega, by omega, kz, hz⟩ (by omega)
    · have hstep : pc_ a (n + 1) = pc_ a n + bn_ (hb_ a x) := by rw [exn]; rfl
      refine wp_if_i (fun hb => ?_) (fun hb => ?_)
      · refine hk55 y ky ?_
        rw [hstep, b2i_eq hb, hy]; rfl
      · rw [b2i_ne hb] at hstep
        have hs1 : pc_ a (n + 1) = pc_ a n + 1 := hstep
        refine wp_chk_i (inb_ti (by omega) (by omega)) (wp_bv_i (fun y2 e2 => ?_))
        have ky2 : K10_ s y2 := by rw [e2]; exact ky.si (by decide) trivial (fun e => absurd e (by decide))
        have hy2 : gi y2 27 29 = gi y 27 29 := by rw [e2, gsi_k (by decide)]
        clear e2
        refine wp_bnd_e (has_e _ _ _) (wp_jn (fun k => ∀ z, wp_ (k (gi y2 27 29) x z) Q) ?_ (fun k64 hk64 => wp_if_i (fun _ => hk64 _) (fun _ => hk64 _)))
        intro z
        refine wp_bnd_i (bears_ok ky2.1.1 (ky2.v hv) (by omega)) (fun r65 y3 h3 => ?_)
        dsimp only at h3
        have ky3 := ky2.tr h3.k
        have hy3 : gi y3 27 29 = gi y 27 29 := by rw [h3.2 27 (by decide) (by decide)]; exact hy2
        refine wp_chk_i (inb_ti (by rw [hy2]; omega) (by rw [hy2]; omega)) (wp_bv_i (fun y4 e4 => wp_bv_i (fun y5 e5 => ?_)))
        have ky4 : K10_ s y4 := by rw [e4]; exact ky3.si (by decide) trivial (fun e => absurd e (by decide))
        have hy4 : gi y4 27 29 = gi y 27 29 := by rw [e4, gsi_k (by decide)]; exact hy3
        have ea := ti_add (x := gi y 27 29) (y := 1) (by omega) (by omega)
        refine hk55 y5 ?_ ?_
        · rw [e5, hy4]
          exact ky4.si (by decide) (show 0 ≤ (gi y 27 29 + 1).toInt ∧ (gi y 27 29 + 1).toInt ≤ 12 by omega) (fun e => absurd e (by decide))
        · rw [e5, gsi_eq, hy4, ea]; omega
theorem loadings_ok {s : Sg} {a b : Int32} (h : I10_ s) (hv : VA_ s) : wp_ (fX10_loadings a b s) (fun q => K10_ s q.2) := by
  generalize hQ : (fun q : Int64 × Sg => K10_ s q.2) = Q
  have L1 : (1 : Int32).toInt = 1 := rfl
  have c1024 : ((2 ^ 10 : Nat) : Int) = 1024 := by decide
  obtain ⟨r, er, hr⟩ := areAsked_x (a := a) (b := b) h
  unfold fX10_loadings
  refine wp_bnd_e er (wp_if_i (fun _ => wp_some_i (by rw [← hQ]; exact K10_.rf h)) (fun hb => ?_))
  refine wp_bnv_i (findLoads_ok h hv (hr (b2i_ne hb))) (fun t ht => ?_)
  obtain ⟨kt, m1, m2⟩ := ht
  have sh := shl_le (gi t 27 29) 10 m1 (by omega) (by decide)
  rw [c1024] at sh
  have es := ti_sub (x := 1 <<< (gi t 27 29 &&& 31)) (y := 1) (by omega) (by omega)
  refine wp_jn (fun k => ∀ u, K10_ s u → gi u 27 29 = gi t 27 29 → wp_ (k u) Q) ?_ (fun k5 hk5 => ?_)
  · intro u ku eu
    try dsimp only
    rw [eu]
    exact wp_chk_i (inb_ti (by omega) (by omega)) (wp_some_i (by rw [← hQ]; exact ku))
  · refine lo2_i (fun (p : Int32) y => 0 ≤ p.toInt ∧ p.toInt ≤ 1024 ∧ K10_ s y ∧ gi y 27 29 = gi t 27 29) (fun p y => (1025 - p.toInt).toNat) ?_ FU 0 t ⟨by decide +kernel, by decide +kernel, kt, rfl⟩ (show (1025 - (0 : Int32).toInt).toNat < 1000000000 by decide +kernel)
    rintro rec p y ⟨p1, p2, ky, ey⟩ hrec
    unfold fX10_loadings_21_b
    rw [ey]
    refine wp_if_i (fun _ => hk5 y ky ey) (fun hlt => ?_)
    have hlt' := nle_ti hlt
    refine wp_jn (fun k => ∀ z, wp_ (k p z) Q) ?_ (fun k11 hk11 => wp_if_i (fun _ => hk11 _) (fun _ => hk11 _))
    intro z
    refine wp_chk_i (inb_ti (by omega) (by omega)) (wp_bv_i (fun y2 e2 => ?_))
    have ky2 : K10_ s y2 := by rw [e2]; exact ky.sl
    have ey2 : gi y2 27 29 = gi t 27 29 := by rw [e2, gi_sl_]; exact ey
    clear e2
    refine wp_jn (fun k => ∀ u, K10_ s u → gi u 27 29 = gi t 27 29 → wp_ (k u) Q) ?_ (fun k15 hk15 => ?_)
    · intro u ku eu
      refine wp_bv_i (fun v ev => ?_)
      have e := ti_add (x := p) (y := 1) (by omega) (by omega)
      rw [← ev] at e
      exact hrec v u ⟨by omega, by omega, ku, eu⟩ (by omega)
    · refine lo2_i (fun (k : Int32) u => 0 ≤ k.toInt ∧ k.toInt ≤ 10 ∧ K10_ s u ∧ gi u 27 29 = gi t 27 29) (fun k u => (11 - k.toInt).toNat) ?_ FU 0 y2 ⟨by decide +kernel, by decide +kernel, ky2, ey2⟩ (show (11 - (0 : Int32).toInt).toNat < 1000000000 by decide +kernel)
      rintro rec2 k u ⟨k1, k2, ku, eu⟩ hr2
      unfold fX10_loadings_49_b
      rw [eu]
      refine wp_if_i (fun _ => hk15 u ku eu) (fun hlk => ?_)
      have hlk' := nle_ti hlk
      refine wp_bnd_e (has_e _ _ _) (wp_jn (fun kk => ∀ w, K10_ s w → gi w 27 29 = gi t 27 29 → wp_ (kk w) Q) ?_ (fun k22 hk22 => ?_))
      · intro w kw ew
        refine wp_bv_i (fun v ev => ?_)
        have e := ti_add (x := k) (y := 1) (by omega) (by omega)
        rw [← ev] at e
        exact hr2 v w ⟨by omega, by omega, kw, ew⟩ (by omega)
      · refine wp_if_i (fun _ => hk22 u ku eu) (fun _ => wp_chk_i (inb_ti (by omega) (by omega)) (wp_if_i (fun _ => hk22 u ku eu) (fun _ => ?_)))
        have ab := and_bd ((1 <<< (k &&& 31)) ^^^ (-1)) p p1
        rw [Int32.and_comm] at ab
        refine wp_chk_i (inb_ti (by omega) (by omega)) (wp_bv_i (fun w ew => ?_))
        exact hk22 w (by rw [ew]; exact ku.sl) (by rw [ew, gi_sl_]; exact eu)
