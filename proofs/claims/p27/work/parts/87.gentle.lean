/-! the gentle order: the search in the model ends -/
theorem or_e : ∀ p, p < 1024 → ∀ l, l < 10 → nI p ||| (1 <<< (nI l &&& 31)) = nI (p ||| 2 ^ l) := by decide +kernel
theorem hb_tb : ∀ p, p < 1024 → ∀ l, l < 10 → hb_ (nI p) (nI l) = p.testBit l := by decide +kernel
theorem or_lt {p l m : Nat} (hp : p < 2 ^ m) (hl : l < m) : p ||| 2 ^ l < 2 ^ m := Nat.or_lt_two_pow hp (Nat.pow_lt_pow_right (by decide) hl)
theorem or_ne {p l : Nat} (h : p.testBit l = false) {i : Nat} (hi : i ≤ p) : p ||| 2 ^ l ≠ i := by
  intro e
  have h1 : p ≤ p ||| 2 ^ l := Nat.left_le_or
  have h2 : p ||| 2 ^ l = p := by omega
  have : (p ||| 2 ^ l).testBit l = true := by rw [Nat.testBit_or, Nat.testBit_two_pow_self, Bool.or_true]
  rw [h2, h] at this
  exact nomatch this
/-- how many of the first n bits of a number are set -/
def pn_ (p : Nat) : Nat → Nat
  | 0 => 0
  | n + 1 => pn_ p n + bn_ (p.testBit n)
theorem pn_or {p l : Nat} (h : p.testBit l = false) : ∀ n, pn_ (p ||| 2 ^ l) n = pn_ p n + (if l < n then 1 else 0) := by
  intro n
  induction n with
  | zero => rw [if_neg (by omega)]; rfl
  | succ n ih =>
    show pn_ (p ||| 2 ^ l) n + bn_ ((p ||| 2 ^ l).testBit n) = pn_ p n + bn_ (p.testBit n) + _
    rw [ih, Nat.testBit_or, Nat.testBit_two_pow]
    by_cases hln : l = n
    · subst hln
      rw [if_neg (by omega), if_pos (by omega), h]
      simp [bn_]
    · rw [decide_eq_false hln, Bool.or_false]
      by_cases hlt : l < n
      · rw [if_pos hlt, if_pos (by omega)]; omega
      · rw [if_neg hlt, if_neg (by omega)]; omega
theorem pn_all (m : Nat) : ∀ n, n ≤ m → pn_ (2 ^ m - 1) n = n := by
  intro n
  induction n with
  | zero => intro _; rfl
  | succ n ih =>
    intro h
    show pn_ (2 ^ m - 1) n + bn_ ((2 ^ m - 1).testBit n) = _
    rw [ih (by omega), Nat.testBit_two_pow_sub_one, decide_eq_true (by omega)]
    rfl
/-- what by answers -/
def byv_ (u : Sg) (v : Nat) : Int32 := if gi u 38 v = 0 then 100000000 else if gi u 39 v ≤ gi u 41 v then gi u 41 v else gi u 39 v
theorem by_x {u : Sg} {p l : Nat} (hp : p < 1024) (hl : l < 10) : fX10_by_ (nI p) (nI l) u = some (byv_ u (p ||| 2 ^ l), u) := by
  have hlt : p ||| 2 ^ l < 1024 := or_lt (m := 10) hp hl
  unfold fX10_by_ byv_
  rw [or_e p hp l hl]
  simp only [bv]
  rw [inb_nI hlt (by decide), ix_nI (by omega)]
  simp only [chk]
  by_cases h1 : gi u 38 (p ||| 2 ^ l) = 0
  · rw [if_pos h1, if_pos h1]
  · rw [if_neg h1, if_neg h1]
    by_cases h2 : gi u 39 (p ||| 2 ^ l) ≤ gi u 41 (p ||| 2 ^ l)
    · rw [if_pos h2, if_pos h2]
    · rw [if_neg h2, if_neg h2]
theorem byv_fr {u w : Sg} {v : Nat} (h38 : gi w 38 = gi u 38) (h39 : gi w 39 = gi u 39) (h41 : gi w 41 v = gi u 41 v) : byv_ w v = byv_ u v := by
  unfold byv_; rw [h38, h39, h41]
/-- left at p is NEVER, or some thing leads on -/
def FL_ (u : Sg) (m p : Nat) : Prop := 100000000 ≤ (gi u 41 p).toInt ∨ ∃ k, k < m ∧ p.testBit k = false ∧ (byv_ u (p ||| 2 ^ k)).toInt ≤ (gi u 41 p).toInt
theorem shl_nI {m : Nat} (hm : m ≤ 10) : (1 <<< (nI m &&& 31) : Int32).toInt = ((2 ^ m : Nat) : Int) := by
  rw [shl_eq m (by omega)]; norm_cast
theorem pow_le {m : Nat} (hm : m ≤ 10) : 1 ≤ 2 ^ m ∧ 2 ^ m ≤ 1024 := ⟨Nat.one_le_two_pow, Nat.pow_le_pow_right (n := 2) (by decide) hm⟩
/-- only the row left is written -/
def Lf_ (s t : Sg) : Prop := K10_ s t ∧ ∀ k, k ≠ 41 → gi t k = gi s k
theorem Lf_.rf {s : Sg} (h : I10_ s) : Lf_ s s := ⟨K10_.rf h, fun _ _ => rfl⟩
theorem Lf_.si {s t : Sg} {j : Nat} {v : Int32} (h : Lf_ s t) : Lf_ s (si t 41 j v) := ⟨h.1.si (by decide) trivial (fun e => absurd e (by decide)), fun k hk => by rw [gsi_f hk]; exact h.2 k hk⟩
theorem findLeft_ok {s : Sg} {m : Nat} (h : I10_ s) (hm : m ≤ 10) (h29 : gi s 27 29 = nI m) : wp_ (fX10_findLeft s) (fun t => Lf_ s t ∧ ∀ p, p < 2 ^ m - 1 → FL_ t m p) := by
  generalize hQ : (fun t : Sg => Lf_ s t ∧ ∀ p, p < 2 ^ m - 1 → FL_ t m p) = Q
  have L1 : (1 : Int32).toInt = 1 := rfl
  have L0 : (0 : Int32).toInt = 0 := rfl
  have M1 : (-1 : Int32).toInt = -1 := rfl
  obtain ⟨pw1, pw2⟩ := pow_le hm
  unfold fX10_findLeft
  rw [h29]
  have es := ti_sub (x := 1 <<< (nI m &&& 31)) (y := 1) (by rw [shl_nI hm]; omega) (by rw [shl_nI hm]; omega)
  rw [shl_nI hm] at es
  refine wp_bv_i (fun v1 e1 => ?_)
  rw [← e1] at es
  have ev1 : v1 = nI (2 ^ m - 1) := Int32.toInt_inj.mp (by rw [nI_toInt (by omega), es]; omega)
  clear e1
  refine lo2_i (fun (x : Int32) u => -1 ≤ x.toInt ∧ x.toInt ≤ ((2 ^ m : Nat) : Int) - 1 ∧ Lf_ s u ∧ ∀ p : Nat, x.toInt < (p : Int) → p < 2 ^ m - 1 → FL_ u m p) (fun x u => (x.toInt + 1).toNat) ?_ FU v1 s ⟨by omega, by omega, Lf_.rf h, fun p h1 h2 => by omega⟩ (by show _ < 1000000000; omega)
  rintro rec x u ⟨x1, x2, lu, fu⟩ hr
  unfold fX10_findLeft_11_b
  obtain ⟨vA, eA⟩ : ∃ w, w = x + (-1) := ⟨_, rfl⟩
  rw [← eA]
  refine wp_if_i (fun h0 => wp_some_i ?_) (fun h0 => ?_)
  · have h0' := lt_ti h0
    rw [← hQ]
    exact ⟨lu, fun p hp => fu p (by omega) hp⟩
  · have h0' := nlt_ti h0
    obtain ⟨p, hp⟩ : ∃ p : Nat, x = nI p ∧ p < 2 ^ m := ⟨x.toInt.toNat, nI_ot x (by omega), by omega⟩
    obtain ⟨rfl, hp2⟩ := hp
    have xp : (nI p).toInt = (p : Int) := nI_toInt (by omega)
    refine wp_jn (fun k => ∀ y : Int32, (p ≠ 2 ^ m - 1 → 100000000 ≤ y.toInt) → wp_ (k (nI p) y) Q) ?_ (fun k6 hk6 => wp_if_i (fun e => hk6 0 (fun hne => absurd (by
      have := congrArg Int32.toInt e
      rw [xp, es] at this
      omega) hne)) (fun _ => hk6 100000000 (fun _ => by decide +kernel)))
    intro y hy
    refine wp_chk_i (inb_nI (by omega) (by decide)) ?_
    rw [ix_nI (show p < 2 ^ 31 by omega)]
    refine wp_bv_i (fun w ew => ?_)
    have lw : Lf_ s w := by rw [ew]; exact lu.si
    have w41 : ∀ i, i ≠ p → gi w 41 i = gi u 41 i := fun i hi => by rw [ew, gsi_ne hi]
    have w41p : gi w 41 p = y := by rw [ew, gsi_eq]
    have wk : ∀ k, k ≠ 41 → gi w k = gi u k := fun k hk => by rw [ew, gsi_f hk]
    have fw : ∀ i : Nat, p < i → i < 2 ^ m - 1 → FL_ w m i := by
      intro i h1 h2
      rcases fu i (by rw [xp]; omega) h2 with e | ⟨k, a, b, c⟩
      · exact Or.inl (by rw [w41 i (by omega)]; exact e)
      · refine Or.inr ⟨k, a, b, ?_⟩
        rw [byv_fr (u := u) (wk 38 (by decide)) (wk 39 (by decide)) (w41 _ (or_ne b (by omega))), w41 i (by omega)]
        exact c
    clear ew
    refine wp_jn (fun k => ∀ t, Lf_ s t → (∀ i : Nat, p ≤ i → i < 2 ^ m - 1 → FL_ t m i) → wp_ (k t) Q) ?_ (fun k10 hk10 => ?_)
    · intro t lt ft
      refine wp_bv_i (fun v11 e11 => ?_)
      rw [eA] at e11
      have e := ti_add (x := nI p) (y := -1) (by omega) (by omega)
      rw [← e11] at e
      exact hr v11 t ⟨by omega, by omega, lt, fun i h1 h2 => ft i (by omega) h2⟩ (by omega)
    · refine lo2_i (fun (k : Int32) t => ∃ n : Nat, k = nI n ∧ n ≤ m ∧ Lf_ s t ∧ (∀ i : Nat, p < i → i < 2 ^ m - 1 → FL_ t m i) ∧ (p ≠ 2 ^ m - 1 → FL_ t m p)) (fun k t => (11 - k.toInt).toNat) ?_ FU 0 w ⟨0, rfl, by omega, lw, fw, fun hne => Or.inl (by rw [w41p]; exact hy hne)⟩ (show (11 - (0 : Int32).toInt).toNat < 1000000000 by decide +kernel)
      rintro rec2 k t ⟨n, rfl, hn, lt, ft, fp⟩ hr2
      have t29 : gi t 27 29 = nI m := by rw [lt.2 27 (by decide)]; exact h29
      have xn : (nI n).toInt = (n : Int) := nI_toInt (by omega)
      have xm : (nI m).toInt = (m : Int) := nI_toInt (by omega)
      unfold fX10_findLeft_35_b
      rw [t29]
      refine wp_if_i (fun _ => hk10 t lt (fun i h1 h2 => by
        by_cases e : i = p
        · subst e; exact fp (by omega)
        · exact ft i (by omega) h2)) (fun hlt => ?_)
      have hlt' := nle_ti hlt
      refine wp_bnd_e (has_e _ _ _) (wp_jn (fun kk => ∀ z, Lf_ s z → (∀ i : Nat, p < i → i < 2 ^ m - 1 → FL_ z m i) → (p ≠ 2 ^ m - 1 → FL_ z m p) → wp_ (kk z) Q) ?_ (fun k17 hk17 => ?_))
      · intro z lz fz fzp
        refine wp_bv_i (fun v ev => ?_)
        rw [nI_1] at ev
        subst ev
        have xn1 : (nI (n + 1)).toInt = ((n + 1 : Nat) : Int) := nI_toInt (by omega)
        exact hr2 _ z ⟨n + 1, rfl, by omega, lz, fz, fzp⟩ (by omega)
      · refine wp_if_i (fun hb => ?_) (fun _ => hk17 t lt ft fp)
        have hb' := b2i_eq hb
        rw [hb_tb p (by omega) n (by omega)] at hb'
        refine wp_bnd_e (by_x (by omega) (by omega)) (wp_chk_i (inb_nI (by omega) (by decide)) ?_)
        rw [ix_nI (show p < 2 ^ 31 by omega)]
        refine wp_if_i (fun _ => hk17 t lt ft fp) (fun _ => ?_)
        refine wp_bnd_e (by_x (by omega) (by omega)) (wp_bv_i (fun z ez => ?_))
        have z41 : ∀ i, i ≠ p → gi z 41 i = gi t 41 i := fun i hi => by rw [ez, gsi_ne hi]
        have z41p : gi z 41 p = byv_ t (p ||| 2 ^ n) := by rw [ez, gsi_eq]
        have zk : ∀ k, k ≠ 41 → gi z k = gi t k := fun k hk => by rw [ez, gsi_f hk]
        refine hk17 z (by rw [ez]; exact lt.si) (fun i h1 h2 => ?_) (fun _ => Or.inr ⟨n, by omega, hb', ?_⟩)
        · rcases ft i h1 h2 with e | ⟨k, a, b, c⟩
          · exact Or.inl (by rw [z41 i (by omega)]; exact e)
          · refine Or.inr ⟨k, a, b, ?_⟩
            rw [byv_fr (u := t) (zk 38 (by decide)) (zk 39 (by decide)) (z41 _ (or_ne b (by omega))), z41 i (by omega)]
            exact c
        · rw [byv_fr (u := t) (zk 38 (by decide)) (zk 39 (by decide)) (z41 _ (or_ne hb' (Nat.le_refl _))), z41p]
          exact Int.le_refl _
theorem gentle_ok {s : Sg} {a b c : Int32} (h : I10_ s) (hv : VA_ s) : wp_ (fX10_gentle a b c s) (fun q => K10_ s q.2) := by
  generalize hQ : (fun q : Int32 × Sg => K10_ s q.2) = Q
  have L1 : (1 : Int32).toInt = 1 := rfl
  have L0 : (0 : Int32).toInt = 0 := rfl
  have M1 : (-1 : Int32).toInt = -1 := rfl
  have L8 : (100000000 : Int32).toInt = 100000000 := by decide +kernel
  have fin : ∀ (r : Int32) u, K10_ s u → wp_ (some (r, u)) Q := fun r u hu => wp_some_i (by rw [← hQ]; exact hu)
  obtain ⟨r, er, hr⟩ := areAsked_x (a := a) (b := b) h
  unfold fX10_gentle
  refine wp_bnd_e er (wp_if_i (fun _ => fin _ _ (K10_.rf h)) (fun hb => wp_if_i (fun hc => ?_) (fun _ => fin _ _ (K10_.rf h))))
  have hc' := le_ti hc
  refine wp_bnv_i (findLoads_ok h hv (hr (b2i_ne hb))) (fun t ht => ?_)
  obtain ⟨kt, m1, m2⟩ := ht
  obtain ⟨m, hm, hm10⟩ : ∃ m : Nat, gi t 27 29 = nI m ∧ m ≤ 10 := ⟨(gi t 27 29).toInt.toNat, nI_ot _ m1, by omega⟩
  obtain ⟨pw1, pw2⟩ := pow_le hm10
  refine wp_bnv_i (findLeft_ok kt.1.1 hm10 hm) (fun u hu => ?_)
  obtain ⟨lu, fu⟩ := hu
  have ku := kt.tr lu.1
  have u29 : gi u 27 29 = nI m := by rw [lu.2 27 (by decide)]; exact hm
  have xm : (nI m).toInt = (m : Int) := nI_toInt (by omega)
  rw [ixl_0, u29]
  refine wp_if_i (fun _ => fin _ _ ku) (fun h8 => wp_if_i (fun hlt => wp_if_i (fun _ => fin _ _ ku) (fun hne => ?_)) (fun _ => fin _ _ ku))
  have h8' := nle_ti h8
  have hlt' := lt_ti hlt
  have hne' := ne_ti hne
  refine wp_jn (fun k => ∀ l : Nat, l < 12 → wp_ (k (nI l) u) Q) ?_ (fun k7 hk7 => ?_)
  · intro l hl
    exact wp_chk_i (inb_nI hl (by decide)) (fin _ _ ku)
  · refine lo4_i (fun (x y z : Int32) w => ∃ p l n : Nat, x = nI p ∧ p < 2 ^ m ∧ y = nI l ∧ l < 12 ∧ z.toInt = (n : Int) ∧ n ≤ m ∧ pn_ p m = n ∧ (gi u 41 p).toInt ≤ (gi u 41 0).toInt ∧ w = u) (fun x y z w => (11 - z.toInt).toNat) ?_ FU 0 0 0 u ⟨0, 0, 0, rfl, by omega, rfl, by decide, rfl, by omega, ?_, Int.le_refl _, rfl⟩ (show (11 - (0 : Int32).toInt).toNat < 1000000000 by decide +kernel)
    rotate_left
    · have : ∀ n, pn_ 0 n = 0 := by
        intro n
        induction n with
        | zero => rfl
        | succ n ih => show pn_ 0 n + bn_ (Nat.testBit 0 n) = 0; rw [ih, Nat.zero_testBit]; rfl
      exact this m
    rintro rec x y z w ⟨p, l, n, rfl, hp, rfl, hl, hz, hn, hpn, hle, rfl⟩ hrec
    unfold fX10_gentle_69_b
    refine wp_if_i (fun _ => hk7 l hl) (fun hcz => ?_)
    have hcz' := nlt_ti hcz
    have pne : p < 2 ^ m - 1 := by
      by_cases e : p = 2 ^ m - 1
      · rw [e, pn_all m m (Nat.le_refl _)] at hpn; omega
      · omega
    obtain ⟨k, k1, k2, k3⟩ : ∃ k, k < m ∧ p.testBit k = false ∧ (byv_ w (p ||| 2 ^ k)).toInt ≤ (gi w 41 p).toInt := by
      rcases fu p pne with e | e
      · omega
      · exact e
    refine wp_jn (fun kk => ∀ j : Nat, j < m → p.testBit j = false → (byv_ w (p ||| 2 ^ j)).toInt ≤ (gi w 41 0).toInt → wp_ (kk (nI j) w) Q) ?_ (fun k15 hk15 => ?_)
    · intro j j1 j2 j3
      refine wp_bv_i (fun v16 e16 => wp_bv_i (fun v17 e17 => ?_))
      rw [or_e p (by omega) j (by omega)] at e16
      have e := ti_add (x := z) (y := 1) (by omega) (by omega)
      rw [← e17] at e
      refine hrec v16 (nI j) v17 w ⟨p ||| 2 ^ j, j, n + 1, e16, or_lt hp j1, rfl, by omega, by omega, by omega, ?_, ?_, rfl⟩ (by omega)
      · rw [pn_or j2, if_pos j1, hpn]
      · unfold byv_ at j3
        by_cases s0 : gi w 38 (p ||| 2 ^ j) = 0
        · rw [if_pos s0] at j3; omega
        · rw [if_neg s0] at j3
          by_cases s1 : gi w 39 (p ||| 2 ^ j) ≤ gi w 41 (p ||| 2 ^ j)
          · rw [if_pos s1] at j3; exact j3
          · rw [if_neg s1] at j3
            have := nle_ti s1
            omega
    · refine lo2_i (fun (y : Int32) t => ∃ j : Nat, y = nI j ∧ j ≤ k ∧ t = w) (fun y t => (11 - y.toInt).toNat) ?_ FU 0 w ⟨0, rfl, by omega, rfl⟩ (show (11 - (0 : Int32).toInt).toNat < 1000000000 by decide +kernel)
      rintro rec2 y t ⟨j, rfl, hj, rfl⟩ hr2
      have xj : (nI j).toInt = (j : Int) := nI_toInt (by omega)
      unfold fX10_gentle_78_b
      rw [ixl_0]
      refine wp_bnd_e (has_e _ _ _) (wp_jn (fun kk => j < k → wp_ (kk t) Q) ?_ (fun k23 hk23 => ?_))
      · intro hjk
        refine wp_bv_i (fun v ev => ?_)
        rw [nI_1] at ev
        subst ev
        have xj1 : (nI (j + 1)).toInt = ((j + 1 : Nat) : Int) := nI_toInt (by omega)
        exact hr2 _ t ⟨j + 1, rfl, by omega, rfl⟩ (by omega)
      · refine wp_if_i (fun hb => ?_) (fun hb => ?_)
        · have hb' := b2i_eq hb
          rw [hb_tb p (by omega) j (by omega)] at hb'
          refine wp_bnd_e (by_x (by omega) (by omega)) (wp_if_i (fun hle2 => hk15 j (by omega) hb' (le_ti hle2)) (fun hgt => hk23 ?_))
          have hgt' := nle_ti hgt
          by_cases e : j = k
          · subst e; omega
          · omega
        · have hb' := b2i_ne hb
          rw [hb_tb p (by omega) j (by omega)] at hb'
          refine hk23 ?_
          by_cases e : j = k
          · subst e; rw [k2] at hb'; exact nomatch hb'
          · omega
