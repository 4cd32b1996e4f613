/-! the class's search for a counterpoise -/
/-- what a set of the first n things weighs -/
def sm_ (w : Nat → Nat) : Nat → Nat → Nat
  | 0, _ => 0
  | n + 1, m => sm_ w n m + (if m.testBit n then w n else 0)
theorem sm_le {w : Nat → Nat} (hw : ∀ i, i < 12 → w i ≤ 999) : ∀ n, n ≤ 12 → ∀ m, sm_ w n m ≤ 999 * n := by
  intro n
  induction n with
  | zero => intro _ m; exact Nat.le_refl _
  | succ n ih =>
    intro hn m
    have h1 := ih (by omega) m
    have h2 := hw n (by omega)
    show sm_ w n m + (if m.testBit n then w n else 0) ≤ _
    split <;> omega
theorem sm_zero (w : Nat → Nat) : ∀ n, sm_ w n 0 = 0 := by
  intro n
  induction n with
  | zero => rfl
  | succ n ih => show sm_ w n 0 + (if Nat.testBit 0 n then w n else 0) = 0; rw [ih, Nat.zero_testBit]; rfl
theorem sm_hi {w : Nat → Nat} {i m : Nat} (h : m < 2 ^ i) : ∀ d, sm_ w (i + d) m = sm_ w i m := by
  intro d
  induction d with
  | zero => rfl
  | succ d ih =>
    show sm_ w (i + d) m + (if m.testBit (i + d) then w (i + d) else 0) = _
    have : m.testBit (i + d) = false := Nat.testBit_lt_two_pow (Nat.lt_of_lt_of_le h (Nat.pow_le_pow_right (by decide) (by omega)))
    rw [ih, this]
    rfl
theorem sm_lo {w : Nat → Nat} {i j : Nat} : ∀ k, k ≤ i → sm_ w k (2 ^ i + j) = sm_ w k j := by
  intro k
  induction k with
  | zero => intro _; rfl
  | succ k ih =>
    intro hk
    show sm_ w k (2 ^ i + j) + (if (2 ^ i + j).testBit k then w k else 0) = sm_ w k j + (if j.testBit k then w k else 0)
    rw [ih (by omega), Nat.testBit_two_pow_add_gt (by omega)]
theorem sm_add {w : Nat → Nat} {n i j : Nat} (hi : i < n) (hj : j < 2 ^ i) : sm_ w n (2 ^ i + j) = sm_ w n j + w i := by
  have hlt : 2 ^ i + j < 2 ^ (i + 1) := by rw [Nat.pow_succ]; omega
  have e1 := sm_hi (w := w) hlt (n - (i + 1))
  have e2 := sm_hi (w := w) hj (n - i)
  rw [show i + 1 + (n - (i + 1)) = n by omega] at e1
  rw [show i + (n - i) = n by omega] at e2
  rw [e1, e2]
  show sm_ w i (2 ^ i + j) + (if (2 ^ i + j).testBit i then w i else 0) = _
  rw [sm_lo i (Nat.le_refl _), Nat.testBit_two_pow_add_eq, Nat.testBit_lt_two_pow hj]
  rfl
theorem shl_n : ∀ i, i < 13 → (1 <<< (nI i &&& 31) : Int32) = nI (2 ^ i) := by decide +kernel
theorem pw12 {n : Nat} (h : n ≤ 12) : 1 ≤ 2 ^ n ∧ 2 ^ n ≤ 4096 := ⟨Nat.one_le_two_pow, Nat.pow_le_pow_right (n := 2) (by decide) h⟩
/-- the class's things -/
def CW_ (w : Nat → Nat) (n : Nat) (s : Sg) : Prop := gi s 1 6 = nI n ∧ n ≤ 12 ∧ (∀ i, i < 12 → gi s 9 i = nI (w i)) ∧ ∀ i, i < 12 → w i ≤ 999
theorem addSums_v {s : Sg} {w : Nat → Nat} {n : Nat} (h : CW_ w n s) (h0 : gi s 26 0 = 0) : pf_ (fX0_addSums s) (fun t => (∀ k, k ≠ 26 → gi t k = gi s k) ∧ ∀ m, m < 2 ^ n → gi t 26 m = nI (sm_ w n m)) := by
  generalize hQ : (fun t : Sg => (∀ k, k ≠ 26 → gi t k = gi s k) ∧ ∀ m, m < 2 ^ n → gi t 26 m = nI (sm_ w n m)) = Q
  obtain ⟨hn, hn12, hw9, hw⟩ := h
  unfold fX0_addSums
  refine pf_lo2 (fun (x : Int32) u => ∃ i, x = nI i ∧ i ≤ n ∧ (∀ k, k ≠ 26 → gi u k = gi s k) ∧ ∀ m, m < 2 ^ i → gi u 26 m = nI (sm_ w n m)) ?_ FU 0 s ⟨0, rfl, by omega, fun _ _ => rfl, fun m hm => ?_⟩
  · rintro rec x u ⟨i, rfl, hi, fr, hm⟩ hr
    have u16 : gi u 1 6 = nI n := by rw [fr 1 (by decide)]; exact hn
    unfold fX0_addSums_2_b
    rw [u16]
    refine pf_ifc (fun hle => pf_some ?_) (fun hle => ?_)
    · rw [nI_lei (by omega) (by omega)] at hle
      have : i = n := by omega
      subst this
      rw [← hQ]
      exact ⟨fr, hm⟩
    · rw [nI_lei (by omega) (by omega)] at hle
      obtain ⟨pw1, pw2⟩ := pw12 (n := i) (by omega)
      have hps : 2 ^ (i + 1) = 2 ^ i + 2 ^ i := by rw [Nat.pow_succ]; omega
      refine pf_jn (fun k => ∀ v, (∀ k, k ≠ 26 → gi v k = gi s k) → (∀ m, m < 2 ^ (i + 1) → gi v 26 m = nI (sm_ w n m)) → pf_ (k v) Q) ?_ (fun k4 hk4 => ?_)
      · intro v fv hv
        refine pf_bv (fun y ey => ?_)
        rw [nI_1] at ey
        subst ey
        exact hr _ v ⟨i + 1, rfl, by omega, fv, hv⟩
      · refine pf_lo2 (fun (y : Int32) v => ∃ j, y = nI j ∧ j ≤ 2 ^ i ∧ (∀ k, k ≠ 26 → gi v k = gi s k) ∧ ∀ m, m < 2 ^ i + j → gi v 26 m = nI (sm_ w n m)) ?_ FU 0 u ⟨0, rfl, by omega, fr, fun m h => hm m (by omega)⟩
        rintro rec2 y v ⟨j, rfl, hj, fv, hv⟩ hr2
        unfold fX0_addSums_12_b
        rw [shl_n i (by omega)]
        refine pf_ifc (fun hle2 => ?_) (fun hle2 => ?_)
        · rw [nI_lei (by omega) (by omega)] at hle2
          exact hk4 v fv (fun m h => hv m (by omega))
        · rw [nI_lei (by omega) (by omega)] at hle2
          refine pf_chk (fun _ => pf_chk (fun _ => pf_chk (fun _ => pf_bv (fun z ez => pf_bv (fun v12 e12 => ?_)))))
          rw [nI_add_, ix_nI (by omega), ix_nI (by omega), ix_nI (by omega), hv j (by omega), fv 9 (by decide), hw9 i (by omega), nI_add_] at ez
          rw [nI_1] at e12
          subst e12
          refine hr2 _ z ⟨j + 1, rfl, by omega, fun k hk => by rw [ez, gsi_f hk]; exact fv k hk, fun m h => ?_⟩
          by_cases e : m = j + 2 ^ i
          · subst e
            rw [ez, gsi_eq, Nat.add_comm j, sm_add (by omega) (by omega)]
          · rw [ez, gsi_ne e]; exact hv m (by omega)
  · have : m = 0 := by simpa using hm
    subst this
    rw [h0, sm_zero]
    rfl
theorem par00_ : ∀ a, a < 120 → ∀ b, b < 100 → nI (100 * a + b) - nI (100 * a + b) / 2 * 2 = nI ((100 * a + b) % 2) := by decide +kernel
theorem par0_ (z : Nat) (h : z < 12000) : nI z - nI z / 2 * 2 = nI (z % 2) := by
  have := par00_ (z / 100) (by omega) (z % 100) (by omega)
  rwa [Nat.div_add_mod] at this
theorem par_ {z : Nat} (hz : z < 12000) : (nI z - nI z / 2 * 2 = 0) ↔ z % 2 = 0 := by
  rw [par0_ z hz]
  exact nI_eqi (a := z % 2) (b := 0) (by omega) (by omega)
theorem mul2_ {a : Nat} (h : a < 100000) : nI a * 2 = nI (2 * a) := by
  apply Int32.toInt_inj.mp
  rw [Int32.mul_comm, tm2_ (by rw [nI_toInt (by omega)]; omega) (by rw [nI_toInt (by omega)]; omega), nI_toInt (by omega), nI_toInt (by omega)]
  omega
/-- b beside the load L, the rest of u against both -/
def so_ (w : Nat → Nat) (n L u b : Nat) : Prop := b &&& u = b ∧ 2 * sm_ w n b + L = sm_ w n u
theorem part_v {s : Sg} {w : Nat → Nat} {n m L : Nat} (hn : n ≤ 12) (hw : ∀ i, i < 12 → w i ≤ 999) (hS : ∀ m, m < 2 ^ n → gi s 26 m = nI (sm_ w n m)) (hm : m < 2 ^ n) (hL : L ≤ 999) : pf_ (fX0_partBeside (nI m) (nI L) s) (fun q => q.2 = s ∧ ((q.1 = -1 ∧ ∀ p, ¬ so_ w n L m p) ∨ ∃ p, q.1 = nI p ∧ so_ w n L m p ∧ ∀ p', so_ w n L m p' → p ≤ p')) := by
  generalize hQ : (fun q : Int32 × Sg => q.2 = s ∧ ((q.1 = -1 ∧ ∀ p, ¬ so_ w n L m p) ∨ ∃ p, q.1 = nI p ∧ so_ w n L m p ∧ ∀ p', so_ w n L m p' → p ≤ p')) = Q
  obtain ⟨pw1, pw2⟩ := pw12 hn
  have hb := sm_le hw n hn
  have hbm := hb m
  have no : (∀ p, ¬ so_ w n L m p) → pf_ (some ((-1 : Int32), s)) Q := fun h => pf_some (by rw [← hQ]; exact ⟨rfl, Or.inl ⟨rfl, h⟩⟩)
  unfold fX0_partBeside
  refine pf_chk (fun _ => ?_)
  rw [ix_nI (show m < 2 ^ 31 by omega), hS m hm]
  refine pf_bv (fun v2 e2 => ?_)
  have t2 := ti_sub (x := nI (sm_ w n m)) (y := nI L) (by rw [nI_toInt (by omega), nI_toInt (by omega)]; omega) (by rw [nI_toInt (by omega), nI_toInt (by omega)]; omega)
  rw [← e2, nI_toInt (by omega), nI_toInt (by omega)] at t2
  refine pf_ifc (fun h0 => no (fun p hp => ?_)) (fun h0 => ?_)
  · have h0' := lt_ti h0
    rw [show (0 : Int32).toInt = 0 from rfl] at h0'
    have := hp.2
    omega
  have h0' := nlt_ti h0
  rw [show (0 : Int32).toInt = 0 from rfl] at h0'
  have e2' : v2 = nI (sm_ w n m - L) := by rw [e2]; exact sub_ (by omega)
  subst e2'
  refine pf_ifi (par_ (by omega)) (fun hev => ?_) (fun hod => no (fun p hp => by have := hp.2; omega))
  refine pf_lo2 (fun (x y : Int32) => ∃ p c : Nat, x = nI p ∧ y = nI c ∧ c ≤ p ∧ p &&& m = p ∧ ∀ p', so_ w n L m p' → p ≤ p') ?_ FU 0 0 ⟨0, 0, rfl, rfl, by omega, Nat.zero_and m, fun p' _ => Nat.zero_le _⟩
  rintro rec x y ⟨p, c, rfl, rfl, hc, hpm, hlow⟩ hr
  have hpl := sub_le hpm
  have hbp := hb p
  unfold fX0_partBeside_27_b
  refine pf_ifc (fun h4 => ?_) (fun _ => pf_chk (fun _ => ?_))
  · have : (4096 : Int32) = nI 4096 := rfl
    rw [this, nI_lei (by omega) (by omega)] at h4
    omega
  rw [ix_nI (show p < 2 ^ 31 by omega), hS p (by omega), mul2_ (by omega)]
  refine pf_ifc (fun he => pf_some ?_) (fun hne => pf_bv (fun v6 e6 => ?_))
  · rw [nI_eqi (by omega) (by omega)] at he
    rw [← hQ]
    exact ⟨rfl, Or.inr ⟨p, rfl, ⟨hpm, by omega⟩, hlow⟩⟩
  · rw [nI_eqi (by omega) (by omega)] at hne
    have hnp : ¬ so_ w n L m p := fun hp => by have := hp.2; omega
    by_cases hlt : p < m
    · rw [nI_nxt (by omega) hlt] at e6
      obtain ⟨n1, n2⟩ := sb_nxt 32 m p (by omega) hpm hlt
      have hle : ((2 ^ 32 - m + p) &&& m) ≤ m := Nat.and_le_right
      have hsub := and_sub (2 ^ 32 - m + p) m
      generalize (2 ^ 32 - m + p) &&& m = t at *
      subst e6
      refine pf_ifc (fun h0 => ?_) (fun _ => pf_bv (fun v7 e7 => ?_))
      · have : (0 : Int32) = nI 0 := rfl
        rw [this, nI_eqi (by omega) (by omega)] at h0
        omega
      · rw [nI_1] at e7
        subst e7
        refine hr _ _ ⟨t, c + 1, rfl, rfl, by omega, hsub, fun p' hp' => ?_⟩
        have h1 := hlow p' hp'
        by_cases e : p' = p
        · subst e; exact absurd hp' hnp
        · exact n2 p' hp'.1 (by omega)
    · have : p = m := by omega
      subst this
      rw [nI_nxt0] at e6
      subst e6
      refine pf_ifc (fun _ => no (fun p' hp' => ?_)) (fun h => absurd rfl h)
      have h1 := hlow p' hp'
      have h2 := sub_le hp'.1
      have : p' = p := by omega
      subst this
      exact hnp hp'
/-! the fewest, then the lowest set, then the lowest part beside -/
def Vl_ (w : Nat → Nat) (n L u b : Nat) : Prop := 1 ≤ u ∧ u < 2 ^ n ∧ so_ w n L u b
def lx_ (u b u' b' : Nat) : Prop := pn_ u 12 < pn_ u' 12 ∨ (pn_ u 12 = pn_ u' 12 ∧ (u < u' ∨ (u = u' ∧ b ≤ b')))
theorem lx_anti {u b u' b' : Nat} (h1 : lx_ u b u' b') (h2 : lx_ u' b' u b) : u = u' ∧ b = b' := by
  unfold lx_ at h1 h2
  omega
theorem pn_le (p : Nat) : ∀ n, pn_ p n ≤ n := by
  intro n
  induction n with
  | zero => exact Nat.le_refl _
  | succ n ih => have := bn_le (p.testBit n); show pn_ p n + bn_ (p.testBit n) ≤ _; omega
/-- what the search has found among the sets below m -/
def Bs_ (w : Nat → Nat) (n L m f u b : Nat) : Prop := (f = 13 ∧ ∀ u' b', u' < m → ¬ Vl_ w n L u' b') ∨ (f = pn_ u 12 ∧ Vl_ w n L u b ∧ u < m ∧ ∀ u' b', u' < m → Vl_ w n L u' b' → lx_ u b u' b')
def bcv_ (a1 : Int32) : Int32 :=
  bv (a1 - (((Int32.toUInt32 a1 >>> (Int32.toUInt32 1 &&& Int32.toUInt32 31)).toInt32) &&& 1431655765)) fun v_1 =>
  bv ((v_1 &&& 858993459) + (((Int32.toUInt32 v_1 >>> (Int32.toUInt32 2 &&& Int32.toUInt32 31)).toInt32) &&& 858993459)) fun v_2 =>
  bv ((v_2 + ((Int32.toUInt32 v_2 >>> (Int32.toUInt32 4 &&& Int32.toUInt32 31)).toInt32)) &&& 252645135) fun v_3 =>
  bv (v_3 + ((Int32.toUInt32 v_3 >>> (Int32.toUInt32 8 &&& Int32.toUInt32 31)).toInt32)) fun v_4 =>
  bv (v_4 + ((Int32.toUInt32 v_4 >>> (Int32.toUInt32 16 &&& Int32.toUInt32 31)).toInt32)) fun v_5 =>
  v_5 &&& 63
theorem bcv_e (a : Int32) (s : Sg) : fJ6_bitCount_0f7a4 a s = some (bcv_ a, s) := rfl
theorem bcv0_ : ∀ a, a < 64 → ∀ b, b < 64 → bcv_ (nI (64 * a + b)) = nI (pn_ (64 * a + b) 12) := by decide +kernel
theorem bcv_ok (m : Nat) (h : m < 4096) : bcv_ (nI m) = nI (pn_ m 12) := by
  have := bcv0_ (m / 64) (by omega) (m % 64) (by omega)
  rwa [Nat.div_add_mod] at this
theorem bc_e {m : Nat} (h : m < 4096) (s : Sg) : fJ6_bitCount_0f7a4 (nI m) s = some (nI (pn_ m 12), s) := by rw [bcv_e, bcv_ok m h]
theorem find_v {s : Sg} {w : Nat → Nat} {n L : Nat} (h : CW_ w n s) (h0 : gi s 26 0 = 0) (hL : L ≤ 999) : pf_ (fX0_find (nI L) s) (fun q => (∀ k, k ≠ 26 → k ≠ 8 → gi q.2 k = gi s k) ∧ gi q.2 26 0 = 0 ∧ ((q.1 = false ∧ ∀ u b, ¬ Vl_ w n L u b) ∨ (q.1 = true ∧ ∃ u b, Vl_ w n L u b ∧ gi q.2 8 1 = nI u ∧ gi q.2 8 2 = nI b ∧ ∀ u' b', Vl_ w n L u' b' → lx_ u b u' b'))) := by
  generalize hQ : (fun q : Bool × Sg => (∀ k, k ≠ 26 → k ≠ 8 → gi q.2 k = gi s k) ∧ gi q.2 26 0 = 0 ∧ ((q.1 = false ∧ ∀ u b, ¬ Vl_ w n L u b) ∨ (q.1 = true ∧ ∃ u b, Vl_ w n L u b ∧ gi q.2 8 1 = nI u ∧ gi q.2 8 2 = nI b ∧ ∀ u' b', Vl_ w n L u' b' → lx_ u b u' b'))) = Q
  have c12 : (12 : Int32) = nI 12 := rfl
  obtain ⟨hn, hn12, hw9, hw⟩ := id h
  obtain ⟨pw1, pw2⟩ := pw12 hn12
  unfold fX0_find
  refine pf_bnv (addSums_v h h0) (fun s1 hs1 => ?_)
  obtain ⟨fr1, hS⟩ := hs1
  refine pf_jn (fun k => ∀ (f u b : Nat) v, (∀ k, k ≠ 8 → gi v k = gi s1 k) → Bs_ w n L (2 ^ n) f u b → (f ≠ 13 → gi v 8 1 = nI u ∧ gi v 8 2 = nI b) → f ≤ 13 → pf_ (k (nI f) v) Q) ?_ (fun k4 hk4 => ?_)
  · intro f u b v fv hb hv hf
    have fr : ∀ k, k ≠ 26 → k ≠ 8 → gi v k = gi s k := fun k a c => by rw [fv k c, fr1 k a]
    have z0 : gi v 26 0 = 0 := by rw [fv 26 (by decide), hS 0 (by omega), sm_zero]; rfl
    try dsimp only
    rw [c12]
    refine pf_ifi (nI_lti (by omega) (by omega)) (fun hlt => pf_some ?_) (fun hlt => pf_some ?_)
    · rw [← hQ]
      refine ⟨fr, z0, Or.inl ⟨rfl, fun u' b' hv' => ?_⟩⟩
      rcases hb with ⟨_, hn'⟩ | ⟨hf', _⟩
      · exact hn' u' b' hv'.2.1 hv'
      · have := pn_le u 12
        omega
    · rw [← hQ]
      refine ⟨fr, z0, Or.inr ⟨rfl, u, b, ?_⟩⟩
      rcases hb with ⟨hf', _⟩ | ⟨hf', hvl, _, hlx⟩
      · omega
      · obtain ⟨g1, g2⟩ := hv (by omega)
        exact ⟨hvl, g1, g2, fun u' b' hv' => hlx u' b' hv'.2.1 hv'⟩
  · refine pf_lo3 (fun (x y : Int32) v => ∃ f m u b : Nat, x = nI f ∧ y = nI m ∧ 1 ≤ m ∧ m ≤ 2 ^ n ∧ f ≤ 13 ∧ (∀ k, k ≠ 8 → gi v k = gi s1 k) ∧ Bs_ w n L m f u b ∧ (f ≠ 13 → gi v 8 1 = nI u ∧ gi v 8 2 = nI b)) ?_ FU 13 1 s1 ⟨13, 1, 0, 0, rfl, rfl, by omega, by omega, by omega, fun _ _ => rfl, Or.inl ⟨rfl, fun u' b' h1 h2 => by have := h2.1; omega⟩, fun e => absurd rfl e⟩
    rintro rec x y v ⟨f, m, u, b, rfl, rfl, hm1, hm2, hf, fv, hb, hv⟩ hr
    have v16 : gi v 1 6 = nI n := by rw [fv 1 (by decide), fr1 1 (by decide)]; exact hn
    unfold fX0_find_11_b
    rw [v16, shl_n n (by omega)]
    refine pf_ifi (nI_lei (by omega) (by omega)) (fun hle => ?_) (fun hle => ?_)
    · have : m = 2 ^ n := by omega
      subst this
      exact hk4 f u b v fv hb hv hf
    · refine pf_bnde (bc_e (by omega) v) ?_
      have hpn := pn_le m 12
      refine pf_jn (fun k => ((∀ p, ¬ so_ w n L m p) ∨ f ≤ pn_ m 12 → pf_ (k (-1) v) Q) ∧ ∀ p, p ≤ m → pn_ m 12 < f → so_ w n L m p → (∀ p', so_ w n L m p' → p ≤ p') → pf_ (k (nI p) v) Q) ⟨?_, ?_⟩ (fun k12 hk12 => ?_)
      · intro hno
        refine pf_jn (fun k => pf_ (k (nI f) v) Q) ?_ (fun k15 hk15 => pf_ifc (fun _ => hk15) (fun e => absurd rfl e))
        refine pf_bv (fun v16 e16 => ?_)
        rw [nI_1] at e16
        subst e16
        refine hr _ _ v ⟨f, m + 1, u, b, rfl, rfl, by omega, by omega, hf, fv, ?_, hv⟩
        rcases hb with ⟨hf', hn'⟩ | ⟨hf', hvl, hum, hlx⟩
        · refine Or.inl ⟨hf', fun u' b' hu' hv' => ?_⟩
          by_cases e : u' = m
          · subst e
            rcases hno with hno | hno
            · exact hno b' hv'.2.2
            · omega
          · exact hn' u' b' (by omega) hv'
        · refine Or.inr ⟨hf', hvl, by omega, fun u' b' hu' hv' => ?_⟩
          by_cases e : u' = m
          · subst e
            rcases hno with hno | hno
            · exact absurd hv'.2.2 (hno b')
            · unfold lx_; omega
          · exact hlx u' b' (by omega) hv'
      · intro p hpm hlt hso hlow
        refine pf_jn (fun k => ∀ z, (∀ k, k ≠ 8 → gi z k = gi s1 k) → gi z 8 1 = nI m → gi z 8 2 = nI p → pf_ (k (nI (pn_ m 12)) z) Q) ?_ (fun k15 hk15 => pf_ifc (fun e => ?_) (fun _ => ?_))
        · intro z fz z1 z2
          refine pf_bv (fun v16 e16 => ?_)
          rw [nI_1] at e16
          subst e16
          refine hr _ _ z ⟨pn_ m 12, m + 1, m, p, rfl, rfl, by omega, by omega, by omega, fz, Or.inr ⟨rfl, ⟨hm1, by omega, hso⟩, by omega, fun u' b' hu' hv' => ?_⟩, fun _ => ⟨z1, z2⟩⟩
          by_cases e : u' = m
          · subst e
            exact Or.inr ⟨rfl, Or.inr ⟨rfl, hlow b' hv'.2.2⟩⟩
          · rcases hb with ⟨hf', hn'⟩ | ⟨hf', hvl, hum, hlx⟩
            · exact absurd hv' (hn' u' b' (by omega))
            · have := hlx u' b' (by omega) hv'
              unfold lx_ at this ⊢
              omega
        · have := congrArg Int32.toInt e
          rw [nI_toInt (by omega), show (-1 : Int32).toInt = -1 from rfl] at this
          omega
        · refine pf_bv (fun z1 e1 => pf_bv (fun z2 e2 => ?_))
          exact hk15 z2 (fun k hk => by rw [e2, gsi_f hk, e1, gsi_f hk]; exact fv k hk) (by rw [e2, gsi_ne (by decide), e1, gsi_eq]) (by rw [e2, gsi_eq])
      · skip
        refine pf_ifi (nI_lei (by omega) (by omega)) (fun hle2 => hk12.1 (Or.inr hle2)) (fun hlt => ?_)
        have hSv : ∀ m, m < 2 ^ n → gi v 26 m = nI (sm_ w n m) := fun m hm => by rw [fv 26 (by decide)]; exact hS m hm
        refine pf_bnd (part_v hn12 hw hSv (by omega) hL) (fun r t ht => ?_)
        obtain ⟨ht1, ht2⟩ := ht
        dsimp only at ht1 ht2
        subst ht1
        rcases ht2 with ⟨rfl, hno⟩ | ⟨p, rfl, hso, hlow⟩
        · exact hk12.1 (Or.inl hno)
        · exact hk12.2 p (sub_le hso.1) (by omega) hso hlow
theorem balanced9_v {s : Sg} {w : Nat → Nat} {n L : Nat} (h : CW_ w n s) (h0 : gi s 26 0 = 0) (hL : inR (nI L) 1 999 = true) (hL2 : L ≤ 999) (a : Int32) (ha : inR a 0 2 = true) : pf_ (fX9_balanced (nI L) a s) (fun q => (∀ k, k ≠ 26 → k ≠ 8 → gi q.2 k = gi s k) ∧ gi q.2 26 0 = 0 ∧ ((q.1 = -1 ∧ ∀ u b, ¬ Vl_ w n L u b) ∨ (∃ u b, Vl_ w n L u b ∧ (∀ u' b', Vl_ w n L u' b' → lx_ u b u' b') ∧ q.1 = (if a = 0 then nI (pn_ u 12) else if a = 1 then nI u else nI b)))) := by
  obtain ⟨hn, hn12, hw9, hw⟩ := id h
  obtain ⟨pw1, pw2⟩ := pw12 hn12
  unfold fX9_balanced
  refine pf_bnde (within_eq _ _ _ _) ?_
  rw [hL]
  refine pf_ifc (fun e => absurd e (by decide +kernel)) (fun _ => pf_bnde (within_eq _ _ _ _) ?_)
  rw [ha]
  refine pf_ifc (fun e => absurd e (by decide +kernel)) (fun _ => ?_)
  refine pf_bnd (find_v h h0 hL2) (fun r t ht => ?_)
  obtain ⟨fr, z0, ht⟩ := ht
  dsimp only at fr z0 ht
  rcases ht with ⟨rfl, hno⟩ | ⟨rfl, u, b, hv, g1, g2, hlx⟩
  · refine pf_ifc (fun _ => pf_some ⟨fr, z0, Or.inl ⟨rfl, hno⟩⟩) (fun e => absurd rfl e)
  · refine pf_ifc (fun e => absurd e (by decide +kernel)) (fun _ => ?_)
    have hu : u < 4096 := by have := hv.2.1; omega
    refine pf_ifc (fun e0 => ?_) (fun n0 => pf_ifc (fun e1 => pf_some ?_) (fun n1 => pf_some ?_))
    · rw [g1]
      refine pf_bnde (bc_e hu t) (pf_some ⟨fr, z0, Or.inr ⟨u, b, hv, hlx, ?_⟩⟩)
      rw [if_pos e0]
    · exact ⟨fr, z0, Or.inr ⟨u, b, hv, hlx, by rw [if_neg n0, if_pos e1]; exact g1⟩⟩
    · exact ⟨fr, z0, Or.inr ⟨u, b, hv, hlx, by rw [if_neg n0, if_neg n1]; exact g2⟩⟩
