/-! the model's search for a counterpoise -/
theorem hb0_ : ∀ a, a < 64 → ∀ b, b < 64 → ∀ l, l < 12 → hb_ (nI (64 * a + b)) (nI l) = (64 * a + b).testBit l := by decide +kernel
theorem hb_tb12 (m : Nat) (h : m < 4096) (l : Nat) (hl : l < 12) : hb_ (nI m) (nI l) = m.testBit l := by
  have := hb0_ (m / 64) (by omega) (m % 64) (by omega) l hl
  rwa [Nat.div_add_mod] at this
theorem pc_pn {m : Nat} (h : m < 4096) : ∀ n, n ≤ 12 → pc_ (nI m) n = pn_ m n := by
  intro n
  induction n with
  | zero => intro _; rfl
  | succ n ih =>
    intro hn
    show pc_ (nI m) n + bn_ (hb_ (nI m) (nI n)) = pn_ m n + bn_ (m.testBit n)
    rw [ih (by omega), hb_tb12 m h n (by omega)]
theorem bits_e {m : Nat} (h : m < 4096) (s : Sg) : fX10_bits (nI m) s = some (nI (pn_ m 12), s) := by
  obtain ⟨r, e, hr⟩ := bits_x (nI m) s
  rw [pc_pn h 12 (Nat.le_refl _)] at hr
  have := pn_le m 12
  have er : r = nI (pn_ m 12) := Int32.toInt_inj.mp (by rw [nI_toInt (by omega)]; exact hr)
  rw [e, er]
/-- the model's things -/
def MW_ (w : Nat → Nat) (n : Nat) (s : Sg) : Prop := gi s 28 0 = nI n ∧ n ≤ 12 ∧ (∀ i, i < 12 → gi s 28 (15 + 3 * i) = nI (w i)) ∧ ∀ i, i < 12 → w i ≤ 999
/-- the best of the pairs told -/
def BM_ (w : Nat → Nat) (n L : Nat) (P : Nat → Nat → Prop) (v : Sg) : Prop := (gi v 43 0 = -1 ∧ ∀ u' b', P u' b' → ¬ Vl_ w n L u' b') ∨ ∃ u b, Vl_ w n L u b ∧ gi v 43 0 = nI (pn_ u 12) ∧ gi v 43 1 = nI u ∧ gi v 43 2 = nI b ∧ ∀ u' b', P u' b' → Vl_ w n L u' b' → lx_ u b u' b'
theorem BM_.im {w : Nat → Nat} {n L : Nat} {P P' : Nat → Nat → Prop} {v : Sg} (h : BM_ w n L P v) (hp : ∀ u b, P' u b → Vl_ w n L u b → P u b) : BM_ w n L P' v := by
  rcases h with ⟨h1, h2⟩ | ⟨u, b, h1, h2, h3, h4, h5⟩
  · exact Or.inl ⟨h1, fun u' b' hp' hv => h2 u' b' (hp u' b' hp' hv) hv⟩
  · exact Or.inr ⟨u, b, h1, h2, h3, h4, fun u' b' hp' hv => h5 u' b' (hp u' b' hp' hv) hv⟩
theorem BM_.fr {w : Nat → Nat} {n L : Nat} {P : Nat → Nat → Prop} {v v' : Sg} (h : BM_ w n L P v) (e : gi v' 43 = gi v 43) : BM_ w n L P v' := by
  unfold BM_; rw [e]; exact h
theorem lx_rf (u b : Nat) : lx_ u b u b := Or.inr ⟨rfl, Or.inr ⟨rfl, Nat.le_refl _⟩⟩
theorem lx_tr {a b c d e f : Nat} (h1 : lx_ a b c d) (h2 : lx_ c d e f) : lx_ a b e f := by
  unfold lx_ at *
  omega
theorem lx_tot {a b c d : Nat} (h : ¬ lx_ a b c d) : lx_ c d a b := by
  unfold lx_ at *
  omega
theorem tryBal_v {v : Sg} {w : Nat → Nat} {n L m t : Nat} {P : Nat → Nat → Prop} (hn : n ≤ 12) (hb : BM_ w n L P v) (hv : Vl_ w n L m t) : pf_ (fX10_tryBalanced (nI m) (nI t) v) (fun z => (∀ k, k ≠ 43 → gi z k = gi v k) ∧ BM_ w n L (fun u b => P u b ∨ (u = m ∧ b = t)) z) := by
  generalize hQ : (fun z : Sg => (∀ k, k ≠ 43 → gi z k = gi v k) ∧ BM_ w n L (fun u b => P u b ∨ (u = m ∧ b = t)) z) = Q
  obtain ⟨pw1, pw2⟩ := pw12 hn
  have hm : m < 4096 := by have := hv.2.1; omega
  have ht : t ≤ m := sub_le hv.2.2.1
  have c0 : (0 : Int32) = nI 0 := rfl
  have p12 := pn_le m 12
  unfold fX10_tryBalanced
  refine pf_bnde (bits_e hm v) ?_
  rw [ixl_0, ixl_1, ixl_2]
  have keep : (∀ u b, Vl_ w n L u b → gi v 43 0 = nI (pn_ u 12) → gi v 43 1 = nI u → gi v 43 2 = nI b → lx_ u b m t) → gi v 43 0 ≠ -1 → pf_ (some v) Q := by
    intro hk hne
    refine pf_some ?_
    rw [← hQ]
    refine ⟨fun _ _ => rfl, ?_⟩
    rcases hb with ⟨h1, _⟩ | ⟨u, b, h1, h2, h3, h4, h5⟩
    · exact absurd h1 hne
    · refine Or.inr ⟨u, b, h1, h2, h3, h4, fun u' b' hp hv' => ?_⟩
      rcases hp with hp | ⟨rfl, rfl⟩
      · exact h5 u' b' hp hv'
      · exact hk u b h1 h2 h3 h4
  have set : (∀ u b, Vl_ w n L u b → gi v 43 0 = nI (pn_ u 12) → gi v 43 1 = nI u → gi v 43 2 = nI b → lx_ m t u b) → pf_ (bv (si v 43 0 (nI (pn_ m 12))) fun s_5 => bv (si s_5 43 1 (nI m)) fun s_6 => bv (si s_6 43 2 (nI t)) fun s_7 => some s_7) Q := by
    intro hk
    refine pf_bv (fun s5 e5 => pf_bv (fun s6 e6 => pf_bv (fun s7 e7 => pf_some ?_)))
    rw [← hQ]
    refine ⟨fun k hk => by rw [e7, gsi_f hk, e6, gsi_f hk, e5, gsi_f hk], Or.inr ⟨m, t, hv, ?_, ?_, ?_, fun u' b' hp hv' => ?_⟩⟩
    · rw [e7, gsi_ne (by decide), e6, gsi_ne (by decide), e5, gsi_eq]
    · rw [e7, gsi_ne (by decide), e6, gsi_eq]
    · rw [e7, gsi_eq]
    · rcases hp with hp | ⟨rfl, rfl⟩
      · rcases hb with ⟨_, h2⟩ | ⟨u, b, h1, h2, h3, h4, h5⟩
        · exact absurd hv' (h2 u' b' hp)
        · exact lx_tr (hk u b h1 h2 h3 h4) (h5 u' b' hp hv')
      · exact lx_rf _ _
  refine pf_jn (fun k => ((∀ u b, Vl_ w n L u b → gi v 43 0 = nI (pn_ u 12) → gi v 43 1 = nI u → gi v 43 2 = nI b → lx_ m t u b) → pf_ (k true) Q) ∧ ((∀ u b, Vl_ w n L u b → gi v 43 0 = nI (pn_ u 12) → gi v 43 1 = nI u → gi v 43 2 = nI b → lx_ u b m t) → gi v 43 0 ≠ -1 → pf_ (k false) Q)) ⟨?_, ?_⟩ (fun k4 hk4 => ?_)
  · intro hk
    exact pf_ifc (fun e => absurd e (by decide +kernel)) (fun _ => set hk)
  · intro hk hne
    exact pf_ifc (fun _ => keep hk hne) (fun e => absurd rfl e)
  · refine pf_jn (fun k => ((∀ u b, Vl_ w n L u b → gi v 43 0 = nI (pn_ u 12) → gi v 43 1 = nI u → gi v 43 2 = nI b → lx_ m t u b) → pf_ k Q)) (fun hk => hk4.1 hk) (fun k8 hk8 => ?_)
    have inj : ∀ {a b : Nat}, a < 5000 → b < 5000 → nI a = nI b → a = b := fun ha hb' e => (nI_eqi (by omega) (by omega)).mp e
    have ub : ∀ {u b : Nat}, Vl_ w n L u b → u < 4096 ∧ b ≤ u := fun hv' => ⟨by have := hv'.2.1; omega, sub_le hv'.2.2.1⟩
    refine pf_ifc (fun hlt => hk8 (fun u b hv' g0 _ _ => ?_)) (fun hge => ?_)
    · rw [g0, c0, nI_lti (by have := pn_le u 12; omega) (by omega)] at hlt
      omega
    · have hne : gi v 43 0 ≠ -1 := fun e => hge (by rw [e]; decide +kernel)
      rcases hb with ⟨h1, _⟩ | ⟨u, b, h1, h2, h3, h4, h5⟩
      · exact absurd h1 hne
      have hu := ub h1
      have pu := pn_le u 12
      have uniq : ∀ {u' b'}, Vl_ w n L u' b' → gi v 43 1 = nI u' → gi v 43 2 = nI b' → u' = u ∧ b' = b := fun {u' b'} hv' g1 g2 => by
        have hu' := ub hv'
        rw [h3] at g1
        rw [h4] at g2
        exact ⟨(inj (by omega) (by omega) g1).symm, (inj (by omega) (by omega) g2).symm⟩
      rw [h2]
      refine pf_ifi (nI_lti (by omega) (by omega)) (fun hlt => hk8 (fun u' b' hv' _ g1 g2 => ?_)) (fun hnlt => ?_)
      · obtain ⟨rfl, rfl⟩ := uniq hv' g1 g2
        exact Or.inl hlt
      · refine pf_jn (fun k => (lx_ u b m t → pf_ k Q)) (fun hl => hk4.2 (fun u' b' hv' _ g1 g2 => by
          obtain ⟨rfl, rfl⟩ := uniq hv' g1 g2
          exact hl) hne) (fun k9 hk9 => ?_)
        rw [h3, h4]
        refine pf_ifi (nI_eqi (by omega) (by omega)) (fun heq => pf_ifi (nI_lti (by omega) (by omega)) (fun hmu => hk8 (fun u' b' hv' _ g1 g2 => ?_)) (fun hmu => pf_ifi (nI_eqi (by omega) (by omega)) (fun hme => pf_ifi (nI_lei (by omega) (by omega)) (fun hbt => hk9 ?_) (fun hbt => hk8 (fun u' b' hv' _ g1 g2 => ?_))) (fun hme => hk9 ?_))) (fun hne' => hk9 ?_)
        · obtain ⟨rfl, rfl⟩ := uniq hv' g1 g2
          exact Or.inr ⟨heq, Or.inl hmu⟩
        · exact Or.inr ⟨heq.symm, Or.inr ⟨hme.symm, hbt⟩⟩
        · obtain ⟨rfl, rfl⟩ := uniq hv' g1 g2
          exact Or.inr ⟨heq, Or.inr ⟨hme, by omega⟩⟩
        · exact Or.inr ⟨heq.symm, Or.inl (by omega)⟩
        · exact Or.inl (by omega)
theorem balanced10_v {s : Sg} {w : Nat → Nat} {n L : Nat} (h : MW_ w n s) (hL : inR (nI L) 1 999 = true) (hL1 : 1 ≤ L) (hL2 : L ≤ 999) (a : Int32) (ha : inR a 0 2 = true) : pf_ (fX10_balanced (nI L) a s) (fun q => (q.1 = -1 ∧ ∀ u b, ¬ Vl_ w n L u b) ∨ (∃ u b, Vl_ w n L u b ∧ (∀ u' b', Vl_ w n L u' b' → lx_ u b u' b') ∧ q.1 = (if a = 0 then nI (pn_ u 12) else if a = 1 then nI u else nI b))) := by
  generalize hQ : (fun q : Int32 × Sg => (q.1 = -1 ∧ ∀ u b, ¬ Vl_ w n L u b) ∨ (∃ u b, Vl_ w n L u b ∧ (∀ u' b', Vl_ w n L u' b' → lx_ u b u' b') ∧ q.1 = (if a = 0 then nI (pn_ u 12) else if a = 1 then nI u else nI b))) = Q
  have c0 : (0 : Int32) = nI 0 := rfl
  obtain ⟨hn, hn12, hw28, hw⟩ := id h
  obtain ⟨pw1, pw2⟩ := pw12 hn12
  have hb := sm_le hw n hn12
  unfold fX10_balanced
  rw [ixl_0]
  refine pf_bnde (isIn_eq _ _ _ _) ?_
  rw [hL]
  refine pf_ifc (fun e => absurd e (by decide +kernel)) (fun _ => pf_bnde (isIn_eq _ _ _ _) ?_)
  rw [ha]
  refine pf_ifc (fun e => absurd e (by decide +kernel)) (fun _ => ?_)
  rw [hn, shl_n n (by omega), nI_pr (by omega)]
  refine pf_bv (fun v5 e5 => ?_)
  subst e5
  refine pf_jn (fun k => ∀ v, (∀ m, m < 2 ^ n → gi v 44 m = nI (sm_ w n m)) → pf_ (k v) Q) ?_ (fun k7 hk7 => ?_)
  · intro s1 hS
    refine pf_bv (fun s8 e8 => ?_)
    refine pf_jn (fun k => ∀ v, BM_ w n L (fun u b => u < 2 ^ n) v → pf_ (k v) Q) ?_ (fun k10 hk10 => ?_)
    · intro v hv
      try dsimp only
      rcases hv with ⟨h1, h2⟩ | ⟨u, b, h1, h2, h3, h4, h5⟩
      · refine pf_ifc (fun e => ?_) (fun _ => pf_some ?_)
        · rw [h1] at e
          exact absurd e (by decide +kernel)
        · rw [← hQ]
          exact Or.inl ⟨rfl, fun u b hv => h2 u b hv.2.1 hv⟩
      · refine pf_ifc (fun _ => pf_chk (fun _ => pf_some ?_)) (fun e => ?_)
        · rw [← hQ]
          refine Or.inr ⟨u, b, h1, fun u' b' hv => h5 u' b' hv.2.1 hv, ?_⟩
          show gi v 43 (ix a) = _
          have ha' := inR_iff.mp ha
          have L0 : (0 : Int32).toInt = 0 := rfl
          have L1 : (1 : Int32).toInt = 1 := rfl
          have L2 : (2 : Int32).toInt = 2 := rfl
          by_cases a0 : a = 0
          · rw [if_pos a0, a0, ixl_0]; exact h2
          · rw [if_neg a0]
            by_cases a1 : a = 1
            · rw [if_pos a1, a1, ixl_1]; exact h3
            · have a2 : a = 2 := by
                have := ne_ti a0
                have := ne_ti a1
                exact Int32.toInt_inj.mp (by omega)
              rw [if_neg a1, a2, ixl_2]; exact h4
        · rw [h2, c0, nI_lei (by omega) (by have := pn_le u 12; omega)] at e
          omega
    · refine pf_lo2 (fun (x : Int32) v => ∃ m, x = nI m ∧ 1 ≤ m ∧ m ≤ 2 ^ n ∧ (∀ k, k ≠ 43 → gi v k = gi s1 k) ∧ BM_ w n L (fun u b => u < m) v) ?_ FU 1 s8 ⟨1, rfl, by omega, by omega, fun k hk => by rw [e8, gsi_f hk], Or.inl ⟨by rw [e8, gsi_eq], fun u' b' h1 h2 => by have := h2.1; omega⟩⟩
      rintro rec x v ⟨m, rfl, hm1, hm2, fv, bm⟩ hr
      unfold fX10_balanced_120_b
      rw [ixl_0]
      refine pf_ifi (nI_lti (by omega) (by omega)) (fun hlt => ?_) (fun hlt => ?_)
      · have : m = 2 ^ n := by omega
        subst this
        exact hk10 v bm
      · have hSm : ∀ (z : Sg), (∀ k, k ≠ 43 → gi z k = gi s1 k) → ∀ q, q < 2 ^ n → gi z 44 q = nI (sm_ w n q) := fun z fz q hq => by rw [fz 44 (by decide)]; exact hS q hq
        refine pf_jn (fun k => ∀ z, (∀ k, k ≠ 43 → gi z k = gi s1 k) → BM_ w n L (fun u b => u < m + 1) z → pf_ (k z) Q) ?_ (fun k15 hk15 => ?_)
        · intro z fz bz
          refine pf_bv (fun y ey => ?_)
          rw [nI_1] at ey
          subst ey
          exact hr _ z ⟨m + 1, rfl, by omega, by omega, fz, bz⟩
        · refine pf_jn (fun k => pf_ (k v) Q) ?_ (fun k18 hk18 => ?_)
          · refine pf_lo2 (fun (y : Int32) z => ∃ b, y = nI b ∧ b &&& m = b ∧ (∀ k, k ≠ 43 → gi z k = gi s1 k) ∧ BM_ w n L (fun u' b' => u' < m ∨ (u' = m ∧ b ≤ b')) z) ?_ FU (nI m) v ⟨m, rfl, Nat.and_self m, fv, bm.im (fun u b hp hv => ?_)⟩
            · rintro rec2 y z ⟨b, rfl, hbm, fz, bz⟩ hr2
              have hbl := sub_le hbm
              unfold fX10_balanced_156_b
              rw [c0]
              refine pf_ifi (nI_lei (by omega) (by omega)) (fun h0 => hk15 z fz (bz.im (fun u' b' hp _ => by omega))) (fun h0 => ?_)
              refine pf_bv (fun v21 e21 => ?_)
              rw [nI_pr (by omega), nI_and (by omega) (by omega)] at e21
              obtain ⟨q1, q2⟩ := sb_prv 31 m b (by omega) hbm (by omega)
              have hsub := and_sub (b - 1) m
              generalize (b - 1) &&& m = t at *
              subst e21
              refine pf_chk (fun _ => pf_chk (fun _ => ?_))
              have hbS := hb t
              have hbM := hb m
              rw [ix_nI (show m < 2 ^ 31 by omega), ix_nI (show t < 2 ^ 31 by omega), hSm z fz m (by omega), hSm z fz t (by omega), Int32.mul_comm, mul2_ (by omega)]
              have key : nI (sm_ w n m) - nI (2 * sm_ w n t) = nI L ↔ 2 * sm_ w n t + L = sm_ w n m := by
                constructor
                · intro e
                  have e' := congrArg Int32.toInt e
                  rw [ti_sub (by rw [nI_toInt (by omega), nI_toInt (by omega)]; omega) (by rw [nI_toInt (by omega), nI_toInt (by omega)]; omega), nI_toInt (by omega), nI_toInt (by omega), nI_toInt (by omega)] at e'
                  omega
                · intro e
                  rw [sub_ (by omega)]
                  congr 1
                  omega
              have step : ∀ u' b', (u' < m ∨ (u' = m ∧ t ≤ b')) → Vl_ w n L u' b' → (u' < m ∨ (u' = m ∧ b ≤ b')) ∨ (u' = m ∧ b' = t) := by
                intro u' b' hp hv
                by_cases e : u' = m
                · subst e
                  by_cases e2 : b ≤ b'
                  · exact Or.inl (Or.inr ⟨rfl, e2⟩)
                  · have := q2 b' hv.2.2.1 (by omega)
                    exact Or.inr ⟨rfl, by omega⟩
                · exact Or.inl (Or.inl (by omega))
              refine pf_ifi (key) (fun hso => ?_) (fun hno => ?_)
              · refine pf_bnv (tryBal_v hn12 bz ⟨hm1, by omega, hsub, hso⟩) (fun z2 hz2 => ?_)
                exact hr2 _ z2 ⟨t, rfl, hsub, fun k hk => by rw [hz2.1 k hk]; exact fz k hk, hz2.2.im step⟩
              · refine hr2 _ z ⟨t, rfl, hsub, fz, bz.im (fun u' b' hp hv => ?_)⟩
                rcases step u' b' hp hv with h1 | ⟨rfl, rfl⟩
                · exact h1
                · exact absurd hv.2.2.2 hno
            · rcases hp with hp | ⟨rfl, hp⟩
              · exact hp
              · have h1 := sub_le hv.2.2.1
                have : b = u := by omega
                subst this
                have := hv.2.2.2
                omega
          · refine pf_ifc (fun _ => hk18) (fun hge => ?_)
            refine pf_bnde (bits_e (by omega) v) (pf_ifc (fun _ => hk18) (fun hgt => hk15 v fv ?_))
            rcases bm with ⟨h1, _⟩ | ⟨u, b, h1, h2, h3, h4, h5⟩
            · exact absurd (by rw [h1]; decide +kernel) hge
            · have p1 := pn_le u 12
              have p2 := pn_le m 12
              rw [h2, nI_lei (by omega) (by omega)] at hgt
              refine Or.inr ⟨u, b, h1, h2, h3, h4, fun u' b' hp hv => ?_⟩
              by_cases e : u' = m
              · subst e; exact Or.inl (by omega)
              · exact h5 u' b' (by omega) hv
  · refine pf_lo2 (fun (x : Int32) v => ∃ m, x = nI m ∧ m ≤ 2 ^ n ∧ (∀ k, k ≠ 44 → gi v k = gi s k) ∧ ∀ q, q < m → gi v 44 q = nI (sm_ w n q)) ?_ FU 0 s ⟨0, rfl, by omega, fun _ _ => rfl, fun q hq => by omega⟩
    rintro rec x v ⟨m, rfl, hm, fv, hv⟩ hr
    unfold fX10_balanced_36_b
    refine pf_ifi (nI_lti (by omega) (by omega)) (fun hlt => hk7 v (fun q hq => hv q (by omega))) (fun hlt => ?_)
    refine pf_chk (fun _ => ?_)
    rw [ix_nI (show m < 2 ^ 31 by omega)]
    refine pf_bv (fun v2 e2 => ?_)
    refine pf_jn (fun k => ∀ z, (∀ k, k ≠ 44 → gi z k = gi s k) → (∀ q, q < m + 1 → gi z 44 q = nI (sm_ w n q)) → pf_ (k z) Q) ?_ (fun k32 hk32 => ?_)
    · intro z fz hz
      refine pf_bv (fun y ey => ?_)
      rw [nI_1] at ey
      subst ey
      exact hr _ z ⟨m + 1, rfl, by omega, fz, hz⟩
    · refine pf_lo2 (fun (y : Int32) z => ∃ t, y = nI t ∧ t ≤ n ∧ (∀ k, k ≠ 44 → gi z k = gi s k) ∧ (∀ q, q < m → gi z 44 q = nI (sm_ w n q)) ∧ gi z 44 m = nI (sm_ w t m)) ?_ FU 0 v2 ⟨0, rfl, by omega, fun k hk => by rw [e2, gsi_f hk]; exact fv k hk, fun q hq => by rw [e2, gsi_ne (by omega)]; exact hv q hq, by rw [e2, gsi_eq]; rfl⟩
      rintro rec2 y z ⟨t, rfl, ht, fz, hz, hzm⟩ hr2
      have z28 : gi z 28 = gi s 28 := fz 28 (by decide)
      unfold fX10_balanced_53_b
      rw [ixl_0, z28, hn, ix_nI (show m < 2 ^ 31 by omega), hzm]
      refine pf_ifi (nI_lei (by omega) (by omega)) (fun hle => ?_) (fun hle => ?_)
      · have : t = n := by omega
        subst this
        refine hk32 z fz (fun q hq => ?_)
        by_cases e : q = m
        · subst e; exact hzm
        · exact hz q (by omega)
      · refine pf_chk (fun _ => pf_bnde (has_e _ _ _) ?_)
        rw [hb_tb12 m (by omega) t (by omega)]
        refine pf_jn (fun k => ∀ c : Nat, sm_ w t m + c = sm_ w (t + 1) m → pf_ (k (nI m) (nI (sm_ w t m)) (nI c) z) Q) ?_ (fun k43 hk43 => ?_)
        · intro c hc
          refine pf_chk (fun _ => pf_bv (fun z2 e22 => pf_bv (fun y2 ey2 => ?_)))
          rw [ix_nI (show m < 2 ^ 31 by omega), nI_add_, hc] at e22
          rw [nI_1] at ey2
          subst ey2
          exact hr2 _ z2 ⟨t + 1, rfl, by omega, fun k hk => by rw [e22, gsi_f hk]; exact fz k hk, fun q hq => by rw [e22, gsi_ne (by omega)]; exact hz q hq, by rw [e22, gsi_eq]⟩
        · refine pf_ifc (fun hbit => hk43 0 ?_) (fun hbit => ?_)
          · show sm_ w t m + 0 = sm_ w t m + (if m.testBit t then w t else 0)
            rw [b2i_eq hbit]
            rfl
          · have xt : (nI t).toInt = (t : Int) := nI_toInt (by omega)
            obtain ⟨r, er, hr'⟩ := thingAt_x (s := z) (a := nI t) (by omega)
            have ir : ix r = 15 + 3 * t := by show r.toInt.toNat = _; omega
            refine pf_bnde er (pf_chk (fun _ => ?_))
            rw [ir, z28, hw28 t (by omega)]
            refine hk43 (w t) ?_
            show sm_ w t m + w t = sm_ w t m + (if m.testBit t then w t else 0)
            rw [b2i_ne hbit]
            rfl
