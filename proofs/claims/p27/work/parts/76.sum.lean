def w3v_ (a b c : Int32) : Int64 := ((((Int32.toInt64 a) <<< (Int32.toInt64 8 &&& 63)) ||| (Int32.toInt64 b)) <<< (Int32.toInt64 8 &&& 63)) ||| (Int32.toInt64 c)
def w4v_ (a b c d : Int32) : Int64 := ((w3v_ a b c) <<< (Int32.toInt64 8 &&& 63)) ||| (Int32.toInt64 d)
def w5v_ (a b c d e : Int32) : Int64 := ((((w3v_ a b c) <<< (Int32.toInt64 8 &&& 63)) ||| (Int32.toInt64 d)) <<< (Int32.toInt64 8 &&& 63)) ||| (Int32.toInt64 e)
def w6v_ (a b c d e f : Int32) : Int64 := ((w5v_ a b c d e) <<< (Int32.toInt64 8 &&& 63)) ||| (Int32.toInt64 f)
theorem w3_e (a b c : Int32) (s : Sg) : fX10_w3 a b c s = some (w3v_ a b c, s) := rfl
theorem w4_e (a b c d : Int32) (s : Sg) : fX10_w4 a b c d s = some (w4v_ a b c d, s) := rfl
theorem w5_e (a b c d e : Int32) (s : Sg) : fX10_w5 a b c d e s = some (w5v_ a b c d e, s) := rfl
theorem w6_e (a b c d e f : Int32) (s : Sg) : fX10_w6 a b c d e f s = some (w6v_ a b c d e f, s) := rfl
theorem nameOf_x (s : Sg) : ∃ r : Int32, fX10_nameOf s = some (r, s) ∧ -1 ≤ r.toInt ∧ r.toInt ≤ 10 ∧ (0 ≤ r.toInt → gi s 27 9 = 2) := by
  have h : wp_ (fX10_nameOf s) (fun q => q.2 = s ∧ -1 ≤ q.1.toInt ∧ q.1.toInt ≤ 10 ∧ (0 ≤ q.1.toInt → gi s 27 9 = 2)) := by
    generalize hQ : (fun q : Int32 × Sg => q.2 = s ∧ -1 ≤ q.1.toInt ∧ q.1.toInt ≤ 10 ∧ (0 ≤ q.1.toInt → gi s 27 9 = 2)) = Q
    unfold fX10_nameOf
    refine wp_if_i (fun h2 => ?_) (fun h2 => ?_)
    · have fin : ∀ r : Int32, -1 ≤ r.toInt → r.toInt ≤ 10 → wp_ (some (r, s)) Q := fun r a b => wp_some_i (by rw [← hQ]; exact ⟨rfl, a, b, fun _ => h2⟩)
      refine wp_bnd_e (w4_e _ _ _ _ _) (wp_if_i (fun _ => fin _ (by decide +kernel) (by decide +kernel)) (fun _ => ?_))
      refine wp_bnd_e (w3_e _ _ _ _) (wp_if_i (fun _ => fin _ (by decide +kernel) (by decide +kernel)) (fun _ => ?_))
      refine wp_bnd_e (w4_e _ _ _ _ _) (wp_if_i (fun _ => fin _ (by decide +kernel) (by decide +kernel)) (fun _ => ?_))
      refine wp_bnd_e (w5_e _ _ _ _ _ _) (wp_if_i (fun _ => fin _ (by decide +kernel) (by decide +kernel)) (fun _ => ?_))
      refine wp_bnd_e (w6_e _ _ _ _ _ _ _) (wp_if_i (fun _ => fin _ (by decide +kernel) (by decide +kernel)) (fun _ => ?_))
      refine wp_bnd_e (w4_e _ _ _ _ _) (wp_if_i (fun _ => fin _ (by decide +kernel) (by decide +kernel)) (fun _ => ?_))
      refine wp_bnd_e (w3_e _ _ _ _) (wp_if_i (fun _ => fin _ (by decide +kernel) (by decide +kernel)) (fun _ => ?_))
      refine wp_bnd_e (w4_e _ _ _ _ _) (wp_if_i (fun _ => fin _ (by decide +kernel) (by decide +kernel)) (fun _ => ?_))
      refine wp_bnd_e (w5_e _ _ _ _ _ _) (wp_if_i (fun _ => fin _ (by decide +kernel) (by decide +kernel)) (fun _ => ?_))
      refine wp_bnd_e (w6_e _ _ _ _ _ _ _) (wp_if_i (fun _ => fin _ (by decide +kernel) (by decide +kernel)) (fun _ => ?_))
      exact wp_bnd_e (w6_e _ _ _ _ _ _ _) (wp_if_i (fun _ => fin _ (by decide +kernel) (by decide +kernel)) (fun _ => fin _ (by decide +kernel) (by decide +kernel)))
    · refine wp_some_i ?_
      rw [← hQ]
      exact ⟨rfl, show (-1 : Int) ≤ (-1 : Int32).toInt by decide +kernel, show (-1 : Int32).toInt ≤ 10 by decide +kernel, fun h => absurd h (show ¬ 0 ≤ (-1 : Int32).toInt by decide +kernel)⟩
  obtain ⟨⟨r, t⟩, e, h1, h2, h3, h4⟩ := wp_ex h
  dsimp only at h1
  subst h1
  exact ⟨r, e, h2, h3, h4⟩
theorem isBarred_x (r : Int32) (s : Sg) : ∃ b, fX10_isBarred r s = some (b, s) := by
  unfold fX10_isBarred
  by_cases h : gi s 27 20 = 0
  · rw [if_pos h]
    by_cases h6 : r ≤ 6
    · rw [if_pos h6]; exact ⟨_, rfl⟩
    · rw [if_neg h6]; exact ⟨_, rfl⟩
  · rw [if_neg h, isIn_eq]
    exact ⟨_, rfl⟩
theorem TK_.et {t u : Sg} (h : TK_ t) (e : ET_ t u) (e4 : gi u 27 4 = gi t 27 4) : TK_ u := by
  unfold TK_
  rw [e.1 8 (by decide) (by decide), e.1 7 (by decide) (by decide), e.1 9 (by decide) (by decide), e4]
  exact h
theorem SI_.r {s t : Sg} {q i D T o wh : Nat} {B : Int} (h : SI_ s q i D T o wh B t) : RF_ s t ∧ TF_ q i s t := by
  obtain ⟨w, pl, bn, pr, a1, a2, _⟩ := h
  exact ⟨a1, a2⟩
/-- a token is taken -/
theorem nt_si {s t : Sg} {q i D T o wh X : Nat} {B : Int} (h : SI_ s q i D T o wh B t) (hk : TK_ t) (h9 : gi t 27 9 ≠ 0) (hB : B ≤ (gi t 27 8).toInt + 1 - X) : wp_ (fX10_nextToken t) (fun u => SI_ s q i D T o wh ((gi u 27 8).toInt - X) u ∧ TK_ u ∧ (gi t 27 8).toInt < (gi u 27 8).toInt ∧ gi u 27 19 = gi t 27 19 ∧ NT_ t u) := by
  obtain ⟨k1, k2, k3, k4, k5, k6⟩ := hk
  refine wp_mono (nt_ok t k5 k6 (by omega) k3) (fun u hu => ?_)
  obtain ⟨n, p, tk⟩ := hu
  have := k4 h9
  have k7 := tk.2.1
  have k8 := tk.2.2.1
  exact ⟨(h.nt n).b (by omega) (by omega), tk, by omega, n.2.1 19 (by decide), n⟩
/-- at the head of the loop of a sum -/
def LI_ (s : Sg) (q i D T o X : Nat) (t : Sg) : Prop := TK_ t ∧ ((gi t 27 19 = 0 ∧ SI_ s q i D T o 0 ((gi t 27 8).toInt - X) t) ∨ (gi t 27 19 = 1 ∧ SI_ s q i D T o 1 ((gi t 27 8).toInt - X) t))
def PO_ (s : Sg) (q i D T o X : Nat) (t : Sg) (p : Int32 × Sg) : Prop := RF_ s p.2 ∧ TF_ q i s p.2 ∧ (p.1 = 0 → LI_ s q i D T o X p.2 ∧ (gi t 27 8).toInt < (gi p.2 27 8).toInt)
theorem SI_.em0 {s t : Sg} {q i D T o : Nat} {B : Int} {a v : Int32} (hq : q < 4) (h : SI_ s q i D T o 0 B t) (hB : B ≤ 300) (ha : a.toInt = 0 ∨ (a.toInt = 1 ∧ 0 ≤ v.toInt ∧ v.toInt < 11)) : ∃ u, fX10_emit a v t = some u ∧ SI_ s q i D T o 1 (B + 1) u ∧ ET_ t u ∧ gi u 27 19 = gi t 27 19 := by
  obtain ⟨w, pl, bn, pr, a1, a2, a3, a4, a5, a6, a7, a8, a9, a10, a11⟩ := h
  obtain ⟨b1, b2⟩ := pl_lt (s := s) a6 a8 a9 a10 a11
  refine ⟨_, emit_e (w := i + w) hq b2 a3 a4, ⟨w + 1, pl, bn, pr, a1.em, a2.em b2, ?_, ?_, ?_, ?_, ?_, a8, ?_, by omega, by omega⟩, ET_.rf.em, em_27 (by decide)⟩
  · rw [em_27 (by decide)]; exact a3
  · exact em_14 (w := i + w) a4 b2
  · rw [em_27 (by decide)]; exact a5
  · rw [em_32]; exact a6
  · rw [em_27 (by decide)]; exact a7
  · refine dp_em a9 ?_
    unfold dst_
    rw [if_pos (by omega), if_pos (by omega)]
    rfl
theorem beginOne_ok {s t : Sg} {q i D T o X : Nat} (hq : q < 4) (h : SI_ s q i D T o 0 ((gi t 27 8).toInt - X) t) (hk : TK_ t) (h19 : gi t 27 19 = 0) : wp_ (fX10_beginOne t) (PO_ s q i D T o X t) := by
  generalize hQ : PO_ s q i D T o X t = Q
  have L0 : (0 : Int32).toInt = 0 := rfl
  obtain ⟨k1, k2, k3, k4, k5, k6⟩ := id hk
  have bad : ∀ r : Int32, r ≠ 0 → wp_ (some (r, t)) Q := fun r hr => wp_some_i (by rw [← hQ]; exact ⟨h.r.1, h.r.2, fun e => absurd e hr⟩)
  have good : ∀ u v, SI_ s q i D T o 1 ((gi t 27 8).toInt - X + 1) u → ET_ t u → gi u 27 19 = gi t 27 19 → gi t 27 9 ≠ 0 → v = u → wp_ (bnv (fX10_nextToken v) fun s_18 => bnv (fX10_whole s_18) fun s_19 => some (0, s_19)) Q := by
    intro u v hu he e19 h9 ev
    subst ev
    have e4 : gi v 27 4 = gi t 27 4 := by rw [hu.r.1.2.1 4 (by decide), h.r.1.2.1 4 (by decide)]
    refine wp_bnv_i (nt_si (X := X) hu (hk.et he e4) (by rw [he.1 9 (by decide) (by decide)]; exact h9) (by rw [he.1 8 (by decide) (by decide)]; omega)) (fun w hw => ?_)
    obtain ⟨w1, w2, w3, w4, w5⟩ := hw
    refine wp_bnv_i (whole_ok hq w1) (fun x hx => ?_)
    obtain ⟨x1, x2, x3⟩ := hx
    refine wp_some_i ?_
    rw [← hQ]
    have x4 : gi x 27 4 = gi w 27 4 := by rw [x1.r.1.2.1 4 (by decide), w1.r.1.2.1 4 (by decide)]
    have x8 := x3.1 8 (by decide) (by decide)
    have v8 := he.1 8 (by decide) (by decide)
    refine ⟨x1.r.1, x1.r.2, fun _ => ⟨⟨w2.et x3 x4, Or.inr ⟨x2, ?_⟩⟩, ?_⟩⟩
    · show SI_ s q i D T o 1 ((gi x 27 8).toInt - X) x
      rw [x8]; exact x1
    · show _ < (gi x 27 8).toInt
      rw [x8, ← v8]; exact w3
  unfold fX10_beginOne
  refine wp_if_i (fun h1 => ?_) (fun h1 => ?_)
  · refine wp_if_i (fun _ => ?_) (fun _ => bad 2 (by decide +kernel))
    obtain ⟨u, eu, u1, u2, u3⟩ := SI_.em0 (a := 0) (v := gi t 27 10) hq h (by omega) (Or.inl rfl)
    refine wp_bnv_e eu (good u u u1 u2 u3 (by rw [h1]; decide +kernel) rfl)
  · obtain ⟨r, er, r1, r2, r3⟩ := nameOf_x t
    refine wp_bnd_e er (wp_if_i (fun hr => ?_) (fun hr => ?_))
    · refine wp_jn (fun k => (∀ y : Int32, (y.toInt = 2 ∨ y.toInt = 40) → gi t 27 9 ≠ 0 → wp_ (k y) Q) ∧ wp_ (k 0) Q) ⟨?_, ?_⟩ (fun k hk4 => ?_)
      · intro y hy h9
        refine wp_if_i (fun e => ?_) (fun _ => ?_)
        · rw [e] at hy; omega
        · refine wp_if_i (fun _ => bad 3 (by decide +kernel)) (fun h8 => ?_)
          obtain ⟨w, pl, bn, pr, a1, a2, a3, a4, a5, a6, a7, a8, a9, a10, a11⟩ := h
          obtain ⟨b1, b2⟩ := pl_lt (s := s) a6 a8 a9 a10 a11
          have h8' := ne_ti h8
          rw [show (8 : Int32).toInt = 8 from rfl] at h8'
          have L1 : (1 : Int32).toInt = 1 := rfl
          have e18 := ti_add (x := gi t 27 18) (y := 1) (by omega) (by omega)
          have e17 := ti_add (x := gi t 27 17) (y := 1) (by omega) (by omega)
          refine wp_bv_i (fun v1 ev1 => ?_)
          refine wp_bnv_e (push_e (pl := pl) (by rw [ev1, gsi_ne (by decide)]; exact a5) (by omega)) ?_
          have hs2 : SI_ s q i D T o 0 ((gi t 27 8).toInt - X + 1) (si (si v1 32 pl y) 27 17 (gi v1 27 17 + 1)) := by
            have g17 : gi v1 27 17 = gi t 27 17 := by rw [ev1, gsi_ne (by decide)]
            refine ⟨w, pl + 1, bn, pr + 1, ?_, ?_, ?_, ?_, ?_, ?_, ?_, by omega, ?_, by omega, by omega⟩
            · rw [ev1]; exact RF_.si (RFs0_ (a1.si (by decide)) (Or.inr rfl)) (by decide)
            · intro x hx; rw [gsi_k (by decide), gsi_k (by decide), ev1, gsi_k (by decide)]; exact a2 x hx
            · rw [gsi_ne (by decide), gsi_k (by decide), ev1, gsi_ne (by decide)]; exact a3
            · rw [gsi_ne (by decide), gsi_k (by decide), ev1, gsi_ne (by decide)]; exact a4
            · rw [gsi_eq, g17, e17]; omega
            · refine Or.inr ⟨by rw [gsi_k (by decide), gsi_eq]; exact hy, pr, rfl, a6.fr (fun k hk => ?_)⟩
              rw [gsi_k (by decide), gsi_ne (by omega), ev1, gsi_k (by decide)]
            · rw [gsi_ne (by decide), gsi_k (by decide), ev1, gsi_eq, e18]; omega
            · rw [gsi_f (by decide), gsi_f (by decide), ev1, gsi_f (by decide)]; exact a9
          have he2 : ET_ t (si (si v1 32 pl y) 27 17 (gi v1 27 17 + 1)) := by
            rw [ev1]; exact ((ET_.rf.si (by decide)).si (Or.inl (by decide))).si (by decide)
          have e19 : gi (si (si v1 32 pl y) 27 17 (gi v1 27 17 + 1)) 27 19 = 0 := by
            rw [gsi_ne (by decide), gsi_k (by decide), ev1, gsi_ne (by decide)]; exact h19
          have e4 : gi (si (si v1 32 pl y) 27 17 (gi v1 27 17 + 1)) 27 4 = gi t 27 4 := by
            rw [gsi_ne (by decide), gsi_k (by decide), ev1, gsi_ne (by decide)]
          generalize si (si v1 32 pl y) 27 17 (gi v1 27 17 + 1) = v at *
          refine wp_bnv_i (nt_si (X := X) hs2 (hk.et he2 e4) (by rw [he2.1 9 (by decide) (by decide)]; exact h9) (by rw [he2.1 8 (by decide) (by decide)]; omega)) (fun u hu => ?_)
          obtain ⟨w1, w2, w3, w4, w5⟩ := hu
          refine wp_some_i ?_
          rw [← hQ]
          rw [he2.1 8 (by decide) (by decide)] at w3
          exact ⟨w1.r.1, w1.r.2, fun _ => ⟨⟨w2, Or.inl ⟨by rw [w4]; exact e19, w1⟩⟩, w3⟩⟩
      · exact wp_if_i (fun _ => bad 1 (by decide +kernel)) (fun e => absurd rfl e)
      · refine wp_if_i (fun e => hk4.1 40 (Or.inr rfl) (by rw [e]; decide +kernel)) (fun _ => wp_if_i (fun e => hk4.1 2 (Or.inl rfl) (by rw [e]; decide +kernel)) (fun _ => hk4.2))
    · have hr' := nlt_ti hr
      obtain ⟨b, eb⟩ := isBarred_x r t
      refine wp_bnd_e er (wp_bnd_e eb (wp_if_i (fun _ => ?_) (fun _ => bad 5 (by decide +kernel))))
      obtain ⟨u, eu, u1, u2, u3⟩ := SI_.em0 (a := 1) (v := r) hq h (by omega) (Or.inr ⟨rfl, by omega, by omega⟩)
      exact wp_bnd_e er (wp_bnv_e eu (good u u u1 u2 u3 (by rw [r3 (by omega)]; decide +kernel) rfl))
