/-! the model's reader: an ask, and asks joined -/
theorem asks105_v {m : Int32} {s : Sg} {Q : Int32 × Sg → Prop} (hQ : ∀ t, MG_ s t → (∀ j, j ≠ 14 → gi t 27 j = gi s 27 j) → Q (0, t)) (x : Int32) : pf_ (lo2 (fX10_asks_105_b m) FU x s) Q := by
  refine pf_lo2 (fun (_ : Int32) v => MG_ s v ∧ ∀ j, j ≠ 14 → gi v 27 j = gi s 27 j) ?_ FU x s ⟨MG_.rf, fun _ _ => rfl⟩
  rintro rec x v ⟨g, f⟩ hr
  unfold fX10_asks_105_b
  refine pf_if (pf_some (hQ v g f)) (pf_bnv (emit10_v _ _ v) (fun z hz => pf_bv (fun y _ => hr y z ⟨g.tr hz.1, fun j hj => by rw [hz.2.2 j hj, f j hj]⟩)))
/-- between asks -/
def Ak_ (B : Nat → Int) (n p0 : Nat) (v : Sg) : Prop := ∃ p nots, Le_ B true (false, true, true, [], 0) p0 (true, false, false, [], nots) p ∧ Mt_ B n p v ∧ (∀ kd st nx nm, Tk_ B p kd st nx nm → ¬ (10 ≤ kd ∧ kd ≤ 13)) ∧ gi v 27 18 = 0
theorem asks_v {B : Nat → Int} {n p1 p0 : Nat} {u : Sg} (hp : TPm_ B n u) (h20 : gi u 27 20 = b2i true) (h18 : gi u 27 18 = 0) (ht : Mt_ B n p1 u) (le0 : Le_ B true (false, true, true, [], 0) p0 (false, true, true, [], 0) p1) : pf_ (fX10_asks u) (fun r => MF_ u r.2 ∧ ((r.1 = 0 ∧ Ak_ B n p0 r.2) ∨ Ft_ r.1 r.2 (fun x => ∃ f, RunL_ B true f (false, true, true, [], 0) p0 x))) := by
  generalize hQ : (fun r : Int32 × Sg => MF_ u r.2 ∧ ((r.1 = 0 ∧ Ak_ B n p0 r.2) ∨ Ft_ r.1 r.2 (fun x => ∃ f, RunL_ B true f (false, true, true, [], 0) p0 x))) = Q
  unfold fX10_asks
  refine pf_jn (fun kk => ∀ i v p, i ≤ 8 → MF_ u v → gi v 27 18 = nI i → Mt_ B n p v → (∀ kd st nx nm, Tk_ B p kd st nx nm → kd ≠ 3) → Le_ B true (false, true, true, [], 0) p0 (false, true, true, [], i) p → pf_ (kk (nI i) v) Q) ?_ (fun k3 hk3 => ?_)
  · intro i v p hi gv v18 mv nt le
    try dsimp only
    have tv := gv.tp hp
    have v20 : gi v 27 20 = b2i true := by rw [gv.2.1 20 (by decide) (by decide) (by decide) (by decide) (by decide)]; exact h20
    refine pf_bnd (summed_v (rel := false) (ab := true) tv v20 v18 hi mv (fun _ => nt)) (fun r s5 h5 => ?_)
    obtain ⟨g5, h5⟩ := h5
    dsimp only at g5 h5
    rcases h5 with ⟨p', e, le1, mt, ng, s18⟩ | ⟨x, hx, e, x0, x10, e8⟩
    · rw [if_pos e]
      have g05 := gv.tr g5
      obtain ⟨kd, st, nx, nm, tk, hnx, t8, t7, mk⟩ := mt
      have hk := Tk_37 tk
      have ng := ng kd st nx nm tk
      have l_ : lst_ true (false, false, false, [], i) kd st nx nm = (if 10 ≤ kd ∧ kd ≤ 13 then .inr ((false, false, true, [], i), nx) else if kd = 15 ∧ ([] : List Bool) ≠ [] then .inr ((false, false, false, popN_ [].tail, i), nx) else if 4 ≤ kd ∧ kd ≤ 9 ∧ true = true ∧ ([] : List Bool) = [] ∧ false = false then .inr ((true, false, true, [], i), nx) else if (kd = 2 ∨ kd = 1) ∧ ([] : List Bool) = [] ∧ false = true then .inr ((false, true, true, [], 0), nx) else if kd = 16 ∧ ([] : List Bool) = [] ∧ false = true then .inl (0, nx) else .inl (1, st)) := rfl
      rw [if_neg ng, if_neg (fun h => h.2 rfl)] at l_
      obtain ⟨c, hc, hci⟩ := compareOf_v mk (show kd < 40 by omega)
      rw [bnd_e hc]
      refine pf_ifi hci (fun hcm => ?_) (fun hcm => ?_)
      · rw [if_pos ⟨hcm.1, hcm.2, rfl, rfl, rfl⟩] at l_
        refine pf_bnv (next10_v (g05.tp hp) t7 hnx) (fun s8 h8 => ?_)
        obtain ⟨n8, m8⟩ := h8
        have g08 := g05.tr n8.mf
        have s818 : gi s8 27 18 = nI i := by rw [n8.2.1 18 (by decide)]; exact s18
        have s820 : gi s8 27 20 = b2i true := by rw [g08.2.1 20 (by decide) (by decide) (by decide) (by decide) (by decide)]; exact h20
        refine pf_bnd (summed_v (rel := true) (ab := false) (g08.tp hp) s820 s818 hi m8 (fun e => nomatch e)) (fun r9 s10 h10 => ?_)
        obtain ⟨g10, h10⟩ := h10
        dsimp only at g10 h10
        have le2 := Le_tr (Le_tr le le1) (Le_st tk l_)
        rcases h10 with ⟨p2, e, le3, mt, ng, s1018⟩ | ⟨x, hx, e, x0, x10, e8⟩
        · rw [if_pos e]
          refine pf_bnv (emit10_v _ _ s10) (fun s11 h11 => pf_bv (fun s12 e12 => ?_))
          obtain ⟨a1, a2, a3⟩ := h11
          rw [a3 18 (by decide), s1018, nI_sub (Nat.le_refl _), Nat.sub_self] at e12
          have g12 : MG_ s10 s12 := a1.tr (by rw [e12]; exact ⟨fun k x _ _ => by rw [gsi_f x], fun j _ _ y _ => by rw [gsi_ne y], rfl⟩)
          refine asks105_v (fun t gt ft => ?_) 0
          rw [← hQ]
          exact ⟨((g08.tr g10).tr g12.mf).tr gt.mf, Or.inl ⟨rfl, p2, i, Le_tr le2 le3, gt.mt (g12.mt mt), ng, by show gi t 27 18 = 0; rw [ft 18 (by decide), e12, gsi_eq]; rfl⟩⟩
        · rw [if_neg (fun e' => by rw [e] at e'; exact x0 ((nI_eqi (b := 0) (by omega) (by omega)).mp e'))]
          refine pf_some ?_
          rw [← hQ]
          exact ⟨g08.tr g10, Or.inr ⟨x, le2 x hx, e, x0, x10, e8⟩⟩
      · rw [if_neg (fun h => hcm ⟨h.1, h.2.1⟩), if_neg (fun h => nomatch h.2.2), if_neg (fun h => nomatch h.2.2)] at l_
        refine pf_some ?_
        rw [← hQ]
        exact ⟨g05, Or.inr ⟨(1, st), le _ (le1 _ (Run_fin tk l_)), rfl, (show (1 : Nat) ≠ 0 by decide), (show (1 : Nat) < 10 by decide), t8⟩⟩
    · rw [if_neg (fun e' => by rw [e] at e'; exact x0 ((nI_eqi (b := 0) (by omega) (by omega)).mp e'))]
      refine pf_some ?_
      rw [← hQ]
      exact ⟨gv.tr g5, Or.inr ⟨x, le x hx, e, x0, x10, e8⟩⟩
  refine pf_lo2 (fun (x1 : Int32) v => ∃ i p, x1 = nI i ∧ i ≤ 8 ∧ MF_ u v ∧ gi v 27 18 = nI i ∧ Mt_ B n p v ∧ Le_ B true (false, true, true, [], 0) p0 (false, true, true, [], i) p) ?_ FU 0 u ⟨0, p1, rfl, by decide, MF_.rf, h18, ht, le0⟩
  rintro rec x1 v ⟨i, p, rfl, hi, gv, v18, mv, le⟩ hr
  unfold fX10_asks_2_b
  obtain ⟨kd, st, nx, nm, tk, hnx, t8, t7, mk⟩ := id mv
  rw [bnd_e (wq_not v), bnd_e (isWord_v mk (i := 2) (K := 3) (by decide) rfl)]
  by_cases e3 : kd = 3
  · rw [decide_eq_true e3, if_neg bT0_, v18]
    have l_ : lst_ true (false, true, true, [], i) kd st nx nm = (if kd = 0 ∨ kd = 11 then (if ([] : List Bool).length + i = 8 then .inl (3, st) else .inr ((false, false, true, decide (kd = 0) :: [], i), nx)) else if kd = 3 ∧ true = true then (if ([] : List Bool).length + i = 8 then .inl (3, st) else .inr ((false, true, true, [], i + 1), nx)) else if opf_ true kd nm = 0 then .inr ((false, false, false, popN_ [], i), nx) else .inl (opf_ true kd nm, st)) := rfl
    have z0 : ([] : List Bool).length = 0 := rfl
    rw [if_neg (by omega), if_pos ⟨e3, rfl⟩, z0, Nat.zero_add] at l_
    refine pf_ifi (show nI i = 8 ↔ i = 8 from nI_eqi (b := 8) (by omega) (by omega)) (fun e8 => pf_some ?_) (fun n8 => ?_)
    · rw [if_pos e8] at l_
      rw [← hQ]
      exact ⟨gv, Or.inr ⟨(3, st), le _ (Run_fin tk l_), rfl, (show (3 : Nat) ≠ 0 by decide), (show (3 : Nat) < 10 by decide), t8⟩⟩
    · rw [if_neg n8] at l_
      rw [nI_1]
      refine pf_bv (fun s23 e23 => pf_bv (fun y ey => ?_))
      have g23 : MG_ v s23 := by rw [e23]; exact ⟨fun k x _ _ => by rw [gsi_f x], fun j _ _ y _ => by rw [gsi_ne y], rfl⟩
      refine pf_bnv (next10_v ((gv.tr g23.mf).tp hp) (by rw [e23, gsi_ne (by decide)]; exact t7) hnx) (fun s25 h25 => ?_)
      rw [ey]
      exact hr _ s25 ⟨i + 1, nx, rfl, by omega, (gv.tr g23.mf).tr h25.1.mf, by rw [h25.1.2.1 18 (by decide), e23, gsi_eq], h25.2, Le_tr le (Le_st tk l_)⟩
  · rw [decide_eq_false e3, if_pos bF0_]
    refine hk3 i v p hi gv v18 mv (fun kd' st' nx' nm' tk' => ?_) le
    obtain ⟨e, _⟩ := Tk_nm tk' tk
    rw [e]
    exact e3
/-- behind all asks -/
def Ae_ (B : Nat → Int) (n p0 : Nat) (v : Sg) : Prop := ∃ p nots, Le_ B true (false, true, true, [], 0) p0 (true, false, false, [], nots) p ∧ Mt_ B n p v ∧ (∀ kd st nx nm, Tk_ B p kd st nx nm → ¬ (10 ≤ kd ∧ kd ≤ 13) ∧ kd ≠ 1 ∧ kd ≠ 2) ∧ gi v 27 18 = 0
theorem either_v {B : Nat → Int} {n p0 : Nat} {u : Sg} (hp : TPm_ B n u) (h20 : gi u 27 20 = b2i true) (h18 : gi u 27 18 = 0) (ht : Mt_ B n p0 u) : pf_ (fX10_either u) (fun r => MF_ u r.2 ∧ ((r.1 = 0 ∧ Ae_ B n p0 r.2) ∨ Ft_ r.1 r.2 (fun x => ∃ f, RunL_ B true f (false, true, true, [], 0) p0 x))) := by
  generalize hQ : (fun r : Int32 × Sg => MF_ u r.2 ∧ ((r.1 = 0 ∧ Ae_ B n p0 r.2) ∨ Ft_ r.1 r.2 (fun x => ∃ f, RunL_ B true f (false, true, true, [], 0) p0 x))) = Q
  unfold fX10_either
  refine pf_lo4 (fun (_ _ : Bool) (x3 : Bool) v => MF_ u v ∧ (x3 = true → ∃ p, Mt_ B n p v ∧ gi v 27 18 = 0 ∧ Le_ B true (false, true, true, [], 0) p0 (false, true, true, [], 0) p) ∧ (x3 = false → Ae_ B n p0 v)) ?_ FU false false true u ⟨MF_.rf, fun _ => ⟨p0, ht, h18, Le_rf⟩, fun e => nomatch e⟩
  rintro rec x1 x2 x3 v ⟨gv, h1, h2⟩ hr
  unfold fX10_either_6_b
  cases x3 with
  | false =>
    rw [if_pos bF0_]
    refine pf_some ?_
    rw [← hQ]
    exact ⟨gv, Or.inl ⟨rfl, h2 rfl⟩⟩
  | true =>
    rw [if_neg bT0_]
    obtain ⟨p, mv, v18, le⟩ := h1 rfl
    have v20 : gi v 27 20 = b2i true := by rw [gv.2.1 20 (by decide) (by decide) (by decide) (by decide) (by decide)]; exact h20
    refine pf_bnd (asks_v (gv.tp hp) v20 v18 mv le) (fun r s6 h6 => ?_)
    obtain ⟨g6, h6⟩ := h6
    dsimp only at g6 h6
    rcases h6 with ⟨e, ak⟩ | ⟨x, hx, e, x0, x10, e8⟩
    · rw [if_pos e]
      have g06 := gv.tr g6
      -- between two asks: only code is written
      refine pf_jn (fun kk => ∀ z, MG_ s6 z → (∀ j, j ≠ 14 → gi z 27 j = gi s6 27 j) → pf_ (kk z) Q) (fun z gz fz => ?_) (fun k8 hk8 => pf_if (hk8 s6 MG_.rf (fun _ _ => rfl)) (pf_bnv (emit10_v _ _ s6) (fun z hz => hk8 z hz.1 hz.2.2)))
      try dsimp only
      obtain ⟨p2, nots, le2, mt, ng, s18⟩ := ak
      have mz := gz.mt mt
      have z18 : gi z 27 18 = 0 := by rw [fz 18 (by decide)]; exact s18
      obtain ⟨kd, st, nx, nm, tk, hnx, t8, t7, mk⟩ := id mz
      have ng := ng kd st nx nm tk
      have l_ : lst_ true (true, false, false, [], nots) kd st nx nm = (if 10 ≤ kd ∧ kd ≤ 13 then .inr ((true, false, true, [], nots), nx) else if kd = 15 ∧ ([] : List Bool) ≠ [] then .inr ((true, false, false, popN_ [].tail, nots), nx) else if 4 ≤ kd ∧ kd ≤ 9 ∧ true = true ∧ ([] : List Bool) = [] ∧ true = false then .inr ((true, false, true, [], nots), nx) else if (kd = 2 ∨ kd = 1) ∧ ([] : List Bool) = [] ∧ true = true then .inr ((false, true, true, [], 0), nx) else if kd = 16 ∧ ([] : List Bool) = [] ∧ true = true then .inl (0, nx) else .inl (1, st)) := rfl
      rw [if_neg ng, if_neg (fun h => h.2 rfl), if_neg (fun h => nomatch h.2.2.2.2)] at l_
      rw [bnd_e (wq_and z), bnd_e (isWord_v mk (i := 1) (K := 2) (by decide) rfl)]
      -- the state that goes on: z, or z with code written
      have on : ∀ (b1 b2 : Bool) (y : Sg), (kd = 2 ∨ kd = 1) → MG_ z y → (∀ j, j ≠ 14 → gi y 27 j = gi z 27 j) → pf_ (bnv (fX10_nextToken y) fun s23 => rec b1 b2 true s23) Q := by
        intro b1 b2 y hk2 gy fy
        rw [if_pos ⟨hk2, rfl, rfl⟩] at l_
        refine pf_bnv (next10_v ((g06.tr (gz.tr gy).mf).tp hp) (by rw [fy 7 (by decide)]; exact t7) hnx) (fun w hw => hr b1 b2 true w ⟨(g06.tr (gz.tr gy).mf).tr hw.1.mf, fun _ => ⟨nx, hw.2, by rw [hw.1.2.1 18 (by decide), fy 18 (by decide)]; exact z18, Le_tr le2 (Le_st tk l_)⟩, fun e => nomatch e⟩)
      have off : ∀ (b1 b2 : Bool) (y : Sg), kd ≠ 2 → kd ≠ 1 → MG_ z y → (∀ j, j ≠ 14 → gi y 27 j = gi z 27 j) → pf_ (rec b1 b2 false y) Q := fun b1 b2 y k2 k1 gy fy => hr b1 b2 false y ⟨g06.tr (gz.tr gy).mf, (fun e => (nomatch e)), fun _ => ⟨p2, nots, le2, gy.mt mz, fun kd' st' nx' nm' tk' => by obtain ⟨e, _⟩ := Tk_nm tk' tk; rw [e]; exact ⟨ng, k1, k2⟩, by rw [fy 18 (by decide)]; exact z18⟩⟩
      -- or
      refine pf_jn (fun kk => ∀ o : Bool, (o = true ↔ kd = 1) → pf_ (kk o) Q) (fun o ho => ?_) (fun k14 hk14 => ?_)
      · try dsimp only
        refine pf_jn (fun kk => ∀ (b : Bool) y, MG_ z y → (∀ j, j ≠ 14 → gi y 27 j = gi z 27 j) → pf_ (kk b y) Q) (fun b y gy fy => ?_) (fun k17 hk17 => ?_)
        · try dsimp only
          refine pf_jn (fun kk => ((kd = 2 ∨ kd = 1) → pf_ (kk true) Q) ∧ (kd ≠ 2 → kd ≠ 1 → pf_ (kk false) Q)) ⟨fun hk2 => ?_, fun k2 k1 => ?_⟩ (fun k19 hk19 => ?_)
          · try dsimp only
            refine pf_bv (fun k21 ek => ?_)
            rw [if_neg bT0_, ek]
            exact on _ _ y hk2 gy fy
          · try dsimp only
            refine pf_bv (fun k21 ek => ?_)
            rw [if_pos bF0_, ek]
            exact off _ _ y k2 k1 gy fy
          · refine pf_jn (fun kk => (kd = 2 ∨ kd = 1) → pf_ kk Q) (fun h => hk19.1 h) (fun k24 hk24 => ?_)
            by_cases e2 : kd = 2
            · rw [decide_eq_true e2, if_neg bT0_]
              exact hk24 (Or.inl e2)
            · rw [decide_eq_false e2, if_pos bF0_]
              cases o with
              | false => rw [if_pos bF0_]; exact hk19.2 e2 (fun e => nomatch ho.mpr e)
              | true => rw [if_neg bT0_]; exact hk24 (Or.inr (ho.mp rfl))
        · by_cases e2 : kd = 2
          · rw [decide_eq_true e2, if_neg bT0_]
            exact hk17 _ z MG_.rf (fun _ _ => rfl)
          · rw [decide_eq_false e2, if_pos bF0_]
            refine pf_jn (fun kk => ∀ y, MG_ z y → (∀ j, j ≠ 14 → gi y 27 j = gi z 27 j) → pf_ (kk y) Q) (fun y gy fy => hk17 _ y gy fy) (fun k26 hk26 => ?_)
            exact pf_if (hk26 z MG_.rf (fun _ _ => rfl)) (pf_bnv (emit10_v _ _ z) (fun y hy => hk26 y hy.1 hy.2.2))
      · refine pf_jn (fun kk => kd ≠ 1 → pf_ kk Q) (fun k1 => hk14 false ⟨fun e => (nomatch e), fun e => absurd e k1⟩) (fun k29 hk29 => ?_)
        refine pf_ifc (fun h2 => ?_) (fun h2 => hk29 (fun e => h2 (MK_2 mk (i := 0) (K := 1) (by decide) rfl e)))
        have hw : gl z 27 11 = wc_ 0 ↔ kd = 1 := mk.2.2 h2 0 (by decide)
        refine pf_ifc (fun h3 => hk14 true ⟨fun _ => hw.mp (by rw [← wq_or]; exact lcmp_iff.mp h3), fun _ => rfl⟩) (fun h3 => hk29 (fun e => h3 (lcmp_iff.mpr (by rw [wq_or]; exact hw.mpr e))))
    · rw [if_neg (fun e' => by rw [e] at e'; exact x0 ((nI_eqi (b := 0) (by omega) (by omega)).mp e'))]
      refine pf_some ?_
      rw [← hQ]
      exact ⟨gv.tr g6, Or.inr ⟨x, hx, e, x0, x10, e8⟩⟩
