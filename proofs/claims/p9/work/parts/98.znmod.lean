/-! the model's reader: a clause -/
theorem fin19_ {B : Nat → Int} {p0 p : Nat} (le : Le_ B false (false, false, true, [], 0) p0 (false, false, false, [], 0) p) (ng : ∀ kd st nx nm, Tk_ B p kd st nx nm → ¬ (10 ≤ kd ∧ kd ≤ 13)) : ∀ x, Kd_ B 16 p x → Cl_ B 19 p0 x := by
  rintro x ⟨kd, st, nx, nm, tk, rfl⟩
  have ng := ng kd st nx nm tk
  have l_ : lst_ false (false, false, false, [], 0) kd st nx nm = (if 10 ≤ kd ∧ kd ≤ 13 then .inr ((false, false, true, [], 0), nx) else if kd = 15 ∧ ([] : List Bool) ≠ [] then .inr ((false, false, false, popN_ [].tail, 0), nx) else if 4 ≤ kd ∧ kd ≤ 9 ∧ false = true ∧ ([] : List Bool) = [] ∧ false = false then .inr ((true, false, true, [], 0), nx) else if (kd = 2 ∨ kd = 1) ∧ ([] : List Bool) = [] ∧ false = true then .inr ((false, true, true, [], 0), nx) else if kd = 16 ∧ ([] : List Bool) = [] ∧ false = false then .inl (0, nx) else .inl (1, st)) := rfl
  rw [if_neg ng, if_neg (fun h => h.2 rfl), if_neg (fun h => nomatch h.2.2.1), if_neg (fun h => nomatch h.2.2)] at l_
  unfold Cl_
  rw [if_pos rfl]
  by_cases e : kd = 16
  · rw [if_pos ⟨e, rfl, rfl⟩] at l_
    rw [if_pos e]
    exact le _ (Run_fin tk l_)
  · rw [if_neg (fun h => e h.1)] at l_
    rw [if_neg e]
    exact le _ (Run_fin tk l_)
theorem fin20_ {B : Nat → Int} {p0 p nots : Nat} (le : Le_ B true (false, true, true, [], 0) p0 (true, false, false, [], nots) p) (ng : ∀ kd st nx nm, Tk_ B p kd st nx nm → ¬ (10 ≤ kd ∧ kd ≤ 13) ∧ kd ≠ 1 ∧ kd ≠ 2) : ∀ x, Kd_ B 16 p x → Cl_ B 20 p0 x := by
  rintro x ⟨kd, st, nx, nm, tk, rfl⟩
  obtain ⟨ng, n1, n2⟩ := ng kd st nx nm tk
  have l_ : lst_ true (true, false, false, [], nots) kd st nx nm = (if 10 ≤ kd ∧ kd ≤ 13 then .inr ((true, false, true, [], nots), nx) else if kd = 15 ∧ ([] : List Bool) ≠ [] then .inr ((true, false, false, popN_ [].tail, nots), nx) else if 4 ≤ kd ∧ kd ≤ 9 ∧ true = true ∧ ([] : List Bool) = [] ∧ true = false then .inr ((true, false, true, [], nots), nx) else if (kd = 2 ∨ kd = 1) ∧ ([] : List Bool) = [] ∧ true = true then .inr ((false, true, true, [], 0), nx) else if kd = 16 ∧ ([] : List Bool) = [] ∧ true = true then .inl (0, nx) else .inl (1, st)) := rfl
  rw [if_neg ng, if_neg (fun h => h.2 rfl), if_neg (fun h => nomatch h.2.2.2.2), if_neg (fun h => h.1.elim n2 n1)] at l_
  unfold Cl_
  rw [if_neg (by decide), if_pos rfl]
  by_cases e : kd = 16
  · rw [if_pos ⟨e, rfl, rfl⟩] at l_
    rw [if_pos e]
    exact le _ (Run_fin tk l_)
  · rw [if_neg (fun h => e h.1)] at l_
    rw [if_neg e]
    exact le _ (Run_fin tk l_)
/-- behind a clause: it stands, or a fault -/
def CE_ (B : Nat → Int) (n p q c : Nat) (ob os : Bool) (r : Int32 × Sg) : Prop := (∃ kd st nx nm x, Tk_ B p kd st nx nm ∧ kd ≠ 24 ∧ hf_ c ob os kd = 0 ∧ Cl_ B kd nx x ∧ x.1 = 0 ∧ r.1 = 0 ∧ Mt_ B n x.2 r.2 ∧ gi r.2 30 (680 * q) = nI (c + 1) ∧ gi r.2 27 21 = fl_ (ob || decide (kd = 19)) (os || decide (kd = 20)) ∧ TPm_ B n r.2) ∨ Ft_ r.1 r.2 (fun x => ∃ f, RunT_ B f (c, ob, os) p x)
theorem clEnd_v {B : Nat → Int} {n p q c kd st nx nm p' : Nat} {ob os : Bool} {y : Sg} (hq : q < 4) (tk : Tk_ B p kd st nx nm) (n24 : kd ≠ 24) (h0 : hf_ c ob os kd = 0) (h12 : gi y 27 12 = nI (680 * q)) (hc : gi y 30 (680 * q) = nI c) (hp : TPm_ B n y) (ht : Mt_ B n p' y) (hC : ∀ x, Kd_ B 16 p' x → Cl_ B kd nx x) (h21 : gi y 27 21 = fl_ (ob || decide (kd = 19)) (os || decide (kd = 20))) : pf_ (chk (inb 2720 (gi y 27 12)) <| bv (si y 30 (ix (gi y 27 12)) ((gi y 30 (ix (gi y 27 12))) + 1)) fun s_20 => if (gi s_20 27 9) = 59 then bnv (fX10_nextToken s_20) fun s_21 => some ((0 : Int32), s_21) else some (1, s_20)) (CE_ B n p q c ob os) := by
  rw [h12, ix_nI (show 680 * q < 2 ^ 31 by omega), hc, nI_1]
  refine pf_chk (fun _ => pf_bv (fun z ez => ?_))
  have gz : MG_ y z := by rw [ez]; exact ⟨fun k _ b _ => by rw [gsi_f b], fun j _ _ _ _ => by rw [gsi_k (by decide)], rfl⟩
  have z30 : gi z 30 (680 * q) = nI (c + 1) := by rw [ez, gsi_eq]
  refine semi_v (gz.mf.tp hp) (gz.mt ht) (fun t nx' nt hk mt => Or.inl ⟨kd, st, nx, nm, (0, nx'), tk, n24, h0, hC _ hk, rfl, rfl, mt, ?_, ?_, (nt.mf).tp (gz.mf.tp hp)⟩) (fun st' hk h8 => Or.inr ⟨(1, st'), RunT_cl (T := (c, ob, os)) tk n24 h0 (hC _ hk) (show (1 : Nat) ≠ 0 by decide), rfl, (show (1 : Nat) ≠ 0 by decide), (show (1 : Nat) < 10 by decide), h8⟩)
  · show gi t 30 (680 * q) = _
    rw [nt.1 30 (by decide)]; exact z30
  · show gi t 27 21 = _
    rw [nt.2.1 21 (by decide), gz.2.1 21 (by decide) (by decide) (by decide) (by decide)]; exact h21
theorem Ft_cl {B : Nat → Int} {n p q c kd st nx nm : Nat} {ob os : Bool} {r : Int32} {v : Sg} (tk : Tk_ B p kd st nx nm) (n24 : kd ≠ 24) (h0 : hf_ c ob os kd = 0) (h : Ft_ r v (Cl_ B kd nx)) : r ≠ 0 ∧ CE_ B n p q c ob os (r, v) := by
  obtain ⟨x, hx, e, x0, x10, e8⟩ := h
  exact ⟨fun e' => by rw [e] at e'; exact x0 ((nI_eqi (b := 0) (by omega) (by omega)).mp e'), Or.inr ⟨x, RunT_cl (T := (c, ob, os)) tk n24 h0 hx x0, e, x0, x10, e8⟩⟩
theorem Ft_mono {r : Int32} {v : Sg} {P P' : Nat × Nat → Prop} (h : Ft_ r v P) (hP : ∀ x, x.1 ≠ 0 → P x → P' x) : Ft_ r v P' := by
  obtain ⟨x, hx, e, x0, x10, e8⟩ := h
  exact ⟨x, hP x x0 hx, e, x0, x10, e8⟩
theorem ti_nI {x : Int32} {m : Nat} (h : x.toInt = (m : Int)) (hm : m < 2 ^ 31) : x = nI m := by
  apply Int32.toInt_inj.mp
  rw [h, nI_toInt hm]
set_option maxHeartbeats 1000000 in
theorem clause_v {B : Nat → Int} {n p q c : Nat} {ob os : Bool} {s t : Sg} (hq : q < 4) (h : CI_ s q t) (h9 : gi t 27 9 ≠ 0) (hp : TPm_ B n t) (ht : Mt_ B n p t) (hc : gi t 30 (680 * q) = nI c) (hc24 : c ≤ 24) (hf : gi t 27 21 = fl_ ob os) : pf_ (fX10_clause t) (CE_ B n p q c ob os) := by
  generalize hQ : CE_ B n p q c ob os = Q
  have L0 : (0 : Int32).toInt = 0 := rfl
  have L1 : (1 : Int32).toInt = 1 := rfl
  have L2 : (2 : Int32).toInt = 2 := rfl
  obtain ⟨i, c', a1, a2, a3, a4, a5, a6, a7, a8, a9⟩ := h
  clear a9 a8 a7 c'
  obtain ⟨k1, k2, k3, k4, k5, k6⟩ := id a5
  have x12 : gi t 27 12 = nI (680 * q) := ti_nI a2 (by omega)
  obtain ⟨kd, st, nx, nm, tk, hnx, t8, t7, mk⟩ := ht
  have hk := Tk_37 tk
  obtain ⟨s43, s45, s42, s47, s41, s59, s40, s1, s0⟩ := MK_sg mk (show kd < 40 by omega)
  have n24 : kd ≠ 24 := fun e => h9 (s0.mpr e)
  obtain ⟨i0, i2, ie2, il2, ie0, ie3, ie1⟩ := srt_iff kd hk
  have bad : ∀ m : Nat, m ≠ 0 → m = hf_ c ob os kd → pf_ (some (nI m, t)) Q := fun m m0 e => pf_some (by
    rw [← hQ]
    have e1 := RunT_head (T := (c, ob, os)) tk n24 (show hf_ c ob os kd ≠ 0 by rw [← e]; exact m0)
    exact Or.inr ⟨(hf_ c ob os kd, st), e1, by rw [e], by show hf_ c ob os kd ≠ 0; rw [← e]; exact m0, hf_lt c ob os kd, t8⟩)
  unfold fX10_clause
  rw [bnd_e (sortOf_v mk)]
  refine pf_ifi i0 (fun hk1 => ?_) (fun hk1 => bad 1 (by decide) (by unfold hf_; rw [if_pos (by omega)]))
  refine pf_jn (fun k => ¬ ((kd = 19 ∧ ob = true) ∨ (kd = 20 ∧ os = true)) → pf_ k Q) (fun nos => ?_) (fun k3' hk3 => ?_)
  rotate_left
  · refine pf_ifi i2 (fun h2 => hk3 (by omega)) (fun h2 => ?_)
    have hd : kd = 19 ∨ kd = 20 := by omega
    rw [hf]
    rcases hd with e | e
    · rw [ie0.mpr e]
      refine pf_ifi (fl_get ob os).1 (fun eo => bad 4 (by decide) (by unfold hf_; rw [if_neg (by omega), if_pos (Or.inl ⟨e, eo⟩)])) (fun eo => hk3 (fun h => h.elim (fun h => eo h.2) (fun h => by omega)))
    · rw [ie1.mpr e]
      refine pf_ifi (fl_get ob os).2 (fun eo => bad 4 (by decide) (by unfold hf_; rw [if_neg (by omega), if_pos (Or.inr ⟨e, eo⟩)])) (fun eo => hk3 (fun h => h.elim (fun h => by omega) (fun h => eo h.2)))
  rw [x12, ix_nI (show 680 * q < 2 ^ 31 by omega), hc]
  refine pf_chk (fun _ => pf_bv (fun v5 ev5 => ?_))
  rw [ev5]
  refine pf_ifi (show nI c = 24 ↔ c = 24 from nI_eqi (b := 24) (by omega) (by omega)) (fun e => bad 6 (by decide) (by unfold hf_; rw [if_neg (by omega), if_neg nos, if_pos e])) (fun nc => ?_)
  have h0 : hf_ c ob os kd = 0 := by unfold hf_; rw [if_neg (by omega), if_neg nos, if_neg nc]
  clear bad nos
  refine pf_jn (fun k => ∀ u, (∀ k, k ≠ 27 → gi u k = gi t k) → (∀ j, j ≠ 21 → gi u 27 j = gi t 27 j) → gi u 27 21 = fl_ (ob || decide (kd = 19)) (os || decide (kd = 20)) → u.2 = t.2 → pf_ (k u) Q) ?_ (fun k7 hk7 => ?_)
  rotate_left
  · refine pf_ifi i2 (fun h2 => hk7 t (fun _ _ => rfl) (fun _ _ => rfl) (by rw [hf, decide_eq_false (by omega), decide_eq_false (by omega), Bool.or_false, Bool.or_false]) rfl) (fun h2 => pf_bv (fun u eu => ?_))
    have hd : kd = 19 ∨ kd = 20 := by omega
    refine hk7 u (fun k hk => by rw [eu, gsi_f hk]) (fun j hj => by rw [eu, gsi_ne hj]) ?_ (by rw [eu]; rfl)
    rw [eu, gsi_eq, hf]
    rcases hd with e | e
    · rw [ie0.mpr e, (fl_set ob os).1, decide_eq_true e, decide_eq_false (by omega), Bool.or_true, Bool.or_false]
    · rw [ie1.mpr e, (fl_set ob os).2, decide_eq_true e, decide_eq_false (by omega), Bool.or_true, Bool.or_false]
  intro u uk uj u21 u2
  try dsimp only
  refine pf_bv (fun u2' eu2 => ?_)
  have vk : ∀ k, k ≠ 27 → gi u2' k = gi t k := fun k hk => by rw [eu2, gsi_f hk, uk k hk]
  have vj : ∀ j, j ≠ 21 → j ≠ 20 → gi u2' 27 j = gi t 27 j := fun j x y => by rw [eu2, gsi_ne y, uj j x]
  have v20 : gi u2' 27 20 = srt_ kd := by rw [eu2, gsi_eq]
  have v21 : gi u2' 27 21 = fl_ (ob || decide (kd = 19)) (os || decide (kd = 20)) := by rw [eu2, gsi_ne (by decide)]; exact u21
  have pu2 : TPm_ B n u2' := ⟨by rw [vj 4 (by decide) (by decide)]; exact hp.1, hp.2.1, fun k hk => by rw [vk 31 (by decide)]; exact hp.2.2.1 k hk, hp.2.2.2⟩
  clear eu2 u21 uj uk u2
  refine pf_bnv (pf_and (next10_v pu2 (by rw [vj 7 (by decide) (by decide)]; exact t7) hnx) (wp_pf (nt_ok u2' (by rw [vj 4 (by decide) (by decide)]; exact k5) (by rw [vj 4 (by decide) (by decide)]; exact k6) (by rw [vj 7 (by decide) (by decide)]; omega) (by rw [vj 7 (by decide) (by decide)]; exact k3)))) (fun v hv => ?_)
  obtain ⟨⟨nv, mv⟩, ⟨_, pv7, tv⟩⟩ := hv
  rw [vj 7 (by decide) (by decide)] at pv7
  have w12 : gi v 27 12 = nI (680 * q) := by rw [nv.2.1 12 (by decide), vj 12 (by decide) (by decide)]; exact x12
  have w14 : (gi v 27 14).toInt = (i : Int) := by rw [nv.2.1 14 (by decide), vj 14 (by decide) (by decide)]; exact a3
  have w18 : (gi v 27 18).toInt = 0 := by rw [nv.2.1 18 (by decide), vj 18 (by decide) (by decide)]; exact a4
  have w20 : gi v 27 20 = srt_ kd := by rw [nv.2.1 20 (by decide)]; exact v20
  have w21 : gi v 27 21 = fl_ (ob || decide (kd = 19)) (os || decide (kd = 20)) := by rw [nv.2.1 21 (by decide)]; exact v21
  have wc : gi v 30 (680 * q) = nI c := by rw [nv.1 30 (by decide), vk 30 (by decide)]; exact hc
  have wp : TPm_ B n v := nv.tp pu2
  have w8 : (i : Int) ≤ (gi v 27 8).toInt := by omega
  clear v20 v21 pu2 vj vk nv
  rw [w12]
  have q0 : (nI (680 * q)).toInt = ((680 * q : Nat) : Int) := nI_toInt (by omega)
  have c0 : (nI c).toInt = (c : Int) := nI_toInt (by omega)
  have m3 := tm_3 (x := nI c) (by omega) (by omega)
  have e1 := ti_add (x := nI (680 * q)) (y := 1) (by omega) (by omega)
  have e2 := ti_add (x := nI (680 * q) + 1) (y := 3 * nI c) (by omega) (by omega)
  refine pf_bv (fun v10 ev10 => ?_)
  rw [← ev10] at e2
  have e10 : v10.toInt = ((680 * q + 1 + 3 * c : Nat) : Int) := by omega
  clear ev10 e1 e2 m3
  have x10 : ix v10 = 680 * q + 1 + 3 * c := by show v10.toInt.toNat = _; omega
  have e11 := ti_add (x := v10) (y := 1) (by omega) (by omega)
  have e12 := ti_add (x := v10) (y := 2) (by omega) (by omega)
  have x11 : ix (v10 + 1) = 680 * q + 1 + 3 * c + 1 := by show (v10 + 1).toInt.toNat = _; omega
  have x12' : ix (v10 + 2) = 680 * q + 1 + 3 * c + 2 := by show (v10 + 2).toInt.toNat = _; omega
  rw [x10, x11, x12']
  refine pf_chk (fun _ => pf_bv (fun w ew => ?_))
  have gw : MG_ v w := by rw [ew]; exact ⟨fun k _ b _ => by rw [gsi_f b], fun j _ _ _ _ => by rw [gsi_k (by decide)], rfl⟩
  have fw : ∀ j, gi w 27 j = gi v 27 j := fun j => by rw [ew, gsi_k (by decide)]
  have wwc : gi w 30 (680 * q) = nI c := by rw [ew, gsi_ne (by omega)]; exact wc
  have mw : Mt_ B n nx w := gw.mt mv
  have pw : TPm_ B n w := gw.mf.tp wp
  have tw : TK_ w := tv.et ⟨fun j _ _ => fw j, by rw [ew]; rfl⟩ (fw 4)
  rw [← fw] at w12 w14 w18 w20 w21 w8
  clear ew gw fw wc wp mv tv pv7
  have wi : (gi w 27 8).toInt ≤ 300 := by
    have b1 := tw.2.1
    have b2 := tw.2.2.1
    omega
  refine pf_bv (fun v13 _ => ?_)
  -- behind the clause's body
  refine pf_jn (fun k => ∀ (r' : Int32) (z : Sg), MF_ w z → gi z 30 (680 * q) = nI c → ((∃ p', r' = 0 ∧ Mt_ B n p' z ∧ (∀ x, Kd_ B 16 p' x → Cl_ B kd nx x)) ∨ Ft_ r' z (Cl_ B kd nx)) → pf_ (k r' z) Q) ?_ (fun k16 hk16 => ?_)
  · intro r' z gz zc hz
    try dsimp only
    rcases hz with ⟨p', e, mz, hC⟩ | hz
    · rw [if_pos e]
      refine pf_jn (fun kk => ∀ y, MG_ z y → (∀ j, gi y 27 j = gi z 27 j) → gi y 30 (680 * q) = nI c → pf_ (kk y) Q) ?_ (fun k18 hk18 => ?_)
      · intro y gy fy yc
        try dsimp only
        rw [← hQ]
        exact clEnd_v hq tk n24 h0 (by rw [fy, gz.2.1 12 (by decide) (by decide) (by decide) (by decide) (by decide)]; exact w12) yc ((gz.tr gy.mf).tp pw) (gy.mt mz) hC (by rw [fy, gz.2.1 21 (by decide) (by decide) (by decide) (by decide) (by decide)]; exact w21)
      · refine pf_if (hk18 z MG_.rf (fun _ => rfl) zc) (pf_chk (fun _ => pf_bv (fun y1 ey1 => pf_chk (fun _ => pf_bv (fun y2 ey2 => ?_)))))
        exact hk18 y2 (by rw [ey2, ey1]; exact ⟨fun k _ b _ => by rw [gsi_f b, gsi_f b], fun j _ _ _ _ => by rw [gsi_k (by decide), gsi_k (by decide)], rfl⟩) (fun j => by rw [ey2, gsi_k (by decide), ey1, gsi_k (by decide)]) (by rw [ey2, gsi_ne (by omega), ey1, gsi_ne (by omega)]; exact zc)
    · obtain ⟨r0, hce⟩ := Ft_cl (n := n) (q := q) tk n24 h0 hz
      rw [if_neg r0]
      exact pf_some (by rw [← hQ]; exact hce)
  · have bw : BS_ w q i 0 0 0 ((gi w 27 8).toInt - (0 : Nat)) w := ⟨0, RF_.rf, fun _ _ => rfl, by rw [w12]; exact q0, w14, w18, by decide, rfl, by show ((i + 0 : Nat) : Int) ≤ _ - ((0 : Nat) : Int); omega, by omega⟩
    have w18' : gi w 27 18 = nI 0 := ti_nI w18 (by decide)
    refine pf_ifi ie2 (fun e21 => ?_) (fun n21 => ?_)
    · refine pf_bnd (pf_and (laid_v (a1 := v10) pw mw) (wp_pf (laid_ok (lo := 680 * q + 1 + 3 * c) tw (by omega) (by omega) e10.symm))) (fun y z hz => ?_)
      obtain ⟨⟨g1, _, g3⟩, _, f2, _⟩ := hz
      dsimp only at g1 g3 f2
      refine hk16 y z g1 (by rw [f2 _ (by omega)]; exact wwc) ?_
      have ec : ∀ x, sq_ (Num_ B 11 nx) (fun p1 => sq_ (Kd_ B 18 p1) (fun p2 => sq_ (Num_ B 1 p2) (fun p3 => Kd_ B 16 p3))) x → Cl_ B kd nx x := fun x hx => by
        unfold Cl_
        rw [if_neg (by omega), if_neg (by omega), if_pos e21]
        exact hx
      rcases g3 with ⟨p1, p2, p3, e, n1, k2', n3, mt⟩ | hft
      · exact Or.inl ⟨p3, e, mt, fun x hx => ec x (sq_ok n1 (sq_ok k2' (sq_ok n3 hx)))⟩
      · exact Or.inr (Ft_mono hft (fun x _ hx => ec x hx))
    · refine pf_ifi il2 (fun hle => ?_) (fun hle => ?_)
      · refine pf_ifi ie0 (fun e19 => ?_) (fun n19 => ?_)
        · have e20 : gi w 27 20 = b2i false := by rw [w20, ie0.mpr e19]; rfl
          refine pf_bnd (pf_and (summed_v (asks := false) (rel := false) (ab := false) (nots := 0) pw e20 w18' (by decide) mw (fun e => (nomatch e))) (wp_pf (summed_ok hq bw tw))) (fun y z hz => ?_)
          obtain ⟨⟨g1, g3⟩, _, f2, _⟩ := hz
          dsimp only at g1 g3 f2
          refine hk16 y z g1 (by rw [f2 _ (Or.inl (by omega))]; exact wwc) ?_
          rw [e19]
          rcases g3 with ⟨p', e, le, mt, ng, _⟩ | hft
          · exact Or.inl ⟨p', e, mt, fin19_ le ng⟩
          · exact Or.inr (Ft_mono hft (fun x _ hx => by unfold Cl_; rw [if_pos rfl]; exact hx))
        · have ek : kd = 20 := by omega
          have e20 : gi w 27 20 = b2i true := by rw [w20, ie1.mpr ek]; rfl
          refine pf_bnd (pf_and (either_v pw e20 w18' mw) (wp_pf (either_ok hq bw tw))) (fun y z hz => ?_)
          obtain ⟨⟨g1, g3⟩, _, f2, _⟩ := hz
          dsimp only at g1 g3 f2
          refine hk16 y z g1 (by rw [f2 _ (Or.inl (by omega))]; exact wwc) ?_
          rw [ek]
          rcases g3 with ⟨e, p', nots, le, mt, ng, _⟩ | hft
          · exact Or.inl ⟨p', e, mt, fin20_ le ng⟩
          · exact Or.inr (Ft_mono hft (fun x _ hx => by unfold Cl_; rw [if_neg (by decide), if_pos rfl]; exact hx))
      · have hk2 : kd = 22 ∨ kd = 23 := by omega
        have go : ∀ most, most = (if kd = 23 then 99 else 11) → pf_ (bnd (fX10_figure (v10 + 1) (nI most) w) fun r_35 s_36 => k16 r_35 s_36) Q := by
          intro most em
          have hm : most < 9999 := by rw [em]; split <;> decide
          refine pf_bnd (pf_and (figure_v (a1 := v10 + 1) pw mw hm) (wp_pf (figure_ok (lo := 680 * q + 1 + 3 * c + 1) (hi := 680 * q + 1 + 3 * c + 2) tw (by omega) (by omega) (by omega) (by omega)))) (fun y z hz => ?_)
          obtain ⟨⟨g1, _, g3⟩, _, f2, _⟩ := hz
          dsimp only at g1 g3 f2
          refine hk16 y z g1 (by rw [f2 _ (by omega)]; exact wwc) ?_
          have ec : ∀ x, sq_ (Num_ B most nx) (fun p1 => Kd_ B 16 p1) x → Cl_ B kd nx x := fun x hx => by
            unfold Cl_
            rw [if_neg (by omega), if_neg (by omega), if_neg (by omega), ← em]
            exact hx
          rcases g3 with ⟨p1, e, n1, mt⟩ | hft
          · exact Or.inl ⟨p1, e, mt, fun x hx => ec x (sq_ok n1 hx)⟩
          · exact Or.inr (Ft_mono hft (fun x x0 hx => ec x (sq_bad hx x0)))
        refine pf_jn (fun k => pf_ (k (v10 + 1) (nI (if kd = 23 then 99 else 11))) Q) ?_ (fun k34 hk34 => pf_ifi ie3 (fun e22 => ?_) (fun n22 => ?_))
        · try dsimp only
          exact go _ rfl
        · rw [if_neg (show ¬ kd = 23 by omega)] at hk34
          exact hk34
        · rw [if_pos (show kd = 23 by omega)] at hk34
          exact hk34
