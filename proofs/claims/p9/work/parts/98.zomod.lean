/-! the model's reader: a text -/
theorem LeT_tr {B : Nat → Int} {T T' T'' : Nat × Bool × Bool} {p p' p'' : Nat} (h : LeT_ B T p T' p') (h' : LeT_ B T' p' T'' p'') : LeT_ B T p T'' p'' := fun r hr => h r (h' r hr)
theorem readText_v {B : Nat → Int} {n q : Nat} {s : Sg} (hq : q < 4) (h7 : (gi s 28 7).toInt = (q : Int)) (hp : TPm_ B n s) : pf_ (fX10_readText s) (fun r => ∃ x, (∃ f, RunT_ B f (0, false, false) 0 x) ∧ r.1 = nI x.1 ∧ x.1 < 10 ∧ (x.1 ≠ 0 → gi r.2 27 8 = nI x.2)) := by
  generalize hQ : (fun r : Int32 × Sg => ∃ x, (∃ f, RunT_ B f (0, false, false) 0 x) ∧ r.1 = nI x.1 ∧ x.1 < 10 ∧ (x.1 ≠ 0 → gi r.2 27 8 = nI x.2)) = Q
  have hn := hp.2.1
  have hnt : (nI n).toInt = (n : Int) := nI_toInt (by omega)
  unfold fX10_readText
  rw [ixl_7]
  have m := tm_680 (x := gi s 28 7) (by omega) (by omega)
  refine pf_bv (fun s1 e1 => ?_)
  have g12 : gi s1 27 12 = nI (680 * q) := by rw [e1, gsi_eq]; exact ti_nI (by rw [m]; omega) (by omega)
  have c1 : CF_ q s s1 := by rw [e1]; exact CF_.rf.si (by decide)
  clear e1
  rw [g12, ix_nI (show 680 * q < 2 ^ 31 by omega)]
  refine pf_chk (fun _ => pf_bv (fun s3 e3 => pf_bv (fun s4 e4 => pf_bv (fun s5 e5 => pf_bv (fun s6 e6 => pf_bv (fun s7 e7 => ?_))))))
  have c3 : CF_ q s s3 := by rw [e3]; exact CFs0_ c1 (by omega)
  have c7 : CF_ q s s7 := by rw [e7, e6, e5, e4]; exact (((c3.si (by decide)).si (by decide)).si (by decide)).si (by decide)
  have z12 : gi s7 27 12 = nI (680 * q) := by rw [e7, gsi_ne (by decide), e6, gsi_ne (by decide), e5, gsi_ne (by decide), e4, gsi_ne (by decide), e3, gsi_k (by decide)]; exact g12
  have z14 : (gi s7 27 14).toInt = ((0 : Nat) : Int) := by rw [e7, gsi_ne (by decide), e6, gsi_ne (by decide), e5, gsi_ne (by decide), e4, gsi_eq]; rfl
  have z18 : (gi s7 27 18).toInt = 0 := by rw [e7, gsi_ne (by decide), e6, gsi_ne (by decide), e5, gsi_eq]; rfl
  have z21 : gi s7 27 21 = fl_ false false := by rw [e7, gsi_ne (by decide), e6, gsi_eq]; rfl
  have z7 : gi s7 27 7 = nI 0 := by rw [e7, gsi_eq]; rfl
  have z30 : gi s7 30 (680 * q) = nI 0 := by rw [e7, gsi_k (by decide), e6, gsi_k (by decide), e5, gsi_k (by decide), e4, gsi_k (by decide), e3, gsi_eq]; rfl
  have z4 : gi s7 27 4 = gi s 27 4 := c7.2.1 4 (by decide)
  have p7 : TPm_ B n s7 := ⟨by rw [z4]; exact hp.1, hp.2.1, fun k hk => by rw [c7.1 31 (by decide) (by decide) (by decide)]; exact hp.2.2.1 k hk, hp.2.2.2⟩
  clear e7 e6 e5 e4 e3 c3 c1 s6 s5 s4 s3 g12
  refine pf_bnv (pf_and (next10_v (p := 0) p7 z7 (Nat.zero_le _)) (wp_pf (nt_ok s7 (by rw [z4, hp.1, hnt]; omega) (by rw [z4, hp.1, hnt]; omega) (by rw [z7]; decide +kernel) (by rw [z7]; decide +kernel)))) (fun u hu => ?_)
  obtain ⟨⟨_, mt⟩, nt, _, tk⟩ := hu
  have hu : CI_ s q u := by
    refine ⟨0, 0, c7.tr nt.c, ?_, ?_, ?_, tk, by have := tk.1; omega, ?_, by decide, fun k hk => absurd hk (by omega)⟩
    · rw [nt.2.1 12 (by decide), z12]; exact nI_toInt (by omega)
    · rw [nt.2.1 14 (by decide)]; exact z14
    · rw [nt.2.1 18 (by decide)]; exact z18
    · rw [nt.1 30 (by decide), z30]; exact nI_toInt (by decide)
  refine pf_lo1 (fun u => CI_ s q u ∧ ∃ c ob os p, gi u 30 (680 * q) = nI c ∧ c ≤ 24 ∧ gi u 27 21 = fl_ ob os ∧ TPm_ B n u ∧ Mt_ B n p u ∧ LeT_ B (0, false, false) 0 (c, ob, os) p) ?_ FU u ⟨hu, 0, false, false, 0, by rw [nt.1 30 (by decide)]; exact z30, by decide, by rw [nt.2.1 21 (by decide)]; exact z21, nt.tp p7, mt, fun _ h => h⟩
  rintro rec x ⟨hx, c, ob, os, p, xc, c24, x21, xp, xm, le⟩ hr
  unfold fX10_readText_49_b
  refine pf_ifc (fun h9 => pf_some ?_) (fun h9 => ?_)
  · obtain ⟨kd, st, nx, nm, tk, hnx, t8, t7, mk⟩ := xm
    have hk := Tk_37 tk
    obtain ⟨s43, s45, s42, s47, s41, s59, s40, s1', s0⟩ := MK_sg mk (show kd < 40 by omega)
    rw [← hQ]
    exact ⟨(0, 0), le _ (RunT_end tk (s0.mp h9)), rfl, (show (0 : Nat) < 10 by decide), fun e => absurd rfl e⟩
  · refine pf_bnd (pf_and (clause_v hq hx h9 xp xm xc c24 x21) (wp_pf (clause_ok hq hx h9))) (fun r y hy => ?_)
    obtain ⟨hv, hy⟩ := hy
    rcases hv with ⟨kd, st, nx, nm, x', tk, n24, h0, hC, x0, e, mt', yc, y21, yp⟩ | ⟨x', hx', e, x0, x10, e8⟩
    · dsimp only at e mt' yc y21 yp
      rw [if_pos e]
      obtain ⟨_, _, cn, _, _⟩ := hf_0 h0
      exact hr y ⟨(hy.2.2 e).1, c + 1, _, _, x'.2, yc, by omega, y21, yp, mt', LeT_tr le (LeT_st (T := (c, ob, os)) tk n24 h0 hC x0)⟩
    · dsimp only at e e8
      rw [if_neg (fun e' => by rw [e] at e'; exact x0 ((nI_eqi (b := 0) (by omega) (by omega)).mp e'))]
      refine pf_some ?_
      rw [← hQ]
      exact ⟨x', le _ hx', e, x10, fun _ => e8⟩
/-- the model's text -/
theorem text10_v {B : Nat → Int} {n : Nat} {s : Sg} (hI : I10_ s) (hp : TPm_ B n s) : pf_ (fX10_text s) (fun r => (gi s 28 7 = 4 → r = (-1, s)) ∧ (gi s 28 7 ≠ 4 → ∃ x, (∃ f, RunT_ B f (0, false, false) 0 x) ∧ gi r.2 27 5 = nI x.1 ∧ (x.1 = 0 → gi r.2 27 6 = -1 ∧ gi r.2 28 7 = gi s 28 7 + 1 ∧ r.1 = gi r.2 28 7 - 1) ∧ (x.1 ≠ 0 → gi r.2 27 6 = nI x.2 ∧ gi r.2 28 7 = gi s 28 7 ∧ r.1 = -1) ∧ gi r.2 27 4 = 0)) := by
  generalize hQ : (fun r : Int32 × Sg => (gi s 28 7 = 4 → r = (-1, s)) ∧ (gi s 28 7 ≠ 4 → ∃ x, (∃ f, RunT_ B f (0, false, false) 0 x) ∧ gi r.2 27 5 = nI x.1 ∧ (x.1 = 0 → gi r.2 27 6 = -1 ∧ gi r.2 28 7 = gi s 28 7 + 1 ∧ r.1 = gi r.2 28 7 - 1) ∧ (x.1 ≠ 0 → gi r.2 27 6 = nI x.2 ∧ gi r.2 28 7 = gi s 28 7 ∧ r.1 = -1) ∧ gi r.2 27 4 = 0)) = Q
  have L4 : (4 : Int32).toInt = 4 := rfl
  have b7 : 0 ≤ (gi s 28 7).toInt ∧ (gi s 28 7).toInt ≤ 4 := (hI 28 7).2.1 rfl
  have b4 : 0 ≤ (gi s 27 4).toInt ∧ (gi s 27 4).toInt ≤ 300 := hI 27 4
  unfold fX10_text
  rw [ixl_7]
  refine pf_ifc (fun h => pf_some (by rw [← hQ]; exact ⟨fun _ => rfl, fun e => absurd h e⟩)) (fun h4 => ?_)
  have h4' := ne_ti h4
  obtain ⟨q, hq⟩ : ∃ q : Nat, (gi s 28 7).toInt = (q : Int) := ⟨(gi s 28 7).toInt.toNat, by omega⟩
  refine pf_bnd (pf_and (readText_v (q := q) (by omega) hq hp) (wp_pf (readText_ok (q := q) (by omega) hq b4))) (fun r t ht => ?_)
  obtain ⟨⟨x, hx, er, x10, e8⟩, c, _⟩ := ht
  dsimp only at er e8 c
  have t7 : gi t 28 7 = gi s 28 7 := by rw [c.1 28 (by decide) (by decide) (by decide)]
  clear c
  refine pf_bv (fun t3 e3 => ?_)
  have t35 : gi t3 27 5 = nI x.1 := by rw [e3, gsi_eq]; exact er
  have t38 : gi t3 27 8 = gi t 27 8 := by rw [e3, gsi_ne (by decide)]
  have t37 : gi t3 28 7 = gi s 28 7 := by rw [e3, gsi_k (by decide)]; exact t7
  clear e3
  have ez : nI x.1 = 0 ↔ x.1 = 0 := nI_eqi (b := 0) (by omega) (by omega)
  refine pf_jn (fun kk => ∀ y, (x.1 = 0 → y = -1) → (x.1 ≠ 0 → y = nI x.2) → pf_ (kk y) Q) ?_ (fun k5 hk5 => ?_)
  · intro y y0 y1
    try dsimp only
    refine pf_bv (fun t6 e6 => pf_bv (fun t7' e7 => ?_))
    have f5 : gi t7' 27 5 = nI x.1 := by rw [e7, gsi_ne (by decide), e6, gsi_ne (by decide)]; exact t35
    have f6 : gi t7' 27 6 = y := by rw [e7, gsi_ne (by decide), e6, gsi_eq]
    have f4 : gi t7' 27 4 = 0 := by rw [e7, gsi_eq]
    have f28 : gi t7' 28 7 = gi s 28 7 := by rw [e7, gsi_k (by decide), e6, gsi_k (by decide)]; exact t37
    clear e7 e6
    rw [f5]
    refine pf_ifi ez (fun e0 => pf_bv (fun t8 e8' => pf_some ?_)) (fun e0 => pf_some ?_)
    · rw [← hQ]
      refine ⟨fun e => absurd e h4, fun _ => ⟨x, hx, ?_, fun _ => ⟨?_, ?_, rfl⟩, fun e => absurd e0 e, ?_⟩⟩
      · show gi t8 27 5 = _
        rw [e8', gsi_k (by decide)]; exact f5
      · show gi t8 27 6 = _
        rw [e8', gsi_k (by decide), f6]; exact y0 e0
      · show gi t8 28 7 = _
        rw [e8', gsi_eq, f28]
      · show gi t8 27 4 = _
        rw [e8', gsi_k (by decide)]; exact f4
    · rw [← hQ]
      exact ⟨fun e => absurd e h4, fun _ => ⟨x, hx, f5, fun e => absurd e e0, fun _ => ⟨by show gi t7' 27 6 = _; rw [f6]; exact y1 e0, f28, rfl⟩, f4⟩⟩
  · rw [t35]
    refine pf_ifi ez (fun e0 => hk5 _ (fun _ => rfl) (fun e => absurd e0 e)) (fun e0 => hk5 _ (fun e => absurd e e0) (fun _ => by rw [t38]; exact e8 e0))
