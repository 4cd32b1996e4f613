/-! the model's reader: figures -/
theorem sq_ok {P : Nat × Nat → Prop} {Q : Nat → Nat × Nat → Prop} {x : Nat × Nat} {y : Nat} (h : P (0, y)) (hx : Q y x) : sq_ P Q x := ⟨(0, y), h, fun _ => hx, fun e => absurd rfl e⟩
theorem sq_bad {P : Nat × Nat → Prop} {Q : Nat → Nat × Nat → Prop} {x : Nat × Nat} (h : P x) (hx : x.1 ≠ 0) : sq_ P Q x := ⟨x, h, fun e => absurd e hx, fun _ => rfl⟩
theorem figure_v {B : Nat → Int} {n p most : Nat} {a1 : Int32} {u : Sg} (hp : TPm_ B n u) (ht : Mt_ B n p u) (hm : most < 9999) : pf_ (fX10_figure a1 (nI most) u) (fun r => MF_ u r.2 ∧ gi r.2 27 18 = gi u 27 18 ∧ ((∃ nx, r.1 = 0 ∧ Num_ B most p (0, nx) ∧ Mt_ B n nx r.2) ∨ Ft_ r.1 r.2 (Num_ B most p))) := by
  obtain ⟨kd, st, nx, nm, tk, hnx, t8, t7, mk⟩ := ht
  have hk := Tk_37 tk
  obtain ⟨s43, s45, s42, s47, s41, s59, s40, s1, s0⟩ := MK_sg mk (show kd < 40 by omega)
  generalize hQ : (fun r : Int32 × Sg => MF_ u r.2 ∧ gi r.2 27 18 = gi u 27 18 ∧ ((∃ nx, r.1 = 0 ∧ Num_ B most p (0, nx) ∧ Mt_ B n nx r.2) ∨ Ft_ r.1 r.2 (Num_ B most p))) = Q
  unfold fX10_figure
  refine pf_ifi s1 (fun e17 => ?_) (fun n17 => pf_some ?_)
  · obtain ⟨mm, hm10, hlt, hnm⟩ := mk.2.1 e17
    rw [hm10]
    refine pf_ifi (nI_lei (by omega) (by omega)) (fun hle => pf_chk (fun _ => pf_bv (fun s2 e2 => ?_))) (fun hgt => pf_some ?_)
    · have g2 : MF_ u s2 := by rw [e2]; exact ⟨fun k _ y _ => by rw [gsi_f y], fun j _ _ _ _ _ => by rw [gsi_k (by decide)], rfl⟩
      refine pf_bnv (next10_v (g2.tp hp) (by rw [e2, gsi_k (by decide)]; exact t7) hnx) (fun s3 h3 => pf_some ?_)
      rw [← hQ]
      exact ⟨g2.tr h3.1.mf, by show gi s3 27 18 = _; rw [h3.1.2.1 18 (by decide), e2, gsi_k (by decide)], Or.inl ⟨nx, rfl, ⟨kd, st, nx, nm, tk, by rw [if_pos e17, if_pos (by omega)]⟩, h3.2⟩⟩
    · rw [← hQ]
      exact ⟨MF_.rf, rfl, Or.inr ⟨(2, st), ⟨kd, st, nx, nm, tk, by rw [if_pos e17, if_neg (by omega)]⟩, rfl, (show (2 : Nat) ≠ 0 by decide), (show (2 : Nat) < 10 by decide), t8⟩⟩
  · rw [← hQ]
    exact ⟨MF_.rf, rfl, Or.inr ⟨(1, st), ⟨kd, st, nx, nm, tk, by rw [if_neg n17]⟩, rfl, (show (1 : Nat) ≠ 0 by decide), (show (1 : Nat) < 10 by decide), t8⟩⟩
theorem laid_v {B : Nat → Int} {n p : Nat} {a1 : Int32} {u : Sg} (hp : TPm_ B n u) (ht : Mt_ B n p u) : pf_ (fX10_laid a1 u) (fun r => MF_ u r.2 ∧ gi r.2 27 18 = gi u 27 18 ∧ ((∃ p1 p2 p3, r.1 = 0 ∧ Num_ B 11 p (0, p1) ∧ Kd_ B 18 p1 (0, p2) ∧ Num_ B 1 p2 (0, p3) ∧ Mt_ B n p3 r.2) ∨ Ft_ r.1 r.2 (sq_ (Num_ B 11 p) (fun p1 => sq_ (Kd_ B 18 p1) (fun p2 => sq_ (Num_ B 1 p2) (fun p3 => Kd_ B 16 p3)))))) := by
  generalize hQ : (fun r : Int32 × Sg => MF_ u r.2 ∧ gi r.2 27 18 = gi u 27 18 ∧ ((∃ p1 p2 p3, r.1 = 0 ∧ Num_ B 11 p (0, p1) ∧ Kd_ B 18 p1 (0, p2) ∧ Num_ B 1 p2 (0, p3) ∧ Mt_ B n p3 r.2) ∨ Ft_ r.1 r.2 (sq_ (Num_ B 11 p) (fun p1 => sq_ (Kd_ B 18 p1) (fun p2 => sq_ (Num_ B 1 p2) (fun p3 => Kd_ B 16 p3)))))) = Q
  unfold fX10_laid
  refine pf_bnd (figure_v (most := 11) hp ht (by decide)) (fun r1 s2 h2 => ?_)
  obtain ⟨g2, f2, h2⟩ := h2
  dsimp only at g2 f2 h2
  rcases h2 with ⟨p1, e, num, mt⟩ | ⟨x, hx, e, x0, x10, e8⟩
  · rw [if_pos e]
    obtain ⟨kd, st, nx, nm, tk, hnx, t8, t7, mk⟩ := id mt
    have bad : kd ≠ 18 → pf_ (some ((1 : Int32), s2)) Q := fun hne => pf_some (by
      rw [← hQ]
      exact ⟨g2, f2, Or.inr ⟨(1, st), sq_ok num (sq_bad ⟨kd, st, nx, nm, tk, by rw [if_neg hne]⟩ (show (1 : Nat) ≠ 0 by decide)), rfl, (show (1 : Nat) ≠ 0 by decide), (show (1 : Nat) < 10 by decide), t8⟩⟩)
    refine pf_ifc (fun h9 => ?_) (fun h9 => bad (fun e => h9 (MK_2 mk (i := 3) (K := 18) (by decide) rfl e)))
    have hw : gl s2 27 11 = wc_ 3 ↔ kd = 18 := mk.2.2 h9 3 (by decide)
    refine pf_ifc (fun h3 => ?_) (fun h3 => bad (fun e => h3 (lcmp_iff.mpr (by rw [wq_on]; exact hw.mpr e))))
    have e18 : kd = 18 := hw.mp (by rw [← wq_on]; exact lcmp_iff.mp h3)
    refine pf_bnv (next10_v (g2.tp hp) t7 hnx) (fun s3 h3' => ?_)
    have g3 := g2.tr h3'.1.mf
    have f3 : gi s3 27 18 = gi u 27 18 := by rw [h3'.1.2.1 18 (by decide)]; exact f2
    have kd18 : Kd_ B 18 p1 (0, nx) := ⟨kd, st, nx, nm, tk, by rw [if_pos e18]⟩
    refine pf_bnd (figure_v (most := 1) (g3.tp hp) h3'.2 (by decide)) (fun r4 s5 h5 => pf_some ?_)
    obtain ⟨g5, f5, h5⟩ := h5
    dsimp only at g5 f5 h5
    rw [← hQ]
    refine ⟨g3.tr g5, by show gi s5 27 18 = _; rw [f5]; exact f3, ?_⟩
    rcases h5 with ⟨p3, e, num2, mt2⟩ | ⟨x, hx, e, x0, x10, e8⟩
    · exact Or.inl ⟨p1, nx, p3, e, num, kd18, num2, mt2⟩
    · exact Or.inr ⟨x, sq_ok num (sq_ok kd18 (sq_bad hx x0)), e, x0, x10, e8⟩
  · rw [if_neg (fun e' => by rw [e] at e'; exact x0 ((nI_eqi (b := 0) (by omega) (by omega)).mp e'))]
    refine pf_some ?_
    rw [← hQ]
    exact ⟨g2, f2, Or.inr ⟨x, sq_bad hx x0, e, x0, x10, e8⟩⟩
