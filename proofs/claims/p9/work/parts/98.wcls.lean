/-- what a step of the class has come to -/
def CR_ (asks : Bool) (q : Nat) (v : Sg) (r : (Nat × Nat) ⊕ (LSt_ × Nat)) : Prop := match r with
  | .inl x => (x.1 = 0 → gi v 4 4 = 0 ∧ gi v 4 12 = 1) ∧ (x.1 ≠ 0 → gi v 4 4 = nI x.1 ∧ gi v 4 5 = nI x.2)
  | .inr y => CL_ asks y.1.1 y.1.2.1 y.1.2.2.1 y.1.2.2.2.1 y.1.2.2.2.2 q v
theorem opf_lt (asks : Bool) (kd nm : Nat) : opf_ asks kd nm < 10 := by
  unfold opf_
  repeat' split
  all_goals decide
theorem operandFault_v {asks : Bool} {kd nm : Nat} {u : Sg} (hk : kd < 40) (h8 : gi u 4 8 = b2i asks) (h5 : kd = 17 → gi u 3 5 = nI nm) (hn : nm ≤ 10000) : pf_ (fX2_operandFault (nI kd) u) (fun p => p.2 = u ∧ p.1 = nI (opf_ asks kd nm)) := by
  generalize hQ : (fun p : Int32 × Sg => p.2 = u ∧ p.1 = nI (opf_ asks kd nm)) = Q
  have fin : ∀ c : Nat, c = opf_ asks kd nm → pf_ (some (nI c, u)) Q := fun c e => pf_some (by rw [← hQ]; exact ⟨rfl, by rw [e]⟩)
  unfold fX2_operandFault
  refine pf_ifi (show nI kd = 17 ↔ kd = 17 from nI_eqi (b := 17) (by omega) (by omega)) (fun e17 => ?_) (fun n17 => ?_)
  · rw [h5 e17]
    refine pf_ifi (show nI nm ≤ 9999 ↔ nm ≤ 9999 from nI_lei (b := 9999) (by omega) (by omega)) (fun hle => fin 0 ?_) (fun hgt => fin 2 ?_)
    · unfold opf_; rw [if_pos e17, if_pos hle]
    · unfold opf_; rw [if_pos e17, if_neg hgt]
  · refine pf_ifi (show 26 ≤ nI kd ↔ 26 ≤ kd from nI_lei (a := 26) (by omega) (by omega)) (fun h26 => ?_) (fun n26 => fin 1 ?_)
    · refine pf_bv (fun v1 e1 => ?_)
      rw [show nI kd - 26 = nI (kd - 26) from sub_ (b := 26) h26] at e1
      subst e1
      refine pf_jn (fun k => ∀ y : Bool, (y = true ↔ (kd < 29 ∨ decide (33 ≤ kd) = asks)) → pf_ (k y) Q) ?_ (fun k3 hk3 => ?_)
      · intro y hy
        refine pf_ifi (b0i_ hy) (fun hno => fin 5 ?_) (fun hyes => fin 0 ?_)
        · unfold opf_; rw [if_neg n17, if_pos h26, if_neg hno]
        · unfold opf_; rw [if_neg n17, if_pos h26, if_pos (by
            by_cases hh : kd < 29 ∨ decide (33 ≤ kd) = asks
            · exact hh
            · exact absurd hh hyes)]
      · refine pf_jn (fun k => (kd < 29 ∨ decide (33 ≤ kd) = asks) → pf_ k Q) (fun hh => hk3 true ⟨fun _ => hh, fun _ => rfl⟩) (fun k4 hk4 => ?_)
        refine pf_ifi (show nI (kd - 26) < 3 ↔ kd - 26 < 3 from nI_lti (b := 3) (by omega) (by omega)) (fun hlt => hk4 (Or.inl (by omega))) (fun hge => ?_)
        refine pf_jn (fun k => ∀ y : Bool, (y = decide (33 ≤ kd)) → pf_ (k y) Q) ?_ (fun k6 hk6 => pf_ifi (show nI (kd - 26) < 7 ↔ kd - 26 < 7 from nI_lti (b := 7) (by omega) (by omega)) (fun h7 => hk6 false (by simp; omega)) (fun h7 => hk6 true (by simp; omega)))
        intro y hy
        rw [h8]
        have inj : ∀ a b : Bool, b2i a = b2i b ↔ a = b := by decide +kernel
        refine pf_ifi (inj y asks) (fun e => hk4 (Or.inr (by rw [← hy]; exact e))) (fun e => hk3 false ⟨fun e' => (nomatch e'), fun e' => ?_⟩)
        rcases e' with e' | e'
        · omega
        · exact absurd (by rw [hy]; exact e') e
    · unfold opf_; rw [if_neg n17, if_neg n26]
theorem takeOperand_v {asks rel ab : Bool} {S : List Bool} {nots q : Nat} {x : Int32} {u : Sg} (hq : isScr q = true) (h : CL_ asks rel ab true S nots q u) : pf_ (fX2_takeOperand x u) (fun v => LF_ q u v ∧ gi v 3 = gi u 3 ∧ CL_ asks rel false false (popN_ S) nots q v) := by
  have q48 : 48 ≤ q := by rcases scr_cases hq with h | h | h | h <;> omega
  obtain ⟨g, c4, c12, c8, c11, c10, c9, c7, base, W, k, m, t, a1, a2, a3, a4, a5, a6, a7, a8, a9⟩ := h
  have hk := a3 rfl
  subst hk
  unfold fX2_takeOperand
  rw [g]
  refine pf_bv (fun qq eq_ => ?_)
  subst eq_
  refine pf_chk (fun _ => pf_bnv emit9_v (fun y hy => pf_bv (fun z1 e1 => pf_bv (fun z2 e2 => pf_some ?_))))
  have y4 : gi y 4 = gi u 4 := hy.1 4 (by omega) (by omega)
  have y18 : gi y 18 = gi u 18 := hy.1 18 (by omega) (by omega)
  have y3 : gi y 3 = gi u 3 := hy.1 3 (by omega) (by omega)
  have lz : LF_ qq u z2 := by rw [e2, e1]; exact ((hy.l q48).si4 q48).si4 q48
  have f4 : ∀ j, j ≠ 9 → j ≠ 10 → gi z2 4 j = gi u 4 j := fun j b1 b2 => by rw [e2, gsi_ne b1, e1, gsi_ne b2, y4]
  obtain ⟨k1, W1, t1, w1, w2, w3, w4, w5⟩ := Sh_due a2
  refine ⟨lz, by rw [e2, gsi_f (by decide), e1, gsi_f (by decide), y3], ?_⟩
  refine CL_.mk (by rw [LFgr_ lz]; exact g) (by rw [f4 4 (by decide) (by decide)]; exact c4) (by rw [f4 12 (by decide) (by decide)]; exact c12) (by rw [f4 8 (by decide) (by decide)]; exact c8) (by rw [f4 11 (by decide) (by decide)]; exact c11) (by rw [e2, gsi_ne (by decide), e1, gsi_eq]) (by rw [e2, gsi_eq]) (by rw [f4 7 (by decide) (by decide), ← w5]; exact c7) a1 (W := W1) (k := k1) (m := m) (t := t1) w2 (fun e => nomatch e) (fun _ => w3) ?_ (by rw [f4 2 (by decide) (by decide)]; exact a6) ?_ (by omega) (fun e => nomatch e)
  · rw [e2, gsi_f (by decide), e1, gsi_f (by decide), y18, ← w1]; exact a5
  · rw [f4 6 (by decide) (by decide), a7]; congr 1; omega
theorem readOperand_v {asks rel ab : Bool} {S : List Bool} {nots q kd st nx nm : Nat} {u : Sg} (hq : isScr q = true) (h : CL_ asks rel ab true S nots q u) (hk : kd < 40) (h32 : gi u 3 2 = nI kd) (h33 : gi u 3 3 = nI st) (h35 : kd = 17 → gi u 3 5 = nI nm) (hn : nm ≤ 10000) : pf_ (fX2_readOperand u) (fun v => LF_ q u v ∧ gi v 3 = gi u 3 ∧ CR_ asks q v (lst_ asks (rel, ab, true, S, nots) kd st nx nm)) := by
  generalize hQ : (fun v : Sg => LF_ q u v ∧ gi v 3 = gi u 3 ∧ CR_ asks q v (lst_ asks (rel, ab, true, S, nots) kd st nx nm)) = Q
  have q48 : 48 ≤ q := by rcases scr_cases hq with h | h | h | h <;> omega
  have l_ : lst_ asks (rel, ab, true, S, nots) kd st nx nm = (if kd = 0 ∨ kd = 11 then (if S.length + nots = 8 then .inl (3, st) else .inr ((rel, false, true, decide (kd = 0) :: S, nots), nx)) else if kd = 3 ∧ ab = true then (if S.length + nots = 8 then .inl (3, st) else .inr ((rel, true, true, S, nots + 1), nx)) else if opf_ asks kd nm = 0 then .inr ((rel, false, false, popN_ S, nots), nx) else .inl (opf_ asks kd nm, st)) := rfl
  have c10 : gi u 4 10 = b2i ab := h.2.2.2.2.2.1
  have c4 : gi u 4 4 = 0 := h.2.1
  unfold fX2_readOperand
  refine pf_bv (fun v1 e1 => ?_)
  rw [h32] at e1
  subst e1
  refine pf_jn (fun k => (kd = 0 ∨ kd = 11 ∨ (kd = 3 ∧ ab = true)) → pf_ k Q) ?_ (fun k2 hk2 => ?_)
  · intro hop
    refine pf_jn (fun k => ∀ x : Nat, (x = if kd = 11 then 14 else kd) → pf_ (k (nI x)) Q) ?_ (fun k4 hk4 => pf_ifi (show nI kd = 11 ↔ kd = 11 from nI_eqi (b := 11) (by omega) (by omega)) (fun e => hk4 14 (by rw [if_pos e])) (fun e => hk4 kd (by rw [if_neg e])))
    intro x hx
    refine pf_bnv (open9_v hq h h33 (x := x) ?_) (fun v hv => pf_some ?_)
    · rcases hop with e | e | ⟨e, e'⟩
      · left; rw [hx, if_neg (by omega)]; exact e
      · right; left; rw [hx, if_pos e]
      · right; right; exact ⟨by rw [hx, if_neg (by omega)]; exact e, e'⟩
    · obtain ⟨v1, v2, v3, v4⟩ := hv
      rw [← hQ]
      refine ⟨v1, v2, ?_⟩
      rw [l_]
      by_cases ho : kd = 0 ∨ kd = 11
      · rw [if_pos ho]
        by_cases h8 : S.length + nots = 8
        · rw [if_pos h8]
          exact ⟨fun e => absurd e (show ¬ (3 : Nat) = 0 by decide), fun _ => v3 h8⟩
        · rw [if_neg h8]
          have hx3 : x ≠ 3 := by rw [hx]; split <;> omega
          have hd : decide (x = 0) = decide (kd = 0) := by
            have : x = 0 ↔ kd = 0 := by rw [hx]; split <;> omega
            simp [this]
          have := (v4 h8).1 hx3
          rw [hd] at this
          exact this
      · rw [if_neg ho]
        have h3 : kd = 3 ∧ ab = true := by
          rcases hop with e | e | e
          · exact absurd (Or.inl e) ho
          · exact absurd (Or.inr e) ho
          · exact e
        rw [if_pos h3]
        by_cases h8 : S.length + nots = 8
        · rw [if_pos h8]
          exact ⟨fun e => absurd e (show ¬ (3 : Nat) = 0 by decide), fun _ => v3 h8⟩
        · rw [if_neg h8]
          exact (v4 h8).2 (by rw [hx, if_neg (by omega)]; exact h3.1)
  · refine pf_ifi (show nI kd = 0 ↔ kd = 0 from nI_eqi (b := 0) (by omega) (by omega)) (fun e => hk2 (Or.inl e)) (fun n0 => ?_)
    refine pf_ifi (show nI kd = 11 ↔ kd = 11 from nI_eqi (b := 11) (by omega) (by omega)) (fun e => hk2 (Or.inr (Or.inl e))) (fun n11 => ?_)
    refine pf_jn (fun k => ¬ (kd = 3 ∧ ab = true) → pf_ k Q) ?_ (fun k6 hk6 => ?_)
    · intro n3
      refine pf_bnd (operandFault_v hk h.2.2.2.1 h35 hn) (fun r w hw => ?_)
      obtain ⟨hw1, hw2⟩ := hw
      dsimp only at hw1 hw2
      subst hw1
      subst hw2
      have ho := opf_lt asks kd nm
      refine pf_ifi (show nI (opf_ asks kd nm) = 0 ↔ opf_ asks kd nm = 0 from nI_eqi (b := 0) (by omega) (by omega)) (fun e0 => ?_) (fun n0' => ?_)
      · have last : ∀ y, pf_ (fX2_takeOperand y w) (fun v => Q v) := fun y => fun o ho' => by
          have := takeOperand_v hq h o ho'
          rw [← hQ]
          refine ⟨this.1, this.2.1, ?_⟩
          rw [l_, if_neg (by omega), if_neg n3, if_pos e0]
          exact this.2.2
        refine pf_jn (fun k => ∀ y, pf_ (k y) Q) ?_ (fun k10 hk10 => pf_if (hk10 _) (hk10 _))
        intro y
        exact pf_bnv (last y) (fun v hv => pf_some hv)
      · refine pf_bnv (P := fun z => z = si (si w 4 4 (nI (opf_ asks kd nm))) 4 5 (gi w 3 3)) (fun o ho' => by rw [fail_e c4] at ho'; injection ho' with ho'; exact ho'.symm) (fun z ez => pf_some ?_)
        rw [← hQ]
        refine ⟨by rw [ez]; exact (LF_.rf.si4 q48).si4 q48, by rw [ez, gsi_f (by decide), gsi_f (by decide)], ?_⟩
        rw [l_, if_neg (by omega), if_neg n3, if_neg n0']
        exact ⟨fun e => absurd e n0', fun _ => ⟨by rw [ez, gsi_ne (by decide), gsi_eq], by rw [ez, gsi_eq]; exact h33⟩⟩
    · refine pf_ifi (show nI kd = 3 ↔ kd = 3 from nI_eqi (b := 3) (by omega) (by omega)) (fun e3 => ?_) (fun n3 => hk6 (fun e => n3 e.1))
      rw [c10]
      refine pf_ifi (b0i_ (b := ab) (P := ab = true) Iff.rfl) (fun hno => hk6 (fun e => hno e.2)) (fun hyes => hk2 (Or.inr (Or.inr ⟨e3, ?_⟩)))
      cases ab with
      | true => rfl
      | false => exact absurd (fun e => nomatch e) hyes
