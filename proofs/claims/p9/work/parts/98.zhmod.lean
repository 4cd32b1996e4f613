/-! the model's reader: one operand, one sign, a sum -/
theorem wkr_37 (f : Nat → Bool) : ∀ k, wkr_ f k < 37 := by
  intro k
  induction k with
  | zero => show (25 : Nat) < 37; decide
  | succ k ih =>
    show (if f (19 - k) = true then kds_.getD (19 - k) 25 else wkr_ f k) < 37
    by_cases h : f (19 - k) = true
    · rw [if_pos h]
      have : ∀ j, j < 20 → kds_.getD j 25 < 37 := by decide
      exact this _ (by omega)
    · rw [if_neg h]; exact ih
theorem sgk_37 (c d : Int) : sgk_ c d < 37 := by
  unfold sgk_
  repeat' split
  all_goals decide
theorem Tk_37 {B : Nat → Int} {p kd st nx nm : Nat} (h : Tk_ B p kd st nx nm) : kd < 37 := by
  rcases h.2.2.2 with ⟨_, c2, _⟩ | ⟨_, _, _, _, c5⟩ | ⟨_, _, _, _, c5, _⟩ | ⟨_, _, _, c4, _⟩
  · omega
  · rw [c5]; exact wkr_37 _ _
  · omega
  · rw [c4]; exact sgk_37 _ _
/-- the model's pile, as it stands to what is open -/
def PM_ (due : Bool) (S : List Bool) (nots : Nat) (u : Sg) : Prop := gi u 27 19 = b2i (!due) ∧ gi u 27 18 = nI (S.length + nots) ∧ S.length + nots ≤ 8 ∧ ∃ W t m, Sh_ [] W S t ∧ (due = false → t ≠ 1) ∧ Wl_ (gi u 32) (W.map cm_) m ∧ gi u 27 17 = nI m
theorem Sh_m {W : List Nat} {S : List Bool} {t m : Nat} {f : Nat → Int32} (hS : Sh_ [] W S t) (hW : Wl_ f (W.map cm_) m) (h8 : S.length ≤ 8) : m < 1000 := by
  have e := Wl_len hW
  rw [List.length_map] at e
  have h1 := Sh_room hS
  have h3 := cnt_le S
  have h4 : ([] : List Nat).length = 0 := rfl
  omega
theorem PM_.of {due : Bool} {S : List Bool} {nots : Nat} {u v : Sg} (h : PM_ due S nots u) (e17 : gi v 27 17 = gi u 27 17) (e18 : gi v 27 18 = gi u 27 18) (e19 : gi v 27 19 = gi u 27 19) (e32 : gi v 32 = gi u 32) : PM_ due S nots v := by
  unfold PM_ at h ⊢
  rw [e17, e18, e19, e32]
  exact h
theorem NT_.pm {due : Bool} {S : List Bool} {nots : Nat} {u v : Sg} (h : NT_ u v) (m : PM_ due S nots u) : PM_ due S nots v := m.of (h.2.1 17 (by decide)) (h.2.1 18 (by decide)) (h.2.1 19 (by decide)) (h.1 32 (by decide))
/-- what a step of the model has come to -/
def MR_ (B : Nat → Int) (n : Nat) (r : Int32) (v : Sg) (L : (Nat × Nat) ⊕ (LSt_ × Nat)) : Prop := match L with
  | .inl x => r = nI x.1 ∧ x.1 ≠ 0 ∧ x.1 < 10 ∧ gi v 27 8 = nI x.2
  | .inr y => r = 0 ∧ PM_ y.1.2.2.1 y.1.2.2.2.1 y.1.2.2.2.2 v ∧ Mt_ B n y.2 v
theorem beginOne_v {B : Nat → Int} {n kd st nx nm nots : Nat} {asks rel ab : Bool} {S : List Bool} {u : Sg} (hp : TPm_ B n u) (hnx : nx ≤ n) (h8 : gi u 27 8 = nI st) (h7 : gi u 27 7 = nI nx) (hm : MK_ kd nm u) (hk : kd < 37) (h20 : gi u 27 20 = b2i asks) (hs : PM_ true S nots u) (hab : ab = true → kd ≠ 3) : pf_ (fX10_beginOne u) (fun r => MF_ u r.2 ∧ MR_ B n r.1 r.2 (lst_ asks (rel, ab, true, S, nots) kd st nx nm)) := by
  have l_ : lst_ asks (rel, ab, true, S, nots) kd st nx nm = (if kd = 0 ∨ kd = 11 then (if S.length + nots = 8 then .inl (3, st) else .inr ((rel, false, true, decide (kd = 0) :: S, nots), nx)) else if kd = 3 ∧ ab = true then (if S.length + nots = 8 then .inl (3, st) else .inr ((rel, true, true, S, nots + 1), nx)) else if opf_ asks kd nm = 0 then .inr ((rel, false, false, popN_ S, nots), nx) else .inl (opf_ asks kd nm, st)) := rfl
  obtain ⟨s43, s45, s42, s47, s41, s59, s40, s1, s0⟩ := MK_sg hm (show kd < 40 by omega)
  obtain ⟨p19, p18, p8, W, t, m, pS, pt, pW, p17⟩ := id hs
  have hm1 := Sh_m pS pW (by omega)
  generalize hQ : (fun r : Int32 × Sg => MF_ u r.2 ∧ MR_ B n r.1 r.2 (lst_ asks (rel, ab, true, S, nots) kd st nx nm)) = Q
  have n3 : ¬ (kd = 3 ∧ ab = true) := fun h => hab h.2 h.1
  -- a fault of the token
  have bad : ∀ c : Nat, c ≠ 0 → c < 10 → lst_ asks (rel, ab, true, S, nots) kd st nx nm = .inl (c, st) → pf_ (some (nI c, u)) Q := fun c c0 c10 e => pf_some (by
    rw [← hQ, e]
    exact ⟨MF_.rf, rfl, c0, c10, h8⟩)
  -- an operand
  have good : ∀ a b : Int32, kd ≠ 0 → kd ≠ 11 → opf_ asks kd nm = 0 → pf_ (bnv (fX10_emit a b u) fun s1 => bnv (fX10_nextToken s1) fun s2 => bnv (fX10_whole s2) fun s3 => some ((0 : Int32), s3)) Q := by
    intro a b k0 k11 ho
    refine pf_bnv (emit10_v a b u) (fun x hx => ?_)
    obtain ⟨x1, x2, x3⟩ := hx
    refine pf_bnv (next10_v (x1.mf.tp hp) (by rw [x3 7 (by decide)]; exact h7) hnx) (fun y hy => ?_)
    obtain ⟨y1, y2⟩ := hy
    have yW : gi y 32 = gi u 32 := by rw [y1.1 32 (by decide), x2]
    have yg : ∀ j, 10 < j → j ≠ 14 → gi y 27 j = gi u 27 j := fun j a b => by rw [y1.2.1 j (Or.inr a), x3 j b]
    refine pf_bnv (whole10_v (nots := nots) pS (by rw [yW]; exact pW) (by rw [yg 17 (by decide) (by decide)]; exact p17) hm1 (by rw [yg 18 (by decide) (by decide)]; exact p18) p8) (fun z hz => pf_some ?_)
    obtain ⟨z1, z2, z3, z4, W', t', m', z5, z6, z7, z8, _⟩ := hz
    rw [← hQ, l_, if_neg (by omega), if_neg n3, if_pos ho]
    show MF_ u z ∧ (0 : Int32) = 0 ∧ PM_ false (popN_ S) nots z ∧ Mt_ B n nx z
    exact ⟨(x1.mf.tr y1.mf).tr z1.mf, rfl, ⟨z2, z3, by omega, W', t', m', z5, fun _ => z6, z7, z8⟩, z1.mt y2⟩
  unfold fX10_beginOne
  refine pf_ifi s1 (fun e17 => ?_) (fun n17 => ?_)
  · obtain ⟨mm, hm10, hmlt, hnm⟩ := hm.2.1 e17
    have o1 : opf_ asks kd nm = if nm ≤ 9999 then 0 else 2 := by unfold opf_; rw [if_pos e17]
    rw [hm10]
    refine pf_ifi (show nI mm ≤ 9999 ↔ mm ≤ 9999 from nI_lei (b := 9999) (by omega) (by omega)) (fun hle => ?_) (fun hgt => ?_)
    · exact good _ _ (by omega) (by omega) (by rw [o1, if_pos (by omega)])
    · exact bad 2 (by decide) (by decide) (by rw [l_, if_neg (by omega), if_neg n3, o1, if_neg (show ¬ nm ≤ 9999 by omega), if_neg (show ¬ (2 : Nat) = 0 by decide)])
  · rw [bnd_e (nameOf_v hm)]
    by_cases hn : 26 ≤ kd
    · have en : nam_ kd = nI (kd - 26) := by unfold nam_; rw [if_pos ⟨hn, by omega⟩]
      rw [en, if_neg (fun e => by have := (nI_lti (a := kd - 26) (b := 0) (by omega) (by omega)).mp e; omega), bnd_e (nameOf_v hm), en]
      obtain ⟨b, hb, hbi⟩ := isBarred_v (kd := kd) h20 hn (by omega)
      rw [bnd_e hb]
      have o1 : opf_ asks kd nm = if kd < 29 ∨ decide (33 ≤ kd) = asks then 0 else 5 := by unfold opf_; rw [if_neg n17, if_pos hn]
      cases b with
      | false =>
        rw [if_pos bF0_, bnd_e (nameOf_v hm)]
        exact good _ _ (by omega) (by omega) (by rw [o1, if_pos (hbi.mp rfl)])
      | true =>
        rw [if_neg bT0_]
        exact bad 5 (by decide) (by decide) (by rw [l_, if_neg (by omega), if_neg n3, o1, if_neg (fun e => nomatch hbi.mpr e), if_neg (show ¬ (5 : Nat) = 0 by decide)])
    · have en : nam_ kd = -1 := by unfold nam_; rw [if_neg (by omega)]
      rw [en, if_pos (show (-1 : Int32) < 0 by decide +kernel)]
      refine pf_jn (fun kk => (∀ (y : Int32) (x : Nat), y = nI (cm_ x) → (x = 0 ∧ kd = 0) ∨ (x = 14 ∧ kd = 11) → pf_ (kk y) Q) ∧ (kd ≠ 0 → kd ≠ 11 → pf_ (kk 0) Q)) ⟨fun y x ey hy => ?_, fun k0 k11 => ?_⟩ (fun k4 hk4 => pf_ifi s40 (fun e => hk4.1 40 0 rfl (Or.inl ⟨rfl, e⟩)) (fun e => pf_ifi s45 (fun e' => hk4.1 2 14 rfl (Or.inr ⟨rfl, e'⟩)) (fun e' => hk4.2 e e')))
      · try dsimp only
        have y0 : ¬ y = 0 := by
          rw [ey]
          rcases hy with ⟨e, _⟩ | ⟨e, _⟩ <;> rw [e] <;> decide +kernel
        rw [if_neg y0, p18]
        refine pf_ifi (show nI (S.length + nots) = 8 ↔ S.length + nots = 8 from nI_eqi (b := 8) (by omega) (by omega)) (fun e8 => ?_) (fun n8 => ?_)
        · exact bad 3 (by decide) (by decide) (by rw [l_, if_pos (by omega), if_pos e8])
        · rw [nI_1]
          refine pf_bv (fun s5 e5 => ?_)
          have g5 : MG_ u s5 := by rw [e5]; exact ⟨fun k x _ _ => by rw [gsi_f x], fun j _ _ y _ => by rw [gsi_ne y], rfl⟩
          refine pf_bnv (push10_v (m := m) (by rw [e5, gsi_ne (by decide)]; exact p17) (by omega)) (fun s6 h6 => ?_)
          obtain ⟨a1, a2, a3, a4, a5⟩ := h6
          refine pf_bnv (next10_v ((g5.tr a1).mf.tp hp) (by rw [a5 7 (by decide), e5, gsi_ne (by decide)]; exact h7) hnx) (fun s7 h7' => pf_some ?_)
          obtain ⟨b1, b2⟩ := h7'
          rw [← hQ, l_, if_pos (by omega), if_neg n8]
          show MF_ u s7 ∧ (0 : Int32) = 0 ∧ PM_ true (decide (kd = 0) :: S) nots s7 ∧ Mt_ B n nx s7
          refine ⟨(g5.tr a1).mf.tr b1.mf, rfl, b1.pm ⟨by rw [a5 19 (by decide), e5, gsi_ne (by decide)]; exact p19, by rw [a5 18 (by decide), e5, gsi_eq, List.length_cons]; congr 1; omega, by rw [List.length_cons]; omega, x :: W, (if x = 0 then 0 else 1), m + 1, ?_, (fun e => (nomatch e)), ⟨m, rfl, by rw [a3, ey], Wl_fr pW (fun i hi => by rw [a4 i (by omega), e5, gsi_k (by decide)])⟩, a2⟩, b2⟩
          rcases hy with ⟨ex, ek⟩ | ⟨ex, ek⟩
          · subst ex
            rw [if_pos rfl, decide_eq_true ek]
            exact Or.inl ⟨rfl, rfl, S, t, rfl, pS⟩
          · subst ex
            rw [if_neg (by decide), decide_eq_false (by omega)]
            exact Or.inr (Or.inl ⟨rfl, rfl, S, t, rfl, pS⟩)
      · try dsimp only
        rw [if_pos rfl]
        have o1 : opf_ asks kd nm = 1 := by unfold opf_; rw [if_neg n17, if_neg hn]
        exact bad 1 (by decide) (by decide) (by rw [l_, if_neg (by omega), if_neg n3, o1, if_neg (show ¬ (1 : Nat) = 0 by decide)])
theorem popN_len : ∀ S : List Bool, (popN_ S).length ≤ S.length := by
  intro S
  induction S with
  | nil => exact Nat.le_refl _
  | cons b S ih =>
    cases b with
    | true => exact Nat.le_refl _
    | false =>
      show (popN_ S).length ≤ (false :: S).length
      rw [List.length_cons]; omega
theorem popN_hd {S : List Bool} (h : popN_ S = S) (hne : S ≠ []) : ∃ S', S = true :: S' := by
  cases S with
  | nil => exact absurd rfl hne
  | cons b S =>
    cases b with
    | true => exact ⟨S, rfl⟩
    | false =>
      have e : (popN_ S).length = (false :: S).length := congrArg List.length h
      have := popN_len S
      rw [List.length_cons] at e
      omega
