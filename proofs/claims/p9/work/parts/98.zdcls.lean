/-! the class's reader: laws as clauses, and a text -/
theorem KF_.siq {q j : Nat} {s t : Sg} {v : Int32} (hq : 48 ≤ q) (h : KF_ q s t) : KF_ q s (si t q j v) := ⟨fun k a b c d => by rw [gsi_f (by omega)]; exact h.1 k a b c d, fun i hi => by rw [gsi_k (by omega)]; exact h.2.1 i hi, h.2.2⟩
theorem KF_.si4 {q j : Nat} {s t : Sg} {v : Int32} (h : KF_ q s t) : KF_ q s (si t 4 j v) := ⟨fun k a b c d => by rw [gsi_f b]; exact h.1 k a b c d, fun i hi => by rw [gsi_k (by decide)]; exact h.2.1 i hi, h.2.2⟩
theorem Po_.of {B : Nat → Int} {n : Nat} {x : Nat × Nat} {v w : Sg} (h : Po_ B n x v) (e3 : gi w 3 = gi v 3) (e4 : gi w 4 = gi v 4) : Po_ B n x w := by
  unfold Po_ Ct_ at h ⊢
  rw [e3, e4]
  exact h
/-- behind a law that was accepted: the ; that ended it -/
theorem takeSemi_v {B : Nat → Int} {n : Nat} {x : Nat × Nat} {v : Sg} (hp : TPc_ B n v) (a1 : x.1 = 0 → gi v 4 4 = 0 ∧ gi v 3 2 = nI 16 ∧ gi v 3 4 = nI x.2 ∧ x.2 ≤ n) (a2 : x.1 ≠ 0 → gi v 4 4 = nI x.1 ∧ gi v 4 5 = nI x.2) (a3 : x.1 < 10) : pf_ (fX2_takeToken 16 v) (fun w => HF_ v w ∧ Po_ B n x w) := by
  by_cases e : x.1 = 0
  · obtain ⟨b4, b2, b34, bn⟩ := a1 e
    generalize hQ : (fun w : Sg => HF_ v w ∧ Po_ B n x w) = Q
    unfold fX2_takeToken
    rw [b2]
    refine pf_jn (fun kk => pf_ (kk v) Q) ?_ (fun k2 hk2 => ?_)
    · try dsimp only
      rw [if_pos b4]
      refine pf_bnv (advance9_v hp b34 bn) (fun w hw => pf_some ?_)
      rw [← hQ]
      exact ⟨hw.1.hf, fun _ => ⟨by rw [hw.1.1 4 (by decide)]; exact b4, bn, hw.2⟩, fun e' => absurd e e', a3⟩
    · rw [if_pos (show nI 16 = 16 from rfl)]
      exact hk2
  · obtain ⟨b4, b5⟩ := a2 e
    have hne : gi v 4 4 ≠ 0 := fun e' => by rw [b4] at e'; exact e ((nI_eqi (b := 0) (by omega) (by omega)).mp e')
    intro o ho
    rw [takeToken_f hne o ho]
    exact ⟨HF_.rf, fun e' => absurd e' e, fun _ => ⟨b4, b5⟩, a3⟩
theorem readLaw_v {B : Nat → Int} {n p q hd c : Nat} {u : Sg} (hq : isScr q = true) (hg : gr u 4 3 = q) (hp : TPc_ B n u) (h4 : gi u 4 4 = 0) (h34 : gi u 3 4 = nI p) (hpn : p ≤ n) (hh : hd = 19 ∨ hd = 20) (h9 : gi u q 9 = nI c) (hc : c < 24) (h1 : gi u q 1 ≠ -1) : pf_ (fX2_readLaw (nI hd) u) (fun w => KF_ q u w ∧ ∃ x, Cl_ B hd p x ∧ Po_ B n x w ∧ (x.1 = 0 → gi w q 9 = nI (c + 1) ∧ (hd = 19 → gi w q 2 ≠ -1 ∧ gi w q 4 = gi u q 4) ∧ (hd = 20 → gi w q 4 ≠ -1 ∧ gi w q 2 = gi u q 2))) := by
  have q48 : 48 ≤ q := by rcases scr_cases hq with h | h | h | h <;> omega
  generalize hQ : (fun w : Sg => KF_ q u w ∧ ∃ x, Cl_ B hd p x ∧ Po_ B n x w ∧ (x.1 = 0 → gi w q 9 = nI (c + 1) ∧ (hd = 19 → gi w q 2 ≠ -1 ∧ gi w q 4 = gi u q 4) ∧ (hd = 20 → gi w q 4 ≠ -1 ∧ gi w q 2 = gi u q 2))) = Q
  unfold fX2_readLaw
  rw [hg]
  refine pf_bv (fun q1 eq1 => ?_)
  rw [eq1]
  clear eq1
  refine pf_chk (fun _ => pf_bv (fun v3 e3 => ?_))
  have hv3 : v3 ≠ -1 := by rw [e3]; exact h1
  clear e3
  refine pf_jn (fun kk => ∀ asks : Bool, (asks = true ↔ hd = 20) → pf_ (kk asks) Q) ?_ (fun k5 hk5 => pf_ifi (show nI hd = 20 ↔ hd = 20 from nI_eqi (b := 20) (by omega) (by omega)) (fun e => hk5 true ⟨fun _ => e, fun _ => rfl⟩) (fun e => hk5 false ⟨fun e' => (nomatch e'), fun e' => absurd e' e⟩))
  intro asks hasks
  try dsimp only
  refine pf_bv (fun s6 e6 => pf_bv (fun s7 e7 => pf_bv (fun s8 e8 => pf_bv (fun s9 e9 => pf_bv (fun s10 e10 => pf_chk (fun _ => pf_bv (fun s11 e11 => pf_bv (fun s13 e13 => pf_bv (fun s14 e14 => ?_)))))))))
  have s108 : gi s10 4 8 = b2i asks := by rw [e10, gsi_ne (by decide), e9, gsi_ne (by decide), e8, gsi_ne (by decide), e7, gsi_ne (by decide), e6, gsi_eq]
  have b10 : b2i ((gi s10 4 8) == 1) = b2i asks := by
    rw [s108]
    cases asks <;> decide +kernel
  rw [b10] at e11
  have l14 : LF_ q u s14 := by rw [e14, e13, e11, e10, e9, e8, e7, e6]; exact (((((((LF_.rf.si4 q48).si4 q48).si4 q48).si4 q48).si4 q48).si4 q48).si4 q48).si4 q48
  have g14 : gr s14 4 3 = q := by rw [LFgr_ l14]; exact hg
  have t14 : gi s14 3 = gi u 3 := by rw [e14, gsi_f (by decide), e13, gsi_f (by decide), e11, gsi_f (by decide), e10, gsi_f (by decide), e9, gsi_f (by decide), e8, gsi_f (by decide), e7, gsi_f (by decide), e6, gsi_f (by decide)]
  have d4 : gi s14 4 4 = 0 := by rw [e14, gsi_ne (by decide), e13, gsi_ne (by decide), e11, gsi_ne (by decide), e10, gsi_ne (by decide), e9, gsi_ne (by decide), e8, gsi_ne (by decide), e7, gsi_ne (by decide), e6, gsi_ne (by decide)]; exact h4
  have d12 : gi s14 4 12 = 0 := by rw [e14, gsi_eq]; rfl
  have d11 : gi s14 4 11 = b2i false := by rw [e14, gsi_ne (by decide), e13, gsi_eq]
  have d10 : gi s14 4 10 = b2i asks := by rw [e14, gsi_ne (by decide), e13, gsi_ne (by decide), e11, gsi_eq]
  have d9 : gi s14 4 9 = b2i true := by rw [e14, gsi_ne (by decide), e13, gsi_ne (by decide), e11, gsi_ne (by decide), e10, gsi_eq]
  have d8 : gi s14 4 8 = b2i asks := by rw [e14, gsi_ne (by decide), e13, gsi_ne (by decide), e11, gsi_ne (by decide)]; exact s108
  have d7 : gi s14 4 7 = 0 := by rw [e14, gsi_ne (by decide), e13, gsi_ne (by decide), e11, gsi_ne (by decide), e10, gsi_ne (by decide), e9, gsi_eq]
  have d6 : gi s14 4 6 = 0 := by rw [e14, gsi_ne (by decide), e13, gsi_ne (by decide), e11, gsi_ne (by decide), e10, gsi_ne (by decide), e9, gsi_ne (by decide), e8, gsi_eq]
  have d2 : gi s14 4 2 = 0 := by rw [e14, gsi_ne (by decide), e13, gsi_ne (by decide), e11, gsi_ne (by decide), e10, gsi_ne (by decide), e9, gsi_ne (by decide), e8, gsi_ne (by decide), e7, gsi_eq]
  clear e14 e13 e11 b10 s108 e10 e9 e8 e7 e6
  have cl0 : CL_ asks false asks true [] 0 q s14 := CL_.mk g14 d4 d12 d8 d11 d10 d9 d7 (base := []) (W := []) (k := 0) (m := 0) (t := 0) ⟨[], [], rfl, Or.inl ⟨rfl, rfl⟩, Or.inl rfl⟩ ⟨rfl, rfl, rfl⟩ (fun _ => rfl) (fun e => nomatch e) rfl d2 d6 (by decide) (fun _ => ⟨rfl, rfl, rfl, rfl⟩)
  have clx : ∀ x, (∃ f, RunL_ B asks f (false, asks, true, [], 0) p x) → Cl_ B hd p x := by
    intro x hx
    unfold Cl_
    rcases hh with e | e
    · have ea : asks = false := by
        cases asks with
        | false => rfl
        | true => have := hasks.mp rfl; omega
      rw [if_pos e]
      rw [ea] at hx
      exact hx
    · have ea : asks = true := hasks.mpr e
      rw [if_neg (by omega), if_pos e]
      rw [ea] at hx
      exact hx
  have s1434 : gi s14 3 4 = nI p := by rw [t14]; exact h34
  refine pf_jn (fun kk => ∀ v x, LF_ q s14 v → gi v 4 8 = gi s14 4 8 → (∃ f, RunL_ B asks f (false, asks, true, [], 0) p x) → (x.1 = 0 → gi v 4 4 = 0 ∧ gi v 3 2 = nI 16 ∧ gi v 3 4 = nI x.2 ∧ x.2 ≤ n) → (x.1 ≠ 0 → gi v 4 4 = nI x.1 ∧ gi v 4 5 = nI x.2) → x.1 < 10 → pf_ (kk v) Q) ?_ (fun k16 hk16 => lawLoop_v (A0 := (false, asks, true, [], 0)) hq (l14.tp q48 hp) hpn cl0 s1434 hk16)
  intro v x lv v8 hx a1 a2 a3
  try dsimp only
  have luv : LF_ q u v := l14.tr lv
  refine pf_bnv (takeSemi_v (luv.tp q48 hp) a1 a2 a3) (fun s17 h17 => ?_)
  obtain ⟨f17, o17⟩ := h17
  have g17 : gr s17 4 3 = q := by
    have : gr s17 4 3 = gr v 4 3 := by unfold gr; rw [f17.2.2.2]
    rw [this, LFgr_ luv]; exact hg
  rw [g17]
  refine pf_bv (fun q18 e18 => ?_)
  rw [e18]
  clear e18
  refine pf_chk (fun _ => ?_)
  have fq : ∀ j, j ≠ 1 → gi s17 q j = gi u q j := fun j hj => by rw [f17.1 q (by omega) (by omega)]; exact luv.2.2.1 j hj
  refine pf_bnv (addClause_v (c := c) q48 (by rw [fq 9 (by decide)]; exact h9) hc) (fun s20 h20 => ?_)
  obtain ⟨w1, w2, w3, w4, w5⟩ := h20
  have s208 : gi s20 4 8 = b2i asks := by rw [w3, f17.2.2.1 8 (by decide) (by decide), v8]; exact d8
  have kf20 : KF_ q u s20 := (luv.kf.tr f17.kf).tr w1
  have o20 : Po_ B n x s20 := o17.of w2 w3
  have g20 : gr s20 4 3 = q := by
    have : gr s20 4 3 = gr u 4 3 := by unfold gr; rw [kf20.2.2]
    rw [this]; exact hg
  have fq2 : ∀ j, j ≠ 1 → j ≠ 9 → gi s20 q j = gi u q j := fun j a b => by rw [w4 j b]; exact fq j a
  rw [s208]
  cases asks with
  | false =>
    have n20 : hd ≠ 20 := fun e => nomatch hasks.mpr e
    rw [if_pos (show b2i false = 0 from rfl), g20]
    refine pf_bv (fun q21 e21 => ?_)
    rw [e21]
    clear e21
    refine pf_chk (fun _ => pf_bv (fun s23 e23 => ?_))
    have g23 : gr s23 4 3 = q := by rw [e23]; exact g20
    rw [g23]
    refine pf_bv (fun q24 e24 => ?_)
    rw [e24]
    clear e24
    refine pf_chk (fun _ => pf_bv (fun q26 e26 => ?_))
    rw [e26]
    clear e26
    refine pf_chk (fun _ => pf_bv (fun s28 e28 => pf_some ?_))
    rw [← hQ]
    refine ⟨by rw [e28, e23]; exact (kf20.siq q48).siq q48, x, clx x hx, o20.of (by rw [e28, gsi_f (by omega), e23, gsi_f (by omega)]) (by rw [e28, gsi_f (by omega), e23, gsi_f (by omega)]), fun _ => ⟨by rw [e28, gsi_ne (by decide), e23, gsi_ne (by decide)]; exact w5, fun _ => ⟨by rw [e28, gsi_ne (by decide), e23, gsi_eq]; exact hv3, by rw [e28, gsi_ne (by decide), e23, gsi_ne (by decide)]; exact fq2 4 (by decide) (by decide)⟩, fun e => absurd e n20⟩⟩
  | true =>
    have e20 : hd = 20 := hasks.mp rfl
    rw [if_neg (show ¬ b2i true = 0 by decide +kernel), g20]
    refine pf_bv (fun q21 e21 => ?_)
    rw [e21]
    clear e21
    refine pf_chk (fun _ => pf_bv (fun s23 e23 => ?_))
    have g23 : gr s23 4 3 = q := by rw [e23]; exact g20
    rw [g23]
    refine pf_bv (fun q24 e24 => ?_)
    rw [e24]
    clear e24
    refine pf_chk (fun _ => pf_bv (fun q26 e26 => ?_))
    rw [e26]
    clear e26
    refine pf_chk (fun _ => pf_bv (fun s28 e28 => pf_some ?_))
    rw [← hQ]
    refine ⟨by rw [e28, e23]; exact (kf20.siq q48).siq q48, x, clx x hx, o20.of (by rw [e28, gsi_f (by omega), e23, gsi_f (by omega)]) (by rw [e28, gsi_f (by omega), e23, gsi_f (by omega)]), fun _ => ⟨by rw [e28, gsi_ne (by decide), e23, gsi_ne (by decide)]; exact w5, fun e => by omega, fun _ => ⟨by rw [e28, gsi_ne (by decide), e23, gsi_eq]; exact hv3, by rw [e28, gsi_ne (by decide), e23, gsi_ne (by decide)]; exact fq2 2 (by decide) (by decide)⟩⟩⟩
theorem headFault_v {q c kd : Nat} {ob os : Bool} {u : Sg} (hg : gr u 4 3 = q) (h9 : gi u q 9 = nI c) (hc : c ≤ 24) (hb : gi u q 2 = -1 ↔ ob = false) (hs : gi u q 4 = -1 ↔ os = false) (hk : kd < 40) : pf_ (fX2_headFault (nI kd) u) (fun r => r.2 = u ∧ r.1 = nI (hf_ c ob os kd)) := by
  generalize hQ : (fun r : Int32 × Sg => r.2 = u ∧ r.1 = nI (hf_ c ob os kd)) = Q
  have fin : ∀ m : Nat, m = hf_ c ob os kd → pf_ (some (nI m, u)) Q := fun m e => pf_some (by rw [← hQ]; exact ⟨rfl, by rw [e]⟩)
  unfold fX2_headFault
  refine pf_ifi (show nI kd < 19 ↔ kd < 19 from nI_lti (b := 19) (by omega) (by omega)) (fun e => fin 1 (by unfold hf_; rw [if_pos (Or.inl e)])) (fun e => ?_)
  refine pf_ifi (show nI kd ≤ 23 ↔ kd ≤ 23 from nI_lei (b := 23) (by omega) (by omega)) (fun e2 => ?_) (fun e2 => fin 1 (by unfold hf_; rw [if_pos (Or.inr (by omega))]))
  rw [hg]
  refine pf_jn (fun kk => ¬ (kd = 19 ∧ ob = true) → pf_ kk Q) (fun n1 => ?_) (fun k1 hk1 => ?_)
  · refine pf_jn (fun kk => ¬ (kd = 20 ∧ os = true) → pf_ kk Q) (fun n2 => ?_) (fun k2 hk2 => ?_)
    · refine pf_bv (fun q3 e3 => ?_)
      rw [e3]
      refine pf_chk (fun _ => ?_)
      rw [h9]
      refine pf_ifi (show nI c = 24 ↔ c = 24 from nI_eqi (b := 24) (by omega) (by omega)) (fun e3 => fin 6 ?_) (fun e3 => fin 0 ?_)
      · unfold hf_
        rw [if_neg (by omega), if_neg (fun h => h.elim n1 n2), if_pos e3]
      · unfold hf_
        rw [if_neg (by omega), if_neg (fun h => h.elim n1 n2), if_neg e3]
    · refine pf_ifi (show nI kd = 20 ↔ kd = 20 from nI_eqi (b := 20) (by omega) (by omega)) (fun e3 => ?_) (fun e3 => hk2 (fun h => e3 h.1))
      refine pf_bv (fun q5 e5 => ?_)
      rw [e5]
      refine pf_chk (fun _ => pf_ifi hs (fun eo => hk2 (fun h => by rw [eo] at h; exact nomatch h.2)) (fun eo => fin 4 ?_))
      unfold hf_
      rw [if_neg (by omega), if_pos (Or.inr ⟨e3, by cases os with | false => exact absurd rfl eo | true => rfl⟩)]
  · refine pf_ifi (show nI kd = 19 ↔ kd = 19 from nI_eqi (b := 19) (by omega) (by omega)) (fun e3 => ?_) (fun e3 => hk1 (fun h => e3 h.1))
    refine pf_bv (fun q5 e5 => ?_)
    rw [e5]
    refine pf_chk (fun _ => pf_ifi hb (fun eo => hk1 (fun h => by rw [eo] at h; exact nomatch h.2)) (fun eo => fin 4 ?_))
    unfold hf_
    rw [if_neg (by omega), if_pos (Or.inl ⟨e3, by cases ob with | false => exact absurd rfl eo | true => rfl⟩)]
