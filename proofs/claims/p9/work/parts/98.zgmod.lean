/-! the model's reader: its pile -/
def cm_ (x : Nat) : Nat := if x = 0 then 40 else if x = 14 then 2 else x - 7
/-- only the pile, the code and what counts them is written: no token moved -/
def MG_ (s t : Sg) : Prop := (∀ k, k ≠ 27 → k ≠ 30 → k ≠ 32 → gi t k = gi s k) ∧ (∀ j, j ≠ 14 → j ≠ 17 → j ≠ 18 → j ≠ 19 → gi t 27 j = gi s 27 j) ∧ t.2 = s.2
theorem MG_.rf {s : Sg} : MG_ s s := ⟨fun _ _ _ _ => rfl, fun _ _ _ _ _ => rfl, rfl⟩
theorem MG_.tr {s t u : Sg} (h1 : MG_ s t) (h2 : MG_ t u) : MG_ s u := ⟨fun k a b c => by rw [h2.1 k a b c, h1.1 k a b c], fun j a b c d => by rw [h2.2.1 j a b c d, h1.2.1 j a b c d], by rw [h2.2.2, h1.2.2]⟩
/-- and tokens -/
def MF_ (s t : Sg) : Prop := (∀ k, k ≠ 27 → k ≠ 30 → k ≠ 32 → gi t k = gi s k) ∧ (∀ j, (j < 7 ∨ 10 < j) → j ≠ 14 → j ≠ 17 → j ≠ 18 → j ≠ 19 → gi t 27 j = gi s 27 j) ∧ t.2.2 = s.2.2
theorem MF_.rf {s : Sg} : MF_ s s := ⟨fun _ _ _ _ => rfl, fun _ _ _ _ _ _ => rfl, rfl⟩
theorem MF_.tr {s t u : Sg} (h1 : MF_ s t) (h2 : MF_ t u) : MF_ s u := ⟨fun k a b c => by rw [h2.1 k a b c, h1.1 k a b c], fun j a b c d e => by rw [h2.2.1 j a b c d e, h1.2.1 j a b c d e], by rw [h2.2.2, h1.2.2]⟩
theorem MG_.mf {s t : Sg} (h : MG_ s t) : MF_ s t := ⟨h.1, fun j _ b c d e => h.2.1 j b c d e, by rw [h.2.2]⟩
theorem NT_.mf {s t : Sg} (h : NT_ s t) : MF_ s t := ⟨fun k a _ _ => h.1 k a, fun j a _ _ _ _ => h.2.1 j a, h.2.2⟩
theorem MF_.tp {B : Nat → Int} {n : Nat} {s t : Sg} (h : MF_ s t) (hp : TPm_ B n s) : TPm_ B n t := ⟨by rw [h.2.1 4 (by decide) (by decide) (by decide) (by decide) (by decide)]; exact hp.1, hp.2.1, fun k hk => by rw [h.1 31 (by decide) (by decide) (by decide)]; exact hp.2.2.1 k hk, hp.2.2.2⟩
theorem MK_.of {kd nm : Nat} {s t : Sg} (h : MK_ kd nm s) (e9 : gi t 27 9 = gi s 27 9) (e10 : gi t 27 10 = gi s 27 10) (eg : gl t 27 11 = gl s 27 11) : MK_ kd nm t := by
  unfold MK_ at h ⊢
  rw [e9, e10, eg]
  exact h
theorem MG_.lg {s t : Sg} (h : MG_ s t) (k j : Nat) : gl t k j = gl s k j := by unfold gl; rw [h.2.2]
theorem MG_.mk {kd nm : Nat} {s t : Sg} (h : MG_ s t) (m : MK_ kd nm s) : MK_ kd nm t := m.of (h.2.1 9 (by decide) (by decide) (by decide) (by decide)) (h.2.1 10 (by decide) (by decide) (by decide) (by decide)) (h.lg 27 11)
theorem MG_.mt {B : Nat → Int} {n p : Nat} {s t : Sg} (h : MG_ s t) (m : Mt_ B n p s) : Mt_ B n p t := by
  obtain ⟨kd, st, nx, nm, a, b, c, d, e⟩ := m
  exact ⟨kd, st, nx, nm, a, b, by rw [h.2.1 8 (by decide) (by decide) (by decide) (by decide)]; exact c, by rw [h.2.1 7 (by decide) (by decide) (by decide) (by decide)]; exact d, h.mk e⟩
/-- code written -/
theorem emit10_v (a b : Int32) (s : Sg) : pf_ (fX10_emit a b s) (fun t => MG_ s t ∧ gi t 32 = gi s 32 ∧ ∀ j, j ≠ 14 → gi t 27 j = gi s 27 j) := by
  unfold fX10_emit
  refine pf_chk (fun _ => pf_bv (fun s2 e2 => pf_chk (fun _ => pf_bv (fun s4 e4 => pf_bv (fun s5 e5 => pf_some ?_)))))
  refine ⟨⟨fun k x y _ => by rw [e5, gsi_f x, e4, gsi_f y, e2, gsi_f y], fun j x _ _ _ => by rw [e5, gsi_ne x, e4, gsi_k (by decide), e2, gsi_k (by decide)], by rw [e5, e4, e2]; rfl⟩, by rw [e5, gsi_f (by decide), e4, gsi_f (by decide), e2, gsi_f (by decide)], fun j x => by rw [e5, gsi_ne x, e4, gsi_k (by decide), e2, gsi_k (by decide)]⟩
theorem push10_v {m : Nat} {x : Int32} {s : Sg} (h : gi s 27 17 = nI m) (hm : m < 2 ^ 31) : pf_ (fX10_push x s) (fun t => MG_ s t ∧ gi t 27 17 = nI (m + 1) ∧ gi t 32 m = x ∧ (∀ i, i ≠ m → gi t 32 i = gi s 32 i) ∧ ∀ j, j ≠ 17 → gi t 27 j = gi s 27 j) := by
  unfold fX10_push
  rw [h, ix_nI hm]
  refine pf_chk (fun _ => pf_bv (fun s2 e2 => pf_bv (fun s3 e3 => pf_some ?_)))
  have h2 : gi s2 27 17 = nI m := by rw [e2, gsi_k (by decide)]; exact h
  rw [h2, nI_1] at e3
  exact ⟨⟨fun k x _ y => by rw [e3, gsi_f x, e2, gsi_f y], fun j _ y _ _ => by rw [e3, gsi_ne y, e2, gsi_k (by decide)], by rw [e3, e2]; rfl⟩, by rw [e3, gsi_eq], by rw [e3, gsi_k (by decide), e2, gsi_eq], fun i hi => by rw [e3, gsi_k (by decide), e2, gsi_ne hi], fun j hj => by rw [e3, gsi_ne hj, e2, gsi_k (by decide)]⟩
/-- the pile settled: down to 3 (a = 3) or 5 (a = 5) -/
theorem settle10_v {W : List Nat} {S : List Bool} {t m a : Nat} {s : Sg} (ha : a = 3 ∨ a = 5) (hS : Sh_ [] W S t) (ht : t ≠ 1) (hW : Wl_ (gi s 32) (W.map cm_) m) (h17 : gi s 27 17 = nI m) (hm : m < 1000) : pf_ (fX10_settle (nI a) s) (fun v => MG_ s v ∧ (∀ j, j ≠ 14 → j ≠ 17 → gi v 27 j = gi s 27 j) ∧ ∃ W' t' m', Sh_ [] W' S t' ∧ (a = 3 → t' = 0) ∧ (t' = 0 ∨ t' = 2) ∧ Wl_ (gi v 32) (W'.map cm_) m' ∧ gi v 27 17 = nI m' ∧ m' ≤ m) := by
  generalize hQ : (fun v : Sg => MG_ s v ∧ (∀ j, j ≠ 14 → j ≠ 17 → gi v 27 j = gi s 27 j) ∧ ∃ W' t' m', Sh_ [] W' S t' ∧ (a = 3 → t' = 0) ∧ (t' = 0 ∨ t' = 2) ∧ Wl_ (gi v 32) (W'.map cm_) m' ∧ gi v 27 17 = nI m' ∧ m' ≤ m) = Q
  unfold fX10_settle
  refine pf_lo1 (fun v => MG_ s v ∧ (∀ j, j ≠ 14 → j ≠ 17 → gi v 27 j = gi s 27 j) ∧ ∃ W' t' m', Sh_ [] W' S t' ∧ t' ≠ 1 ∧ Wl_ (gi v 32) (W'.map cm_) m' ∧ gi v 27 17 = nI m' ∧ m' ≤ m) ?_ FU s ⟨MG_.rf, fun _ _ _ => rfl, W, t, m, hS, ht, hW, h17, Nat.le_refl _⟩
  rintro rec v ⟨g, f, W', t', m', h1, h2, h3, h4, h5⟩ hr
  unfold fX10_settle_0_b
  rw [h4]
  cases W' with
  | nil =>
    obtain ⟨_, e1, e2⟩ := h1
    have e3 : m' = 0 := h3
    refine pf_ifi (show nI m' ≤ 0 ↔ m' ≤ 0 from nI_lei (b := 0) (by omega) (by omega)) (fun _ => pf_some ?_) (fun e => by omega)
    rw [← hQ]
    exact ⟨g, f, [], 0, m', ⟨rfl, e1, rfl⟩, fun _ => rfl, Or.inl rfl, h3, h4, h5⟩
  | cons x W1 =>
    obtain ⟨m1, rfl, hx, h3'⟩ := h3
    refine pf_ifi (show nI (m1 + 1) ≤ 0 ↔ m1 + 1 ≤ 0 from nI_lei (b := 0) (by omega) (by omega)) (fun e => by omega) (fun _ => ?_)
    rw [nI_pr (show 0 < m1 + 1 by omega), show m1 + 1 - 1 = m1 by omega, ix_nI (show m1 < 2 ^ 31 by omega), hx]
    refine pf_chk (fun _ => ?_)
    have h1' := h1
    have stop : (a = 3 → t' = 0) → (t' = 0 ∨ t' = 2) → pf_ (some v) Q := fun b1 b2 => pf_some (by
      rw [← hQ]
      exact ⟨g, f, x :: W1, t', m1 + 1, h1', b1, b2, ⟨m1, rfl, hx, h3'⟩, h4, h5⟩)
    have pop : ∀ t2, Sh_ [] W1 S t2 → t2 ≠ 1 → pf_ (bv (si v 27 17 (nI m1)) fun s_3 => chk (inb 160 (gi s_3 27 17)) <| bnv (fX10_emit (gi s_3 32 (ix (gi s_3 27 17))) 0 s_3) fun s_5 => rec s_5) Q := by
      intro t2 hs2 ht2
      refine pf_bv (fun s3 e3 => pf_chk (fun _ => pf_bnv (emit10_v _ _ s3) (fun s5 h5' => hr s5 ?_)))
      obtain ⟨b1, b2, b3⟩ := h5'
      have g3 : MG_ v s3 := by rw [e3]; exact ⟨fun k x _ _ => by rw [gsi_f x], fun j _ y _ _ => by rw [gsi_ne y], rfl⟩
      refine ⟨(g.tr g3).tr b1, fun j x y => by rw [b3 j x, e3, gsi_ne y]; exact f j x y, W1, t2, m1, hs2, ht2, ?_, by rw [b3 17 (by decide), e3, gsi_eq], by omega⟩
      rw [b2, e3, gsi_f (by decide)]
      exact h3'
    rcases h1 with ⟨ex, et, S', t2, _, _⟩ | ⟨ex, et, _⟩ | ⟨ex, et, hs⟩ | ⟨ex, et, t2, ht2, hs⟩ | ⟨_, ex, _⟩
    · rw [ex, if_pos (show (40 : Int32) ≤ nI (cm_ 0) by decide +kernel)]
      exact stop (fun _ => et) (Or.inl et)
    · exact absurd et h2
    · have hc : nI (cm_ x) = 3 ∨ nI (cm_ x) = 4 := by
        rcases ex with e | e
        · left; rw [e]; rfl
        · right; rw [e]; rfl
      rw [if_neg (show ¬ (40 : Int32) ≤ nI (cm_ x) by rcases hc with e | e <;> rw [e] <;> decide +kernel)]
      rcases ha with rfl | rfl
      · rw [if_neg (show ¬ nI (cm_ x) < nI 3 by rcases hc with e | e <;> rw [e] <;> decide +kernel)]
        exact pop 0 hs (by decide)
      · rw [if_pos (show nI (cm_ x) < nI 5 by rcases hc with e | e <;> rw [e] <;> decide +kernel)]
        exact stop (fun e => by omega) (Or.inr et)
    · have hc : nI (cm_ x) = 5 ∨ nI (cm_ x) = 6 := by
        rcases ex with e | e
        · left; rw [e]; rfl
        · right; rw [e]; rfl
      rw [if_neg (show ¬ (40 : Int32) ≤ nI (cm_ x) by rcases hc with e | e <;> rw [e] <;> decide +kernel), if_neg (show ¬ nI (cm_ x) < nI a by rcases ha with e' | e' <;> rw [e'] <;> rcases hc with e | e <;> rw [e] <;> decide +kernel)]
      exact pop t2 hs (by omega)
    · exact nomatch ex
/-- behind an operand: the minuses before it are written -/
theorem whole10_v {W : List Nat} {S : List Bool} {t m nots : Nat} {s : Sg} (hS : Sh_ [] W S t) (hW : Wl_ (gi s 32) (W.map cm_) m) (h17 : gi s 27 17 = nI m) (hm : m < 1000) (h18 : gi s 27 18 = nI (S.length + nots)) (h8 : S.length + nots ≤ 8) : pf_ (fX10_whole s) (fun v => MG_ s v ∧ gi v 27 19 = b2i true ∧ gi v 27 18 = nI ((popN_ S).length + nots) ∧ (popN_ S).length ≤ S.length ∧ ∃ W' t' m', Sh_ [] W' (popN_ S) t' ∧ t' ≠ 1 ∧ Wl_ (gi v 32) (W'.map cm_) m' ∧ gi v 27 17 = nI m' ∧ m' ≤ m) := by
  generalize hQ : (fun v : Sg => MG_ s v ∧ gi v 27 19 = b2i true ∧ gi v 27 18 = nI ((popN_ S).length + nots) ∧ (popN_ S).length ≤ S.length ∧ ∃ W' t' m', Sh_ [] W' (popN_ S) t' ∧ t' ≠ 1 ∧ Wl_ (gi v 32) (W'.map cm_) m' ∧ gi v 27 17 = nI m' ∧ m' ≤ m) = Q
  unfold fX10_whole
  refine pf_bv (fun s1 e1 => ?_)
  have g1 : MG_ s s1 := by rw [e1]; exact ⟨fun k x _ _ => by rw [gsi_f x], fun j _ _ _ y => by rw [gsi_ne y], rfl⟩
  refine pf_lo1 (fun v => MG_ s v ∧ gi v 27 19 = b2i true ∧ ∃ W' S' t' m', Sh_ [] W' S' t' ∧ popN_ S' = popN_ S ∧ S'.length ≤ S.length ∧ gi v 27 18 = nI (S'.length + nots) ∧ Wl_ (gi v 32) (W'.map cm_) m' ∧ gi v 27 17 = nI m' ∧ m' ≤ m) ?_ FU s1 ⟨g1, by rw [e1, gsi_eq], W, S, t, m, hS, rfl, Nat.le_refl _, by rw [e1, gsi_ne (by decide)]; exact h18, by rw [e1, gsi_f (by decide)]; exact hW, by rw [e1, gsi_ne (by decide)]; exact h17, Nat.le_refl _⟩
  rintro rec v ⟨g, v19, W', S', t', m', h1, h2, h3, h4, h5, h6, h7⟩ hr
  unfold fX10_whole_5_b
  rw [h6]
  have stop : t' ≠ 1 → pf_ (some v) Q := fun ht => pf_some (by
    have e := Sh_pop h1 ht
    rw [h2] at e
    rw [← hQ, e]
    exact ⟨g, v19, h4, h3, W', t', m', h1, ht, h5, h6, h7⟩)
  cases W' with
  | nil =>
    have e3 : m' = 0 := h5
    refine pf_ifi (show nI m' ≤ 0 ↔ m' ≤ 0 from nI_lei (b := 0) (by omega) (by omega)) (fun _ => stop ?_) (fun e => by omega)
    have := h1.2.2
    omega
  | cons x W1 =>
    obtain ⟨m1, rfl, hx, h5'⟩ := h5
    refine pf_ifi (show nI (m1 + 1) ≤ 0 ↔ m1 + 1 ≤ 0 from nI_lei (b := 0) (by omega) (by omega)) (fun e => by omega) (fun _ => ?_)
    rw [nI_pr (show 0 < m1 + 1 by omega), show m1 + 1 - 1 = m1 by omega, ix_nI (show m1 < 2 ^ 31 by omega), hx]
    refine pf_chk (fun _ => ?_)
    rcases h1 with ⟨ex, et, _⟩ | ⟨ex, et, S2, t2, eS, hs⟩ | ⟨ex, et, _⟩ | ⟨ex, et, _⟩ | ⟨_, ex, _⟩
    · rw [ex, if_neg (show ¬ nI (cm_ 0) = 2 by decide +kernel)]
      exact stop (by omega)
    · rw [ex, if_pos (show nI (cm_ 14) = 2 from rfl)]
      refine pf_bv (fun s4 e4 => pf_bv (fun s5 e5 => ?_))
      have l2 : S'.length = S2.length + 1 := by rw [eS]; rfl
      have h418 : gi s4 27 18 = nI (S'.length + nots) := by rw [e4, gsi_ne (by decide)]; exact h4
      rw [h418, nI_pr (by omega), show S'.length + nots - 1 = S2.length + nots by omega] at e5
      refine pf_bnv (emit10_v _ _ s5) (fun s6 h6' => hr s6 ?_)
      obtain ⟨b1, b2, b3⟩ := h6'
      have g5 : MG_ v s5 := by rw [e5, e4]; exact ⟨fun k x _ _ => by rw [gsi_f x, gsi_f x], fun j _ y z _ => by rw [gsi_ne z, gsi_ne y], rfl⟩
      refine ⟨(g.tr g5).tr b1, by rw [b3 19 (by decide), e5, gsi_ne (by decide), e4, gsi_ne (by decide)]; exact v19, W1, S2, t2, m1, hs, by rw [← h2, eS]; rfl, by omega, by rw [b3 18 (by decide), e5, gsi_eq], ?_, by rw [b3 17 (by decide), e5, gsi_ne (by decide), e4, gsi_eq], by omega⟩
      rw [b2, e5, gsi_f (by decide), e4, gsi_f (by decide)]
      exact h5'
    · rw [if_neg (show ¬ nI (cm_ x) = 2 by rcases ex with e | e <;> rw [e] <;> decide +kernel)]
      exact stop (by omega)
    · rw [if_neg (show ¬ nI (cm_ x) = 2 by rcases ex with e | e <;> rw [e] <;> decide +kernel)]
      exact stop (by omega)
    · exact nomatch ex
