theorem step_cu {α β : Type} {f : Option (α × Sg)} {g : Sg → Option (β × Sg)} {J1 : α → Sg → Prop} {J : β → α → Sg → Prop} (h1 : wp_ f (fun q => J1 q.1 q.2)) (h2 : ∀ r s, J1 r s → wp_ (g s) (fun q => J q.1 r q.2)) : ∃ t, (bnd f fun _ s => bnd (g s) fun _ s2 => some s2) = some t ∧ ∃ b r, J b r t := by
  have : wp_ (bnd f fun _ s => bnd (g s) fun _ s2 => some s2) (fun t => ∃ b r, J b r t) := wp_bnd_i h1 (fun r s hs => wp_bnd_i (h2 r s hs) (fun r2 s2 hs2 => wp_some_i ⟨r2, r, hs2⟩))
  exact wp_ex this
/-- from σ to s: the class has moved, the model has not -/
def mi_ (σ s : Sg) : Prop := M_ s ∧ gi s 28 = gi σ 28 ∧ gi s 29 = gi σ 29
theorem mi_of {β : Type} {f : Option (β × Sg)} {s : Sg} (h : M_ s) (w : wp_ f (fun q => H9_ s q.2)) : wp_ f (fun q => mi_ s q.2) := wp_mono w (fun _ g => ⟨h.c g, g.2 28 (by decide) (by decide), g.2 29 (by decide) (by decide)⟩)
def T1_ (σ : Sg) (a b : Int32) (r : Int32) (s : Sg) : Prop := mi_ σ s ∧ ((thok_ (gi σ 1 6) a b = true ∧ r = gi σ 1 6 ∧ gi s 1 6 = gi σ 1 6 + 1 ∧ gi s 9 (gi σ 1 6).toInt.toNat = a ∧ (∀ i, i ≠ (gi σ 1 6).toInt.toNat → gi s 9 i = gi σ 9 i) ∧ gi s 1 17 = gi σ 1 17 ∧ gi s 2 = gi σ 2 ∧ gi s 13 = gi σ 13) ∨ (thok_ (gi σ 1 6) a b = false ∧ (r, s) = (-1, σ)))
theorem e9_1 (a b : Int32) {σ : Sg} (h : J_ σ) : wp_ (fX9_thing a b σ) (fun q => T1_ σ a b q.1 q.2) := wp_mono (pf_wp (mi_of h.1 (h9_g (tX9_thing a b σ h.1.1))) (thing9_v h.1.1)) (fun _ g => g)
theorem e10_1 (a b : Int32) {σ : Sg} (h : J_ σ) (r : Int32) (s : Sg) (hs : T1_ σ a b r s) : wp_ (fX10_thing a b s) (fun q => q.1 = r ∧ J_ q.2) := by
  obtain ⟨⟨m, g28, g29⟩, hs⟩ := hs
  obtain ⟨hm, ⟨a1, a2, a3⟩, a4, a5, a6⟩ := id h
  refine wp_mono (wp_and (c10_1 a b m) (thing10_v m.2.1)) (fun q hq => ?_)
  obtain ⟨mq, h1, h2⟩ := hq
  rw [g28, ← a1] at h1 h2
  rcases hs with ⟨ok, rfl, b6, b9, b9', b17, b2, b13⟩ | ⟨ok, e⟩
  · obtain ⟨c1, c2, c3, c4, c5, c6⟩ := h1 ok
    refine ⟨c1, mq, ⟨?_, ?_, fun i hi => ?_⟩, ?_, ?_, fun i hi => ?_⟩
    · rw [c6 1 (by decide), b6, c2]
    · rw [c6 1 (by decide), b17, c4 10 (Or.inr (Or.inl rfl)) (by decide) (by omega)]; exact a2
    · rw [c6 9 (by decide)]
      by_cases e : i = (gi σ 1 6).toInt.toNat
      · subst e; rw [b9, c3]
      · rw [b9' i e, c4 _ (kpw hi) (by omega) (by omega)]; exact a3 i hi
    · rw [c6 2 (by decide), b2, c5, g29]; exact a4
    · rw [c6 2 (by decide), b2, c5, g29]; exact a5
    · rw [c6 13 (by decide), b13, c5, g29]; exact a6 i hi
  · injection e with e1 e2
    have := h2 ok
    rw [this, e1, e2]
    exact ⟨rfl, h⟩
def T17_ (σ : Sg) (a b : Int32) (r : Int32) (s : Sg) : Prop := mi_ σ s ∧ ((rk_ (gi σ 1 17) a b = true ∧ r = gi σ 1 17 + 1 ∧ gi s 1 17 = gi σ 1 17 + 1 ∧ gi s 1 6 = gi σ 1 6 ∧ gi s 9 = gi σ 9 ∧ gi s 2 = gi σ 2 ∧ gi s 13 = gi σ 13) ∨ (rk_ (gi σ 1 17) a b = false ∧ (r, s) = (-1, σ)))
theorem e9_17 (a b : Int32) {σ : Sg} (h : J_ σ) : wp_ (fX9_reading a b σ) (fun q => T17_ σ a b q.1 q.2) := wp_mono (pf_wp (mi_of h.1 (h9_g (tX9_reading a b σ h.1.1))) (reading9_v h.1.1)) (fun _ g => g)
theorem e10_17 (a b : Int32) {σ : Sg} (h : J_ σ) (r : Int32) (s : Sg) (hs : T17_ σ a b r s) : wp_ (fX10_reading a b s) (fun q => q.1 = r ∧ J_ q.2) := by
  obtain ⟨⟨m, g28, g29⟩, hs⟩ := hs
  obtain ⟨hm, ⟨a1, a2, a3⟩, a4, a5, a6⟩ := id h
  refine wp_mono (reading_ok m.2.1 m.2.2) (fun q hq => ?_)
  obtain ⟨rq, h1, h2⟩ := hq
  have mq : M_ q.2 := m.n rq.1
  have ek : rdok_ s a b = rk_ (gi σ 1 17) a b := by unfold rdok_ rk_; rw [g28, a2]
  rw [ek, g28, ← a2] at h1
  rw [ek] at h2
  have c6 : ∀ k, k < 27 → gi q.2 k = gi s k := fun k hk => rq.1.2.1 k (Or.inl hk)
  rcases hs with ⟨ok, rfl, b17, b6, b9, b2, b13⟩ | ⟨ok, e⟩
  · obtain ⟨c1, c2⟩ := h1 ok
    refine ⟨c1, mq, ⟨?_, ?_, fun i hi => ?_⟩, ?_, ?_, fun i hi => ?_⟩
    · rw [c6 1 (by decide), b6, rq.2.2 0 (Or.inl rfl) (by decide), g28]; exact a1
    · rw [c6 1 (by decide), b17, c2]
    · rw [c6 9 (by decide), b9, rq.2.2 _ (kpw hi) (by omega), g28]; exact a3 i hi
    · rw [c6 2 (by decide), b2, rq.2.1, g29]; exact a4
    · rw [c6 2 (by decide), b2, rq.2.1, g29]; exact a5
    · rw [c6 13 (by decide), b13, rq.2.1, g29]; exact a6 i hi
  · injection e with e1 e2
    obtain ⟨c1, c2⟩ := h2 ok
    rw [c1, c2, e1, e2]
    exact ⟨rfl, h⟩
def T18_ (σ : Sg) (r : Int32) (s : Sg) : Prop := mi_ σ s ∧ r = gi σ 1 17 ∧ s = si σ 1 17 0
theorem e9_18 {σ : Sg} (h : J_ σ) : wp_ (fX9_forget σ) (fun q => T18_ σ q.1 q.2) := by
  refine wp_mono (pf_wp (mi_of h.1 (h9_g (tX9_forget σ h.1.1))) (Q := fun q : Int32 × Sg => q.1 = gi σ 1 17 ∧ q.2 = si σ 1 17 0) ?_) (fun _ g => g)
  unfold fX9_forget
  exact pf_bv (fun v ev => pf_bv (fun t et => pf_some ⟨ev, et⟩))
theorem e10_18 {σ : Sg} (h : J_ σ) (r : Int32) (s : Sg) (hs : T18_ σ r s) : wp_ (fX10_forget s) (fun q => q.1 = r ∧ J_ q.2) := by
  obtain ⟨⟨m, g28, g29⟩, hr, es⟩ := hs
  obtain ⟨hm, ⟨a1, a2, a3⟩, a4, a5, a6⟩ := id h
  refine wp_mono (pf_wp (c10_18 m) (Q := fun q : Int32 × Sg => q.1 = gi s 28 10 ∧ q.2 = si s 28 10 0) ?_) (fun q hq => ?_)
  · unfold fX10_forget
    rw [ixl_10]
    exact pf_bv (fun v ev => pf_bv (fun t et => pf_some ⟨ev, et⟩))
  · obtain ⟨mq, c1, c2⟩ := hq
    refine ⟨by rw [c1, hr, g28, a2], mq, ?_⟩
    rw [c2, es]
    refine ⟨⟨?_, ?_, fun i hi => ?_⟩, ?_, ?_, fun i hi => ?_⟩
    · rw [gsi_k (by decide), gsi_ne (by decide), gsi_ne (by decide), gsi_k (by decide)]; exact a1
    · rw [gsi_k (by decide), gsi_eq, gsi_eq]
    · rw [gsi_k (by decide), gsi_k (by decide), gsi_ne (by omega), gsi_k (by decide)]; exact a3 i hi
    · rw [gsi_k (by decide), gsi_k (by decide), gsi_k (by decide), gsi_k (by decide)]; exact a4
    · rw [gsi_k (by decide), gsi_k (by decide), gsi_k (by decide), gsi_k (by decide)]; exact a5
    · rw [gsi_k (by decide), gsi_k (by decide), gsi_k (by decide), gsi_k (by decide)]; exact a6 i hi
def T24_ (σ : Sg) (r : Int32) (s : Sg) : Prop := mi_ σ s ∧ r = gi σ 1 6 ∧ gi s 2 6 = gi σ 1 6 ∧ gi s 2 17 = gi σ 1 17 ∧ (∀ i, i < 12 → gi s 13 i = gi σ 9 i) ∧ gi s 1 6 = gi σ 1 6 ∧ gi s 1 17 = gi σ 1 17 ∧ ∀ i, i < 12 → gi s 9 i = gi σ 9 i
theorem e9_24 {σ : Sg} (h : J_ σ) : wp_ (fX9_image σ) (fun q => T24_ σ q.1 q.2) := wp_mono (pf_wp (mi_of h.1 (tX9_image σ h.1.1)) (image9_v σ)) (fun _ g => g)
set_option maxRecDepth 100000 in
theorem e10_24 {σ : Sg} (h : J_ σ) (r : Int32) (s : Sg) (hs : T24_ σ r s) : wp_ (fX10_image s) (fun q => q.1 = r ∧ J_ q.2) := by
  obtain ⟨⟨m, g28, g29⟩, hr, b1, b2, b3, b4, b5, b6⟩ := hs
  obtain ⟨hm, ⟨a1, a2, a3⟩, a4, a5, a6⟩ := id h
  refine wp_mono (wp_and (c10_24 m) (image10_v s)) (fun q hq => ?_)
  obtain ⟨mq, c1, c2, c3, c4⟩ := hq
  refine ⟨by rw [c1, hr, g28, a1], mq, ⟨?_, ?_, fun i hi => ?_⟩, ?_, ?_, fun i hi => ?_⟩
  · rw [c3 1 (by decide), b4, c2, g28]; exact a1
  · rw [c3 1 (by decide), b5, c2, g28]; exact a2
  · rw [c3 9 (by decide), b6 i hi, c2, g28]; exact a3 i hi
  · rw [c3 2 (by decide), b1, c4 0 (by decide), g28]; exact a1
  · rw [c3 2 (by decide), b2, c4 10 (by decide), g28]; exact a2
  · rw [c3 13 (by decide), b3 i hi, c4 _ (by omega), g28]; exact a3 i hi
def T25_ (σ : Sg) (r : Int32) (s : Sg) : Prop := mi_ σ s ∧ r = gi σ 2 6 ∧ gi s 1 6 = gi σ 2 6 ∧ gi s 1 17 = gi σ 2 17 ∧ (∀ i, i < 12 → gi s 9 i = gi σ 13 i) ∧ gi s 2 6 = gi σ 2 6 ∧ gi s 2 17 = gi σ 2 17 ∧ ∀ i, i < 12 → gi s 13 i = gi σ 13 i
theorem e9_25 {σ : Sg} (h : J_ σ) : wp_ (fX9_back σ) (fun q => T25_ σ q.1 q.2) := wp_mono (pf_wp (mi_of h.1 (tX9_back σ h.1.1)) (back9_v σ)) (fun _ g => g)
set_option maxRecDepth 100000 in
theorem e10_25 {σ : Sg} (h : J_ σ) (r : Int32) (s : Sg) (hs : T25_ σ r s) : wp_ (fX10_back s) (fun q => q.1 = r ∧ J_ q.2) := by
  obtain ⟨⟨m, g28, g29⟩, hr, b1, b2, b3, b4, b5, b6⟩ := hs
  obtain ⟨hm, ⟨a1, a2, a3⟩, a4, a5, a6⟩ := id h
  refine wp_mono (wp_and (c10_25 m) (back10_v s)) (fun q hq => ?_)
  obtain ⟨mq, c1, c2, c3, c4⟩ := hq
  refine ⟨by rw [c1, hr, g29, a4], mq, ⟨?_, ?_, fun i hi => ?_⟩, ?_, ?_, fun i hi => ?_⟩
  · rw [c3 1 (by decide), b1, c4 0 (by decide), g29]; exact a4
  · rw [c3 1 (by decide), b2, c4 10 (by decide), g29]; exact a5
  · rw [c3 9 (by decide), b3 i hi, c4 _ (by omega), g29]; exact a6 i hi
  · rw [c3 2 (by decide), b4, c2, g29]; exact a4
  · rw [c3 2 (by decide), b5, c2, g29]; exact a5
  · rw [c3 13 (by decide), b6 i hi, c2, g29]; exact a6 i hi
