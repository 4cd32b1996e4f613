/-! texts, tape and fault of class and model alike -/
def TR_ (σ : Sg) : Prop := (∃ B n, TPc_ B n σ ∧ TPm_ B n σ) ∧ gi σ 1 11 = gi σ 28 7 ∧ gi σ 2 11 = gi σ 29 7 ∧ gi σ 4 4 = gi σ 27 5 ∧ gi σ 4 5 = gi σ 27 6
def U_ (σ : Sg) : Prop := M_ σ ∧ TR_ σ
theorem TPc_.of {B : Nat → Int} {n : Nat} {s t : Sg} (h : TPc_ B n s) (e1 : gi t 3 1 = gi s 3 1) (e2 : ∀ k, gi t 17 k = gi s 17 k) : TPc_ B n t := ⟨by rw [e1]; exact h.1, h.2.1, fun k hk => by rw [e2]; exact h.2.2.1 k hk, h.2.2.2⟩
theorem TPm_.of {B : Nat → Int} {n : Nat} {s t : Sg} (h : TPm_ B n s) (e1 : gi t 27 4 = gi s 27 4) (e2 : ∀ k, gi t 31 k = gi s 31 k) : TPm_ B n t := ⟨by rw [e1]; exact h.1, h.2.1, fun k hk => by rw [e2]; exact h.2.2.1 k hk, h.2.2.2⟩
theorem TR9_ok {s t : Sg} (h : TR_ s) (g : ∀ k, 27 ≤ k → k < 48 → gi t k = gi s k) (f : FT_ s t) : TR_ t := by
  obtain ⟨⟨B, n, b1, b2⟩, a1, a2, a3, a4⟩ := h
  refine ⟨⟨B, n, b1.of (f 3 1 rfl) (fun k => f 17 k rfl), b2.of (by rw [g 27 (by decide) (by decide)]) (fun k => by rw [g 31 (by decide) (by decide)])⟩, ?_, ?_, ?_, ?_⟩
  · rw [f 1 11 rfl, g 28 (by decide) (by decide)]; exact a1
  · rw [f 2 11 rfl, g 29 (by decide) (by decide)]; exact a2
  · rw [f 4 4 rfl, g 27 (by decide) (by decide)]; exact a3
  · rw [f 4 5 rfl, g 27 (by decide) (by decide)]; exact a4
def KT_ (s t : Sg) : Prop := (∀ k, k < 27 → gi t k = gi s k) ∧ gi t 29 7 = gi s 29 7 ∧ gi t 28 7 = gi s 28 7
theorem TR10_ok {s t : Sg} (h : TR_ s) (g : KT_ s t) (f : FT_ s t) : TR_ t := by
  obtain ⟨⟨B, n, b1, b2⟩, a1, a2, a3, a4⟩ := h
  refine ⟨⟨B, n, b1.of (by rw [g.1 3 (by decide)]) (fun k => by rw [g.1 17 (by decide)]), b2.of (f 27 4 rfl) (fun k => f 31 k rfl)⟩, ?_, ?_, ?_, ?_⟩
  · rw [g.1 1 (by decide), g.2.2]; exact a1
  · rw [g.1 2 (by decide), g.2.1]; exact a2
  · rw [g.1 4 (by decide), f 27 5 rfl]; exact a3
  · rw [g.1 4 (by decide), f 27 6 rfl]; exact a4
theorem u9t_ {β : Type} {f : Option (β × Sg)} {s : Sg} (h : U_ s) (w : wp_ f (fun q => H9_ s q.2)) (p : pf_ f (fun q => FT_ s q.2)) : wp_ f (fun q => U_ q.2) := wp_mono (pf_wp w p) (fun _ g => ⟨h.1.c g.1, TR9_ok h.2 g.1.2 g.2⟩)
theorem u10t_ {β : Type} {f : Option (β × Sg)} {s : Sg} (h : U_ s) (w : wp_ f (fun q => M_ q.2)) (k : wp_ f (fun q => KT_ s q.2)) (p : pf_ f (fun q => FT_ s q.2)) : wp_ f (fun q => U_ q.2) := wp_mono (pf_wp (wp_and w k) p) (fun _ g => ⟨g.1.1, TR10_ok h.2 g.1.2 g.2⟩)
theorem KK_.kt {s t : Sg} (h : KK_ s t) : KT_ s t := ⟨h.1, by rw [h.2.1], h.2.2 7 (Or.inr (Or.inr (Or.inr rfl)))⟩
theorem kt_k {β : Type} {f : Option (β × Sg)} {s : Sg} (w : wp_ f (fun q => KK_ s q.2)) : wp_ f (fun q => KT_ s q.2) := wp_mono w (fun _ g => g.kt)
theorem kt_thing {a b : Int32} {s : Sg} (h : I10_ s) : wp_ (fX10_thing a b s) (fun q => KT_ s q.2) := by
  refine wp_mono (thing10_v h) (fun q hq => ?_)
  cases e : thok_ (gi s 28 0) a b with
  | true =>
    obtain ⟨_, _, _, c4, c5, c6⟩ := hq.1 e
    exact ⟨c6, by rw [c5], c4 7 (Or.inr (Or.inr (Or.inr rfl))) (by decide) (by omega)⟩
  | false =>
    rw [hq.2 e]
    exact ⟨fun _ _ => rfl, rfl, rfl⟩
theorem kt_reading {a b : Int32} {s : Sg} (h : I10_ s) (hv : VA_ s) : wp_ (fX10_reading a b s) (fun q => KT_ s q.2) := wp_mono (reading_ok h hv) (fun q hq => ⟨fun k hk => hq.1.1.2.1 k (Or.inl hk), by rw [hq.1.2.1], hq.1.2.2 7 (Or.inr (Or.inr (Or.inr rfl))) (by decide)⟩)
theorem kt_forget {s : Sg} (h : I10_ s) : wp_ (fX10_forget s) (fun q => KT_ s q.2) := by
  refine wp_mono (pf_wp (tX10_forget s h) (Q := fun q : Int32 × Sg => q.2 = si s 28 10 0) ?_) (fun q hq => ?_)
  · unfold fX10_forget
    rw [ixl_10]
    exact pf_bv (fun v _ => pf_bv (fun t et => pf_some et))
  · rw [hq.2]
    exact ⟨fun k hk => gsi_f (by omega), by rw [gsi_k (by decide)], by rw [gsi_ne (by decide)]⟩
/-- a call on both sides: the answers are the same, and the relation holds behind it -/
def Sy_ {α : Type} (f : Option (α × Sg)) (g : Sg → Option (α × Sg)) : Prop := ∃ J1 : α × Sg → Prop, wp_ f J1 ∧ ∀ r s, J1 (r, s) → wp_ (g s) (fun q => q.1 = r ∧ U_ q.2)
theorem sy_c {α : Type} [DecidableEq α] {f : Option (α × Sg)} {g : Sg → Option (α × Sg)} (h : Sy_ f g) : ∃ t, (bnd f fun r s => bnd (g s) fun r2 s2 => chk (decide (r = r2)) (some s2)) = some t ∧ U_ t := by
  obtain ⟨J1, h1, h2⟩ := h
  exact step_c (J1 := fun r s => J1 (r, s)) h1 h2
theorem sy_u {α : Type} {f : Option (α × Sg)} {g : Sg → Option (α × Sg)} (h : Sy_ f g) : ∃ t, (bnd f fun _ s => bnd (g s) fun _ s2 => some s2) = some t ∧ U_ t := by
  obtain ⟨J1, h1, h2⟩ := h
  obtain ⟨t, e, b, r, _, j⟩ := step_cu (J1 := fun r s => J1 (r, s)) (J := fun q r t => q = r ∧ U_ t) h1 h2
  exact ⟨t, e, j⟩
theorem TR_0 : TR_ s0_ := by
  have z : ∀ j, j ≠ 8 → j ≠ 2 → j ≠ 1 → z_28 j = 0 := fun j h8 h2 h1 => by unfold z_28; rw [upd_ne h8, upd_ne h2, upd_ne h1]
  refine ⟨⟨fun _ => -1, 0, ⟨?_, by decide, fun k hk => absurd hk (by omega), fun _ _ => rfl⟩, ⟨?_, by decide, fun k hk => absurd hk (by omega), fun _ _ => rfl⟩⟩, ?_, ?_, ?_, ?_⟩
  · rfl
  · rfl
  · exact (z 7 (by decide) (by decide) (by decide)).symm
  · exact (z 7 (by decide) (by decide) (by decide)).symm
  · rfl
  · rfl
theorem U_0 : U_ s0_ := ⟨M_0, TR_0⟩
