/-! weights of the model: from every state -/
def okW_ (n : Nat) : Bool := match wsr_ n 5 1 with
  | none => false
  | some (K, st) => decide (st.length = K) && decide (K ≤ 4)
theorem okW_all : ∀ n, n < 41 → 1 ≤ n → okW_ n = true := by decide +kernel
theorem okW_x {n : Nat} (h : n < 41) (h1 : 1 ≤ n) : ∃ K st, wsr_ n 5 1 = some (K, st) ∧ st.length = K ∧ K ≤ 4 := by
  have hc := okW_all n h h1
  unfold okW_ at hc
  cases hw : wsr_ n 5 1 with
  | none => rw [hw] at hc; cases hc
  | some q =>
    obtain ⟨K, st⟩ := q
    rw [hw] at hc
    simp only [Bool.and_eq_true, decide_eq_true_eq] at hc
    exact ⟨K, st, rfl, hc.1, hc.2⟩
theorem n_of_in {a : Int32} (h : inR a 1 40 = true) : ∃ n, 1 ≤ n ∧ n < 41 ∧ a = nI n := by
  obtain ⟨g1, g2⟩ := inR_iff.mp h
  have e1 : (1 : Int32).toInt = 1 := rfl
  have e2 : (40 : Int32).toInt = 40 := rfl
  exact ⟨a.toInt.toNat, by omega, by omega, Int32.toInt_inj.mp (by rw [nI_toInt (by omega)]; omega)⟩
theorem k10_w {s t : Sg} (h : I10_ s) (h1 : ∀ k, k ≠ 45 → k ≠ 46 → k ≠ 47 → gi t k = gi s k) (h2 : t.2 = s.2) : K10_ s t := by
  refine ⟨⟨fun k j => ?_, fun k hk => h1 k (by omega) (by omega) (by omega), by rw [h2], h1 30 (by decide) (by decide) (by decide)⟩, h1 29 (by decide) (by decide) (by decide), fun j _ => by rw [h1 28 (by decide) (by decide) (by decide)]⟩
  by_cases e5 : k = 45
  · subst e5; exact trivial
  by_cases e6 : k = 46
  · subst e6; exact trivial
  by_cases e7 : k = 47
  · subst e7; exact trivial
  rw [h1 k e5 e6 e7]; exact h k j
theorem weights_ok {s : Sg} {a b : Int32} (h : I10_ s) : wp_ (fX10_weights a b s) (fun q => K10_ s q.2) := by
  cases h1 : inR a 1 40 with
  | false =>
    unfold fX10_weights
    refine wp_bnd_e (isIn_eq _ _ _ _) ?_
    rw [h1]
    exact wp_if_i (fun _ => wp_some_i (K10_.rf h)) (fun e => absurd rfl e)
  | true =>
    obtain ⟨n, hn1, hn, rfl⟩ := n_of_in h1
    obtain ⟨K, st, hw, hl, hK⟩ := okW_x hn hn1
    obtain ⟨t, f1, f2, e10⟩ := weights10 n hn1 (by omega) K st (by omega) hw hl b s
    rw [e10]
    exact wp_some_i (k10_w h f1 f2)
/-! all that is wanted of a state for every call to return -/
def M_ (σ : Sg) : Prop := I9_ σ ∧ I10_ σ ∧ VA_ σ
theorem VA_0 : VA_ s0_ := by
  intro q hq
  refine ⟨0, ?_, by decide, fun k hk => absurd hk (by omega)⟩
  show (z_all 30 (680 * q)).toInt = _
  rfl
theorem M_0 : M_ s0_ := ⟨I9_0, I10_0, VA_0⟩
theorem M_.c {s t : Sg} (h : M_ s) (g : H9_ s t) : M_ t := ⟨g.1, g.i10 h.2.1, fun q hq => by rw [g.2 30 (by decide) (by decide)]; exact h.2.2 q hq⟩
theorem M_.x {s t : Sg} (h : M_ s) (g : X10_ s t) : M_ t := by
  refine ⟨?_, g.1, g.2.2.2⟩
  have hr : ∀ k j, gr t k j = gr s k j := fun k j => congrFun (congrFun g.2.2.1 k) j
  refine ⟨fun k j => ?_, by rw [hr]; exact h.1.2.1, by rw [hr]; exact h.1.2.2⟩
  by_cases hk : k < 27 ∨ 48 ≤ k
  · rw [g.2.1 k hk]; exact h.1.1 k j
  · unfold Bd9_
    split <;> first | omega | exact trivial
theorem M_.n {s t : Sg} (h : M_ s) (g : N10_ s t) : M_ t := h.x (g.x h.2.2)
theorem H9_.rf {s : Sg} (h : I9_ s) : H9_ s s := ⟨h, fun _ _ _ => rfl⟩
theorem wp_and {β : Type} {f : Option β} {P Q : β → Prop} (h1 : wp_ f P) (h2 : wp_ f Q) : wp_ f (fun o => P o ∧ Q o) := by
  cases f with
  | none => exact h1
  | some o => exact ⟨h1, h2⟩
theorem step_u {α β : Type} {f : Option (α × Sg)} {g : Sg → Option (β × Sg)} {J1 J : Sg → Prop} (h1 : wp_ f (fun q => J1 q.2)) (h2 : ∀ s, J1 s → wp_ (g s) (fun q => J q.2)) : ∃ t, (bnd f fun _ s => bnd (g s) fun _ s2 => some s2) = some t ∧ J t := by
  have : wp_ (bnd f fun _ s => bnd (g s) fun _ s2 => some s2) J := wp_bnd_i h1 (fun r s hs => wp_bnd_i (h2 s hs) (fun r2 s2 hs2 => wp_some_i hs2))
  exact wp_ex this
theorem step_c {α : Type} [DecidableEq α] {f : Option (α × Sg)} {g : Sg → Option (α × Sg)} {J1 : α → Sg → Prop} {J : Sg → Prop} (h1 : wp_ f (fun q => J1 q.1 q.2)) (h2 : ∀ r s, J1 r s → wp_ (g s) (fun q => q.1 = r ∧ J q.2)) : ∃ t, (bnd f fun r s => bnd (g s) fun r2 s2 => chk (decide (r = r2)) (some s2)) = some t ∧ J t := by
  have : wp_ (bnd f fun r s => bnd (g s) fun r2 s2 => chk (decide (r = r2)) (some s2)) J := wp_bnd_i h1 (fun r s hs => wp_bnd_i (h2 r s hs) (fun r2 s2 hs2 => by
    refine wp_chk_i ?_ (wp_some_i hs2.2)
    rw [decide_eq_true_eq]
    exact hs2.1.symm))
  exact wp_ex this
theorem m9_g {β : Type} {f : Option (β × Sg)} {s : Sg} (h : M_ s) (w : wp_ f (fun q => G9_ s q.2)) : wp_ f (fun q => M_ q.2) := wp_mono w (fun _ g => h.c g.h)
theorem m9_h {β : Type} {f : Option (β × Sg)} {s : Sg} (h : M_ s) (w : wp_ f (fun q => H9_ s q.2)) : wp_ f (fun q => M_ q.2) := wp_mono w (fun _ g => h.c g)
theorem m9_e {β : Type} {f : Option (β × Sg)} {s : Sg} (h : M_ s) (w : wp_ f (fun q => q.2 = s)) : wp_ f (fun q => M_ q.2) := wp_mono w (fun _ g => by rw [g]; exact h)
theorem m10_n {β : Type} {f : Option (β × Sg)} {s : Sg} (h : M_ s) (w : wp_ f (fun q => N10_ s q.2)) : wp_ f (fun q => M_ q.2) := wp_mono w (fun _ g => h.n g)
theorem m10_k {β : Type} {f : Option (β × Sg)} {s : Sg} (h : M_ s) (w : wp_ f (fun q => K10_ s q.2)) : wp_ f (fun q => M_ q.2) := wp_mono w (fun _ g => h.n g.1)
theorem m10_b {β : Type} {f : Option (β × Sg)} {s : Sg} (h : M_ s) (w : wp_ f (fun q => B10_ s q.2)) : wp_ f (fun q => M_ q.2) := wp_mono w (fun _ g => h.n g.1)
theorem m10_x {β : Type} {f : Option (β × Sg)} {s : Sg} (h : M_ s) (w : wp_ f (fun q => X10_ s q.2)) : wp_ f (fun q => M_ q.2) := wp_mono w (fun _ g => h.x g)
