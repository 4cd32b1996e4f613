/-! things, weights and readings alike -/
def R_ (σ : Sg) : Prop := (gi σ 1 6 = gi σ 28 0 ∧ gi σ 1 17 = gi σ 28 10 ∧ ∀ i, i < 12 → gi σ 9 i = gi σ 28 (15 + 3 * i)) ∧ gi σ 2 6 = gi σ 29 0 ∧ gi σ 2 17 = gi σ 29 10 ∧ ∀ i, i < 12 → gi σ 13 i = gi σ 29 (15 + 3 * i)
theorem R_0 : R_ s0_ := by
  have z : ∀ j, j ≠ 8 → j ≠ 2 → j ≠ 1 → z_28 j = 0 := fun j h8 h2 h1 => by unfold z_28; rw [upd_ne h8, upd_ne h2, upd_ne h1]
  refine ⟨⟨?_, ?_, fun i hi => ?_⟩, ?_, ?_, fun i hi => ?_⟩
  · exact (z 0 (by decide) (by decide) (by decide)).symm
  · exact (z 10 (by decide) (by decide) (by decide)).symm
  · exact (z (15 + 3 * i) (by omega) (by omega) (by omega)).symm
  · exact (z 0 (by decide) (by decide) (by decide)).symm
  · exact (z 10 (by decide) (by decide) (by decide)).symm
  · exact (z (15 + 3 * i) (by omega) (by omega) (by omega)).symm
theorem R9_ok {s t : Sg} (h : R_ s) (g : H9_ s t) (f : FA_ s t) : R_ t := by
  obtain ⟨⟨a1, a2, a3⟩, a4, a5, a6⟩ := h
  have g28 := g.2 28 (by decide) (by decide)
  have g29 := g.2 29 (by decide) (by decide)
  refine ⟨⟨?_, ?_, fun i hi => ?_⟩, ?_, ?_, fun i hi => ?_⟩
  · rw [f 1 6 rfl, g28]; exact a1
  · rw [f 1 17 rfl, g28]; exact a2
  · rw [f 9 i rfl, g28]; exact a3 i hi
  · rw [f 2 6 rfl, g29]; exact a4
  · rw [f 2 17 rfl, g29]; exact a5
  · rw [f 13 i rfl, g29]; exact a6 i hi
theorem kpw {i : Nat} (h : i < 12) : kp_ (15 + 3 * i) := by unfold kp_; omega
theorem R10_ok {s t : Sg} (h : R_ s) (k : KK_ s t) : R_ t := by
  obtain ⟨⟨a1, a2, a3⟩, a4, a5, a6⟩ := h
  refine ⟨⟨?_, ?_, fun i hi => ?_⟩, ?_, ?_, fun i hi => ?_⟩
  · rw [k.1 1 (by decide), k.2.2 0 (Or.inl rfl)]; exact a1
  · rw [k.1 1 (by decide), k.2.2 10 (Or.inr (Or.inl rfl))]; exact a2
  · rw [k.1 9 (by decide), k.2.2 _ (kpw hi)]; exact a3 i hi
  · rw [k.1 2 (by decide), k.2.1]; exact a4
  · rw [k.1 2 (by decide), k.2.1]; exact a5
  · rw [k.1 13 (by decide), k.2.1]; exact a6 i hi
def J_ (σ : Sg) : Prop := M_ σ ∧ R_ σ
theorem J_0 : J_ s0_ := ⟨M_0, R_0⟩
theorem j9_ {β : Type} {f : Option (β × Sg)} {s : Sg} (h : J_ s) (w : wp_ f (fun q => H9_ s q.2)) (p : pf_ f (fun q => FA_ s q.2)) : wp_ f (fun q => J_ q.2) := wp_mono (pf_wp w p) (fun _ g => ⟨h.1.c g.1, R9_ok h.2 g.1 g.2⟩)
theorem h9_g {β : Type} {f : Option (β × Sg)} {s : Sg} (w : wp_ f (fun q => G9_ s q.2)) : wp_ f (fun q => H9_ s q.2) := wp_mono w (fun _ g => g.h)
theorem h9_e {β : Type} {f : Option (β × Sg)} {s : Sg} (h : I9_ s) (w : wp_ f (fun q => q.2 = s)) : wp_ f (fun q => H9_ s q.2) := wp_mono w (fun _ g => by rw [g]; exact H9_.rf h)
theorem j10_ {β : Type} {f : Option (β × Sg)} {s : Sg} (h : J_ s) (w : wp_ f (fun q => M_ q.2)) (k : wp_ f (fun q => KK_ s q.2)) : wp_ f (fun q => J_ q.2) := wp_mono (wp_and w k) (fun _ g => ⟨g.1, R10_ok h.2 g.2⟩)
theorem KK_.rf {s : Sg} : KK_ s s := ⟨fun _ _ => rfl, rfl, fun _ _ => rfl⟩
theorem kk_e {β : Type} {f : Option (β × Sg)} {s : Sg} (w : wp_ f (fun q => q.2 = s)) : wp_ f (fun q => KK_ s q.2) := wp_mono w (fun _ g => by rw [g]; exact KK_.rf)
theorem kk_k {β : Type} {f : Option (β × Sg)} {s : Sg} (w : wp_ f (fun q => K10_ s q.2)) : wp_ f (fun q => KK_ s q.2) := wp_mono w (fun _ g => g.kk)
theorem kk_b {β : Type} {f : Option (β × Sg)} {s : Sg} (w : wp_ f (fun q => B10_ s q.2)) : wp_ f (fun q => KK_ s q.2) := wp_mono w (fun _ g => g.k.kk)
theorem kk_z {β : Type} {f : Option (β × Sg)} {s : Sg} (w : wp_ f (fun q => Z10_ s q.2)) : wp_ f (fun q => KK_ s q.2) := wp_mono w (fun _ g => g.2.kk)
/-- the model's state but for TEXTS, and its image -/
def pm_ (k j : Nat) : Bool := (k == 28 && !(j == 7)) || k == 29
theorem pm_big {k j : Nat} (h : 48 ≤ k) : pm_ k j = false := by
  have h1 : ¬ k = 28 := by omega
  have h2 : ¬ k = 29 := by omega
  simp [pm_, h1, h2]
theorem pm_28 {j : Nat} (h : j ≠ 7) : pm_ 28 j = true := by simp [pm_, h]
def FM_ (s t : Sg) : Prop := ∀ k j, pm_ k j = true → gi t k j = gi s k j
theorem FM_.rf {s : Sg} : FM_ s s := fun _ _ _ => rfl
theorem FM_.tr {s t u : Sg} (h1 : FM_ s t) (h2 : FM_ t u) : FM_ s u := fun k j h => by rw [h2 k j h, h1 k j h]
theorem FM_.si {s t : Sg} {k j : Nat} {v : Int32} (h : FM_ s t) (hp : pm_ k j = false) : FM_ s (si t k j v) := fun k' j' h' => by
  by_cases hk : k' = k
  · subst hk
    by_cases hj : j' = j
    · subst hj; rw [hp] at h'; exact nomatch h'
    · rw [gsi_ne hj]; exact h k' j' h'
  · rw [gsi_k hk]; exact h k' j' h'
theorem FM_.sl {s t : Sg} {k j : Nat} {v : Int64} (h : FM_ s t) : FM_ s (sl t k j v) := fun k' j' h' => h k' j' h'
theorem FM_.kk {s t : Sg} (h : FM_ s t) (hc : ∀ k, k < 27 → gi t k = gi s k) : KK_ s t := by
  refine ⟨hc, funext fun j => h 29 j (by simp [pm_]), fun j hj => h 28 j (pm_28 ?_)⟩
  unfold kp_ at hj
  omega
/-! the calls that change things or readings -/
theorem isPan_e (a : Int32) (s : Sg) : fX9_isPan a s = some (inR a 0 1, s) := by
  have L0 : (0 : Int32).toInt = 0 := rfl
  have L1 : (1 : Int32).toInt = 1 := rfl
  unfold fX9_isPan
  cases h : inR a 0 1 with
  | true =>
    have := inR_iff.mp h
    by_cases e : a = 0
    · rw [if_pos e]
    · have e1 : a = 1 := by
        have := ne_ti e
        exact Int32.toInt_inj.mp (by omega)
      rw [if_neg e, if_pos e1]
  | false =>
    have hn : ¬ inR a 0 1 = true := by rw [h]; decide
    rw [inR_iff] at hn
    have e0 : ¬ a = 0 := fun e => hn (by rw [e]; omega)
    have e1 : ¬ a = 1 := fun e => hn (by rw [e]; omega)
    rw [if_neg e0, if_neg e1]
theorem thing9_v {s : Sg} {a b : Int32} (h : I9_ s) : pf_ (fX9_thing a b s) (fun q => (thok_ (gi s 1 6) a b = true ∧ q.1 = gi s 1 6 ∧ gi q.2 1 6 = gi s 1 6 + 1 ∧ gi q.2 9 (gi s 1 6).toInt.toNat = a ∧ (∀ i, i ≠ (gi s 1 6).toInt.toNat → gi q.2 9 i = gi s 9 i) ∧ gi q.2 1 17 = gi s 1 17 ∧ gi q.2 2 = gi s 2 ∧ gi q.2 13 = gi s 13) ∨ (thok_ (gi s 1 6) a b = false ∧ q = (-1, s))) := by
  have L12 : (12 : Int32).toInt = 12 := rfl
  have b6 : 0 ≤ (gi s 1 6).toInt ∧ (gi s 1 6).toInt ≤ 12 := h.1 1 6
  unfold fX9_thing
  refine pf_bnd (P := fun q => q = (inR a 1 999, s)) (fun o e => by rw [within_eq] at e; injection e with e; exact e.symm) (fun r s2 e => ?_)
  injection e with e1 e2
  subst e1 e2
  refine fun o ho => ?_
  by_cases h1 : b2i (inR a 1 999) = 0
  · rw [if_pos h1] at ho
    injection ho with ho
    exact Or.inr ⟨by unfold thok_; rw [b2i_eq h1]; rfl, ho.symm⟩
  rw [if_neg h1, within_eq] at ho
  simp only [bnd] at ho
  by_cases h2 : b2i (inR b 0 9) = 0
  · rw [if_pos h2] at ho
    injection ho with ho
    exact Or.inr ⟨by unfold thok_; rw [b2i_eq h2]; cases inR a 1 999 <;> rfl, ho.symm⟩
  rw [if_neg h2] at ho
  by_cases h3 : gi s2 1 6 < 12
  · rw [if_pos h3] at ho
    have h3' := lt_ti h3
    have ne12 : ¬ gi s2 1 6 = 12 := fun e => by rw [e] at h3'; omega
    have i : ix (gi s2 1 6) = (gi s2 1 6).toInt.toNat := rfl
    simp only [bv, inb_ti (n := 12) b6.1 (by omega), chk] at ho
    injection ho with ho
    rw [← ho]
    refine Or.inl ⟨by unfold thok_; rw [b2i_ne h1, b2i_ne h2]; simp [ne12], rfl, gsi_eq, ?_, fun j hj => ?_, ?_, ?_, ?_⟩
    · show gi (si (si (si s2 9 _ a) 10 _ b) 1 6 _) 9 _ = a
      rw [gsi_k (by decide), gsi_k (by decide), i, gsi_eq]
    · show gi (si (si (si s2 9 _ a) 10 _ b) 1 6 _) 9 j = _
      rw [gsi_k (by decide), gsi_k (by decide), i, gsi_ne hj]
    · show gi (si (si (si s2 9 _ a) 10 _ b) 1 6 _) 1 17 = _
      rw [gsi_ne (by decide), gsi_k (by decide), gsi_k (by decide)]
    · show gi (si (si (si s2 9 _ a) 10 _ b) 1 6 _) 2 = _
      rw [gsi_f (by decide), gsi_f (by decide), gsi_f (by decide)]
    · show gi (si (si (si s2 9 _ a) 10 _ b) 1 6 _) 13 = _
      rw [gsi_f (by decide), gsi_f (by decide), gsi_f (by decide)]
  · rw [if_neg h3] at ho
    have h3' := nlt_ti h3
    have e12 : gi s2 1 6 = 12 := Int32.toInt_inj.mp (by omega)
    injection ho with ho
    exact Or.inr ⟨by unfold thok_; rw [e12]; cases inR a 1 999 <;> cases inR b 0 9 <;> rfl, ho.symm⟩
def rk_ (n a b : Int32) : Bool := inR a 0 1 && (inR b 0 2 && !(n == 10))
theorem reading9_v {s : Sg} {a b : Int32} (h : I9_ s) : pf_ (fX9_reading a b s) (fun q => (rk_ (gi s 1 17) a b = true ∧ q.1 = gi s 1 17 + 1 ∧ gi q.2 1 17 = gi s 1 17 + 1 ∧ gi q.2 1 6 = gi s 1 6 ∧ gi q.2 9 = gi s 9 ∧ gi q.2 2 = gi s 2 ∧ gi q.2 13 = gi s 13) ∨ (rk_ (gi s 1 17) a b = false ∧ q = (-1, s))) := by
  have L10 : (10 : Int32).toInt = 10 := rfl
  have b17 : 0 ≤ (gi s 1 17).toInt ∧ (gi s 1 17).toInt ≤ 10 := h.1 1 17
  generalize hQ : (fun q : Int32 × Sg => (rk_ (gi s 1 17) a b = true ∧ q.1 = gi s 1 17 + 1 ∧ gi q.2 1 17 = gi s 1 17 + 1 ∧ gi q.2 1 6 = gi s 1 6 ∧ gi q.2 9 = gi s 9 ∧ gi q.2 2 = gi s 2 ∧ gi q.2 13 = gi s 13) ∨ (rk_ (gi s 1 17) a b = false ∧ q = (-1, s))) = Q
  have bad : rk_ (gi s 1 17) a b = false → pf_ (some ((-1 : Int32), s)) Q := fun e => pf_some (by rw [← hQ]; exact Or.inr ⟨e, rfl⟩)
  unfold fX9_reading
  rw [isPan_e]
  show pf_ (if b2i (inR a 0 1) = 0 then _ else _) Q
  by_cases h1 : b2i (inR a 0 1) = 0
  · rw [if_pos h1]; exact bad (by unfold rk_; rw [b2i_eq h1]; rfl)
  rw [if_neg h1, within_eq]
  show pf_ (if b2i (inR b 0 2) = 0 then _ else _) Q
  by_cases h2 : b2i (inR b 0 2) = 0
  · rw [if_pos h2]; exact bad (by unfold rk_; rw [b2i_eq h2]; cases inR a 0 1 <;> rfl)
  rw [if_neg h2]
  by_cases h3 : gi s 1 17 < 10
  · rw [if_pos h3]
    have h3' := lt_ti h3
    have ne10 : ¬ gi s 1 17 = 10 := fun e => by rw [e] at h3'; omega
    have hok : rk_ (gi s 1 17) a b = true := by unfold rk_; rw [b2i_ne h1, b2i_ne h2]; simp [ne10]
    refine pf_bnv (ya_fX9_weighWhatLies s) (fun s5 g5 => pf_chk (fun _ => pf_bv (fun q7 e7 => pf_chk (fun hrd => ?_))))
    have crd := rd_rng hrd
    refine pf_bv (fun s9 e9 => pf_bv (fun s10 e10 => ?_))
    have g10 : FA_ s s10 := by rw [e10, e9]; exact (g5.si (pa_big (by omega))).si (pa_big (by omega))
    refine pf_bnv (ya_fX8_copyWorld_r q7 s10 (by omega)) (fun s11 g11' => ?_)
    have g11 := g10.tr g11'
    refine pf_bv (fun s12 e12 => pf_bv (fun s13 e13 => pf_bv (fun s14 e14 => pf_some ?_)))
    have g13 : FA_ s s13 := by rw [e13, e12]; exact (g11.si (pa_big (by omega))).si (pa_big (by omega))
    rw [← hQ]
    have z : gi s14 1 17 = gi s 1 17 + 1 := by rw [e14, gsi_eq, g13 1 17 rfl]
    refine Or.inl ⟨hok, z, z, ?_, funext fun i => ?_, funext fun i => ?_, funext fun i => ?_⟩
    · show gi s14 1 6 = _
      rw [e14, gsi_ne (by decide)]; exact g13 1 6 rfl
    · show gi s14 9 i = _
      rw [e14, gsi_k (by decide)]; exact g13 9 i rfl
    · show gi s14 2 i = _
      rw [e14, gsi_k (by decide)]; exact g13 2 i rfl
    · show gi s14 13 i = _
      rw [e14, gsi_k (by decide)]; exact g13 13 i rfl
  · rw [if_neg h3]
    have h3' := nlt_ti h3
    have e10 : gi s 1 17 = 10 := Int32.toInt_inj.mp (by omega)
    exact bad (by unfold rk_; rw [e10]; cases inR a 0 1 <;> cases inR b 0 2 <;> rfl)
