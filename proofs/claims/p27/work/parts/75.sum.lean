theorem pl_lt {s t : Sg} {q i D T o wh w pl bn pr : Nat} {B : Int} (a6 : Pl_ (gi t 32) pl bn pr) (a8 : o + pr ≤ 8) (a9 : dp_ (gi t 30) (680 * q + 75) i w = some (D + bn + wh, T)) (a10 : ((i + w + pl : Nat) : Int) ≤ B) (a11 : B ≤ 301) : pl < 159 ∧ i + w < 302 := by
  have h1 := a6.sum
  have h2 : D + bn + wh + T ≤ w := dp_le w a9
  omega
theorem push_e {s : Sg} {pl : Nat} {a : Int32} (h : (gi s 27 17).toInt = (pl : Int)) (hp : pl < 160) : fX10_push a s = some (si (si s 32 pl a) 27 17 (gi s 27 17 + 1)) := by
  have x : ix (gi s 27 17) = pl := by show (gi s 27 17).toInt.toNat = _; omega
  unfold fX10_push
  rw [inb_ti (by omega) (by omega), x]
  simp only [bv, chk, gsi_k (show 27 ≠ 32 by decide)]
theorem whole_ok {s t : Sg} {q i D T o : Nat} {B : Int} (hq : q < 4) (h : SI_ s q i D T o 1 B t) : wp_ (fX10_whole t) (fun u => SI_ s q i D T o 1 B u ∧ gi u 27 19 = 1 ∧ ET_ t u) := by
  generalize hQ : (fun u : Sg => SI_ s q i D T o 1 B u ∧ gi u 27 19 = 1 ∧ ET_ t u) = Q
  have L1 : (1 : Int32).toInt = 1 := rfl
  have L0 : (0 : Int32).toInt = 0 := rfl
  unfold fX10_whole
  refine wp_bv_i (fun t1 e1 => ?_)
  have hb : (gi t1 27 17).toInt.toNat < 400 := by
    obtain ⟨w, pl, bn, pr, a1, a2, a3, a4, a5, a6, a7, a8, a9, a10, a11⟩ := h
    rw [e1, gsi_ne (by decide)]; omega
  refine lo1_i (fun u => SI_ s q i D T o 1 B u ∧ gi u 27 19 = 1 ∧ ET_ t u) (fun u => (gi u 27 17).toInt.toNat) ?_ FU t1 ⟨by rw [e1]; exact h.wh19, by rw [e1, gsi_eq]; rfl, by rw [e1]; exact ET_.rf.si (Or.inr (by decide))⟩ (by show _ < 1000000000; omega)
  rintro rec u ⟨hs, h19, he⟩ hr
  have fin : wp_ (some u) Q := wp_some_i (by rw [← hQ]; exact ⟨hs, h19, he⟩)
  unfold fX10_whole_5_b
  refine wp_if_i (fun _ => fin) (fun hp => ?_)
  obtain ⟨w, pl, bn, pr, a1, a2, a3, a4, a5, a6, a7, a8, a9, a10, a11⟩ := hs
  have hpos := nle_ti hp
  obtain ⟨b1, b2⟩ := pl_lt (s := s) a6 a8 a9 a10 a11
  cases pl with
  | zero => omega
  | succ pl =>
    have e17 := ti_sub (x := gi u 27 17) (y := 1) (by omega) (by omega)
    have x17 : ix (gi u 27 17 - 1) = pl := by show (gi u 27 17 - 1).toInt.toNat = _; omega
    refine wp_chk_i (inb_ti (by omega) (by omega)) ?_
    rw [x17]
    refine wp_if_i (fun h2 => ?_) (fun _ => fin)
    have h2' : (gi u 32 pl).toInt = 2 := by rw [h2]; rfl
    rcases a6 with ⟨c1, _⟩ | ⟨_, pr', rfl, a6⟩
    · omega
    · refine wp_bv_i (fun v1 ev1 => ?_)
      refine wp_bv_i (fun v2 ev2 => ?_)
      have e18 := ti_sub (x := gi u 27 18) (y := 1) (by omega) (by omega)
      have g18 : gi v2 27 18 = gi u 27 18 - 1 := by rw [ev2, gsi_eq, ev1, gsi_ne (by decide)]
      have g17 : gi v2 27 17 = gi u 27 17 - 1 := by rw [ev2, gsi_ne (by decide), ev1, gsi_eq]
      have gj : ∀ j, j ≠ 17 → j ≠ 18 → gi v2 27 j = gi u 27 j := fun j h1 h2 => by rw [ev2, gsi_ne h2, ev1, gsi_ne h1]
      have gk : ∀ k, k ≠ 27 → gi v2 k = gi u k := fun k hk => by rw [ev2, gsi_f hk, ev1, gsi_f hk]
      have r2 : RF_ s v2 := by rw [ev2, ev1]; exact (a1.si (by decide)).si (by decide)
      have t2 : ET_ t v2 := by rw [ev2, ev1]; exact (he.si (by decide)).si (by decide)
      clear ev1 ev2 v1
      refine wp_bnv_e (emit_e (w := i + w) hq (by omega) (by rw [gj 12 (by decide) (by decide)]; exact a3) (by rw [gj 14 (by decide) (by decide)]; exact a4)) ?_
      refine hr _ ⟨⟨w + 1, pl, bn, pr', r2.em, TF_.em (fun x hx => by rw [gk 30 (by decide)]; exact a2 x hx) (by omega), ?_, ?_, ?_, ?_, ?_, by omega, ?_, by omega, a11⟩, ?_, t2.em⟩ ?_
      · rw [em_27 (by decide), gj 12 (by decide) (by decide)]; exact a3
      · exact em_14 (w := i + w) (by rw [gj 14 (by decide) (by decide)]; exact a4) (by omega)
      · rw [em_27 (by decide), g17]; omega
      · rw [em_32, gk 32 (by decide)]; exact a6
      · rw [em_27 (by decide), g18]; omega
      · refine dp_em (p := (D + bn + 1, T)) (by rw [gk 30 (by decide)]; exact a9) ?_
        show dst_ 2 0 (D + bn + 1, T) = _
        unfold dst_
        rw [if_neg (by decide), if_pos rfl, if_pos (by omega)]
      · rw [em_27 (by decide), gj 19 (by decide) (by decide)]; exact h19
      · rw [em_27 (by decide), g17]; omega
theorem settle_ok {s t : Sg} {q i D T o : Nat} {B : Int} {a1 : Int32} (hq : q < 4) (ha : 3 ≤ a1.toInt) (h : SI_ s q i D T o 1 B t) : wp_ (fX10_settle a1 t) (fun u => SI_ s q i D T o 1 B u ∧ gi u 27 19 = gi t 27 19 ∧ ET_ t u ∧ gi u 32 = gi t 32 ∧ (∀ k : Nat, (k : Int) < (gi t 27 17).toInt → gi t 32 k = 40 → (k : Int) < (gi u 27 17).toInt) ∧ (a1 = 3 → ∀ pl : Nat, (gi u 27 17).toInt = (pl : Int) + 1 → ¬ (3 ≤ (gi u 32 pl).toInt ∧ (gi u 32 pl).toInt ≤ 6))) := by
  generalize hQ : (fun u : Sg => SI_ s q i D T o 1 B u ∧ gi u 27 19 = gi t 27 19 ∧ ET_ t u ∧ gi u 32 = gi t 32 ∧ (∀ k : Nat, (k : Int) < (gi t 27 17).toInt → gi t 32 k = 40 → (k : Int) < (gi u 27 17).toInt) ∧ (a1 = 3 → ∀ pl : Nat, (gi u 27 17).toInt = (pl : Int) + 1 → ¬ (3 ≤ (gi u 32 pl).toInt ∧ (gi u 32 pl).toInt ≤ 6))) = Q
  have L1 : (1 : Int32).toInt = 1 := rfl
  have L0 : (0 : Int32).toInt = 0 := rfl
  have L40 : (40 : Int32).toInt = 40 := rfl
  unfold fX10_settle
  have hb : (gi t 27 17).toInt.toNat < 400 := by
    obtain ⟨w, pl, bn, pr, a1, a2, a3, a4, a5, a6, a7, a8, a9, a10, a11⟩ := h
    omega
  refine lo1_i (fun u => SI_ s q i D T o 1 B u ∧ gi u 27 19 = gi t 27 19 ∧ ET_ t u ∧ gi u 32 = gi t 32 ∧ (∀ k : Nat, (k : Int) < (gi t 27 17).toInt → gi t 32 k = 40 → (k : Int) < (gi u 27 17).toInt)) (fun u => (gi u 27 17).toInt.toNat) ?_ FU t ⟨h, rfl, ET_.rf, rfl, fun k h1 _ => h1⟩ (by show _ < 1000000000; omega)
  rintro rec u ⟨hs, h19, he, h32, hk⟩ hr
  have fin : (a1 = 3 → ∀ pl : Nat, (gi u 27 17).toInt = (pl : Int) + 1 → ¬ (3 ≤ (gi u 32 pl).toInt ∧ (gi u 32 pl).toInt ≤ 6)) → wp_ (some u) Q := fun hz => wp_some_i (by rw [← hQ]; exact ⟨hs, h19, he, h32, hk, hz⟩)
  unfold fX10_settle_0_b
  refine wp_if_i (fun hp => fin (fun _ pl hpl => by have := le_ti hp; omega)) (fun hp => ?_)
  obtain ⟨w, pl, bn, pr, b1, b2, b3, b4, b5, b6, b7, b8, b9, b10, b11⟩ := hs
  have hpos := nle_ti hp
  obtain ⟨c1, c2⟩ := pl_lt (s := s) b6 b8 b9 b10 b11
  cases pl with
  | zero => omega
  | succ pl =>
    have e17 := ti_sub (x := gi u 27 17) (y := 1) (by omega) (by omega)
    have x17 : ix (gi u 27 17 - 1) = pl := by show (gi u 27 17 - 1).toInt.toNat = _; omega
    refine wp_chk_i (inb_ti (by omega) (by omega)) ?_
    rw [x17]
    refine wp_if_i (fun h4 => fin (fun _ p2 hp2 => ?_)) (fun h4 => ?_)
    · have h4' := le_ti h4
      have : p2 = pl := by omega
      subst this
      omega
    refine wp_if_i (fun h3 => fin (fun e3 p2 hp2 => ?_)) (fun h3 => ?_)
    · have h3' := lt_ti h3
      have : p2 = pl := by omega
      subst this
      rw [e3, show (3 : Int32).toInt = 3 from rfl] at h3'
      omega
    have h4' := nle_ti h4
    have h3' := nlt_ti h3
    rcases b6 with ⟨d1, bn', rfl, b6⟩ | ⟨d1, _⟩
    · refine wp_bv_i (fun v2 ev2 => ?_)
      have g17 : gi v2 27 17 = gi u 27 17 - 1 := by rw [ev2, gsi_eq]
      have gj : ∀ j, j ≠ 17 → gi v2 27 j = gi u 27 j := fun j h1 => by rw [ev2, gsi_ne h1]
      have gk : ∀ k, k ≠ 27 → gi v2 k = gi u k := fun k hk => by rw [ev2, gsi_f hk]
      have r2 : RF_ s v2 := by rw [ev2]; exact b1.si (by decide)
      have t2 : ET_ t v2 := by rw [ev2]; exact he.si (by decide)
      clear ev2
      have x2 : ix (gi v2 27 17) = pl := by rw [g17]; exact x17
      refine wp_chk_i (inb_ti (by rw [g17]; omega) (by rw [g17]; omega)) ?_
      rw [x2, gk 32 (by decide)]
      refine wp_bnv_e (emit_e (w := i + w) hq (by omega) (by rw [gj 12 (by decide)]; exact b3) (by rw [gj 14 (by decide)]; exact b4)) ?_
      refine hr _ ⟨⟨w + 1, pl, bn', pr, r2.em, TF_.em (fun x hx => by rw [gk 30 (by decide)]; exact b2 x hx) (by omega), ?_, ?_, ?_, ?_, ?_, by omega, ?_, by omega, b11⟩, ?_, t2.em, ?_, ?_⟩ ?_
      · rw [em_27 (by decide), gj 12 (by decide)]; exact b3
      · exact em_14 (w := i + w) (by rw [gj 14 (by decide)]; exact b4) (by omega)
      · rw [em_27 (by decide), g17]; omega
      · rw [em_32, gk 32 (by decide)]; exact b6
      · rw [em_27 (by decide), gj 18 (by decide)]; exact b7
      · refine dp_em (p := (D + (bn' + 1) + 1, T)) (by rw [gk 30 (by decide)]; exact b9) ?_
        unfold dst_
        rw [if_neg (by omega), if_neg (by omega), if_pos (by omega), if_pos (by omega)]
        exact congrArg some (Prod.ext (by show D + (bn' + 1) + 1 - 1 = _; omega) rfl)
      · rw [em_27 (by decide), gj 19 (by decide)]; exact h19
      · rw [em_32, gk 32 (by decide)]; exact h32
      · intro k k1 k2
        rw [em_27 (by decide), g17]
        have := hk k k1 k2
        by_cases hkp : k = pl
        · exfalso
          subst hkp
          rw [← h32] at k2
          rw [k2] at h4'
          omega
        · omega
      · rw [em_27 (by decide), g17]; omega
    · omega
