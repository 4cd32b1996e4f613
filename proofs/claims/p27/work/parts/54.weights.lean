def st0_ : List Fr_ := [(0, 0, 2 ^ 500)]
theorem chooses_ok (k n : Nat) (hk1 : 1 ≤ k) (hk : k ≤ 5) (hn : n ≤ 40) (f : Nat) (hf : f < 10000) (res : Bool × List Fr_) (h : srch_ k n f st0_ = some res) (s : Sg) (hr : rowR_ s 0 (2 ^ 500)) : ∃ t, fX10_chooses (nI k) (nI n) s = some (res.1, t) ∧ RelS_ t res.2 ∧ frW_ s t := by
  have R : RelS_ (si (si s 45 0 0) 47 0 0) st0_ := by
    refine ⟨?_, ?_, ⟨hr.1, fun v hv => ?_⟩, trivial⟩
    · show gi (si (si s 45 0 0) 47 0 0) 45 0 = nI 0
      rw [gsi_k (by decide)]
      exact gsi_eq
    · exact gsi_eq
    · show gi (si (si s 45 0 0) 47 0 0) 46 (1001 * 0 + v) = _
      rw [gsi_k (by decide), gsi_k (by decide)]
      exact hr.2 v hv
  obtain ⟨t, u1, u2, u3⟩ := srch_ok k n hk1 hk hn f st0_ _ res h R FU (by unfold FU; omega)
  refine ⟨t, ?_, u2, (frW_.s45.tr frW_.s47).tr u3⟩
  unfold fX10_chooses
  rw [bv_p, bv_p, show ix 0 = 0 from rfl]
  rw [show nI st0_.length - 1 = 0 by decide +kernel] at u1
  exact u1
def wsr_ (n : Nat) : Nat → Nat → Option (Nat × List Fr_)
  | 0, _ => none
  | f + 1, k => match srch_ k n 1000 st0_ with
    | none => none
    | some (true, st) => some (k, st)
    | some (false, _) => wsr_ n f (k + 1)
theorem frW_.row {s t : Sg} (h : frW_ s t) {r : Nat} (hr : rowR_ s 0 r) : rowR_ t 0 r := ⟨hr.1, fun v hv => by rw [h.1 _ (by omega)]; exact hr.2 v hv⟩
theorem wsr_ok (n : Nat) (hn : n ≤ 40) (kk : Int32 → Sg → Option (Int32 × Sg)) (K : Nat) (st : List Fr_) : ∀ (f k : Nat) (s : Sg) (F : Nat), wsr_ n f k = some (K, st) → 1 ≤ k → k + f ≤ 6 → rowR_ s 0 (2 ^ 500) → f < F → ∃ t, lo2 (fX10_weights_52_b (nI n) kk) F (nI k) s = kk (nI K) t ∧ RelS_ t st ∧ frW_ s t := by
  intro f
  induction f with
  | zero => intro k s F h; cases h
  | succ f ih =>
    intro k s F h h1 h2 hr hF
    obtain ⟨F, rfl⟩ : ∃ q, F = q + 1 := ⟨F - 1, by omega⟩
    show ∃ t, fX10_weights_52_b (nI n) kk (lo2 (fX10_weights_52_b (nI n) kk) F) (nI k) s = _ ∧ _
    have ih2 : ∀ s : Sg, wsr_ n f (k + 1) = some (K, st) → rowR_ s 0 (2 ^ 500) → ∃ t, lo2 (fX10_weights_52_b (nI n) kk) F (nI (k + 1)) s = kk (nI K) t ∧ RelS_ t st ∧ frW_ s t := fun s q1 q2 => ih (k + 1) s F q1 (by omega) (by omega) q2 (by omega)
    generalize lo2 (fX10_weights_52_b (nI n) kk) F = rc at ih2 ⊢
    unfold wsr_ at h
    cases hs : srch_ k n 1000 st0_ with
    | none => rw [hs] at h; cases h
    | some res =>
      obtain ⟨b, st'⟩ := res
      rw [hs] at h
      obtain ⟨t, u1, u2, u3⟩ := chooses_ok k n h1 (by omega) hn 1000 (by decide) (b, st') hs s hr
      unfold fX10_weights_52_b
      rw [u1, bnd_p]
      cases b with
      | true =>
        dsimp only at h
        cases h
        exact ⟨t, by rw [b2i_t, if_neg one_n0], u2, u3⟩
      | false =>
        dsimp only at h
        obtain ⟨t2, v1, v2, v3⟩ := ih2 t h (u3.row hr)
        exact ⟨t2, by rw [b2i_f, if_pos rfl, bv_p, nI_1]; exact v1, v2, u3.tr v3⟩
theorem init_b (kk : Sg → Option (Int32 × Sg)) (rec19 : Int32 → Sg → Option (Int32 × Sg)) (v : Nat) (hv : v < 1001) (s : Sg) : fX10_weights_19_b kk rec19 (nI v) s = rec19 (nI (v + 1)) (si s 46 v (b2i ((2 ^ 500).testBit v))) := by
  have e0 : ¬ (1001 : Int32) ≤ nI v := nI_ge (a := v) (b := 1001) hv (by decide)
  have i1 : inb 6006 (nI v) = true := inb_nI (by omega) (by decide)
  have x1 : ix (nI v) = v := ix_nI (by omega)
  have e5 : (nI v = 500) = (500 = v) := by
    rw [show (500 : Int32) = nI 500 from rfl, nI_eq (by omega) (by omega)]
    exact propext ⟨fun h => h.symm, fun h => h.symm⟩
  unfold fX10_weights_19_b
  rw [if_neg e0, bv_p, Nat.testBit_two_pow]
  by_cases h : 500 = v
  · rw [if_pos (by rw [e5]; exact h), decide_eq_true h]
    dsimp only
    rw [i1, chk_p, x1, bv_p, bv_p, nar_b, nI_1]
  · rw [if_neg (by rw [e5]; exact h), decide_eq_false h]
    dsimp only
    rw [i1, chk_p, x1, bv_p, bv_p, nar_b, nI_1]
theorem init_l (kk : Sg → Option (Int32 × Sg)) : ∀ (d v : Nat) (s : Sg) (F : Nat), v + d = 1001 → d < F → (∀ u, u < v → gi s 46 u = b2i ((2 ^ 500).testBit u)) → ∃ t, lo2 (fX10_weights_19_b kk) F (nI v) s = kk t ∧ rowR_ t 0 (2 ^ 500) ∧ (∀ k, k ≠ 46 → gi t k = gi s k) ∧ t.2 = s.2 := by
  intro d
  induction d with
  | zero =>
    intro v s F hv hF h
    obtain ⟨F, rfl⟩ : ∃ q, F = q + 1 := ⟨F - 1, by omega⟩
    refine ⟨s, ?_, ⟨Nat.pow_lt_pow_right (by decide) (by decide), fun u hu => ?_⟩, fun _ _ => rfl, rfl⟩
    · show fX10_weights_19_b kk (lo2 (fX10_weights_19_b kk) F) (nI v) s = _
      unfold fX10_weights_19_b
      exact if_pos (nI_le (a := 1001) (by omega) (by omega))
    · rw [Nat.mul_zero, Nat.zero_add]
      exact h u (by omega)
  | succ d ih =>
    intro v s F hv hF h
    obtain ⟨F, rfl⟩ : ∃ q, F = q + 1 := ⟨F - 1, by omega⟩
    obtain ⟨t, u1, u2, u3, u4⟩ := ih (v + 1) (si s 46 v (b2i ((2 ^ 500).testBit v))) F (by omega) (by omega) (fun u hu => by
      by_cases e : u = v
      · subst e; exact gsi_eq
      · rw [gsi_ne e]; exact h u (by omega))
    refine ⟨t, ?_, u2, fun k hk => ?_, ?_⟩
    · show fX10_weights_19_b kk (lo2 (fX10_weights_19_b kk) F) (nI v) s = _
      rw [init_b kk _ v (by omega) s]
      exact u1
    · rw [u3 k hk, gsi_f hk]
    · rw [u4, si_snd]
def cAt_ : List Fr_ → Nat → Nat
  | [], _ => 0
  | q :: rest, i => if i = rest.length then q.1 else cAt_ rest i
theorem cAt_ok {t : Sg} : ∀ (st : List Fr_), RelS_ t st → ∀ i, i < st.length → gi t 45 i = nI (cAt_ st i) := by
  intro st
  induction st with
  | nil => intro _ i hi; cases hi
  | cons q rest ih =>
    intro h i hi
    obtain ⟨c, m, r⟩ := q
    unfold cAt_
    by_cases e : i = rest.length
    · rw [if_pos e, e]; exact h.1
    · rw [if_neg e]
      refine ih h.2.2.2 i ?_
      have : ((c, m, r) :: rest).length = rest.length + 1 := rfl
      omega
/-- what the model's weights answers, for any state -/
theorem weights10 (n : Nat) (hn1 : 1 ≤ n) (hn : n ≤ 40) (K : Nat) (st : List Fr_) (hK : K ≤ 5) (hw : wsr_ n 5 1 = some (K, st)) (hl : st.length = K) (a : Int32) (s : Sg) : ∃ t, (∀ k, k ≠ 45 → k ≠ 46 → k ≠ 47 → gi t k = gi s k) ∧ t.2 = s.2 ∧ fX10_weights (nI n) a s = some (if a < -1 then -1 else if a = -1 then nI K else if nI K ≤ a then -1 else nI (cAt_ st (ix a)), t) := by
  have hin : inR (nI n) 1 40 = true := by
    rw [inR_iff, nI_toInt (by omega)]
    have e1 : (1 : Int32).toInt = 1 := rfl
    have e2 : (40 : Int32).toInt = 40 := rfl
    omega
  unfold fX10_weights
  rw [isIn_eq, hin, bnd_p, b2i_t, if_neg one_n0]
  by_cases h1 : a < -1
  · have h2 : ¬ (-1) ≤ a := by
      rw [Int32.lt_iff_toInt_lt] at h1
      rw [Int32.le_iff_toInt_le]
      omega
    rw [if_neg h2, if_pos h1]
    exact ⟨s, fun _ _ _ _ => rfl, rfl, rfl⟩
  · have h2 : (-1) ≤ a := by
      rw [Int32.lt_iff_toInt_lt] at h1
      rw [Int32.le_iff_toInt_le]
      omega
    rw [if_pos h2, if_neg h1, bv_p]
    obtain ⟨t1, u1, u2, u3, u4⟩ := init_l (fun (s_3 : Sg) => 
        bv (fun (x3_5 : Int32) (s_6 : Sg) => 
          if a = (-1) then
            some (x3_5, s_6)
          else
            if x3_5 ≤ a then
              some ((-1), s_6)
            else
              chk (inb 6 a) <|
              some (gi s_6 45 (ix a), s_6))
        fun k_7 =>
        lo2 (fX10_weights_52_b (nI n) k_7) FU 1 s_3) 1001 0 s FU (by omega) (by unfold FU; omega) (fun u h => by omega)
    rw [show (nI 0 : Int32) = 0 from rfl] at u1
    rw [u1, bv_p]
    obtain ⟨t, v1, v2, v3⟩ := wsr_ok n hn (fun (x3_5 : Int32) (s_6 : Sg) => 
          if a = (-1) then
            some (x3_5, s_6)
          else
            if x3_5 ≤ a then
              some ((-1), s_6)
            else
              chk (inb 6 a) <|
              some (gi s_6 45 (ix a), s_6)) K st 5 1 t1 FU hw (by omega) (by omega) u2 (by unfold FU; omega)
    rw [show (nI 1 : Int32) = 1 from rfl] at v1
    rw [v1]
    refine ⟨t, fun k a b c => ?_, ?_, ?_⟩
    · rw [v3.2.1 k a b c, u3 k b]
    · rw [v3.2.2, u4]
    · by_cases h3 : a = -1
      · rw [if_pos h3, if_pos h3]
      · rw [if_neg h3, if_neg h3]
        by_cases h4 : nI K ≤ a
        · rw [if_pos h4, if_pos h4]
        · rw [if_neg h4, if_neg h4]
          have h5 : 0 ≤ a.toInt ∧ a.toInt < K := by
            rw [Int32.le_iff_toInt_le, nI_toInt (by omega)] at h4
            rw [Int32.le_iff_toInt_le] at h2
            have q1 : (-1 : Int32).toInt = -1 := rfl
            have : ¬ a.toInt = -1 := fun e => h3 (Int32.toInt_inj.mp (by omega))
            omega
          obtain ⟨i, hi, rfl⟩ : ∃ i, i < K ∧ a = nI i := ⟨a.toInt.toNat, by omega, Int32.toInt_inj.mp (by rw [nI_toInt (by omega)]; omega)⟩
          rw [inb_nI (show i < 6 by omega) (by decide), chk_p, ix_nI (by omega), cAt_ok st v2 i (by omega)]
