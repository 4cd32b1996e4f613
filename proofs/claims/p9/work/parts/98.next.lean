/-! the model's nextToken -/
theorem lcmp_iff {x y : Int64} : lg_cmp x y = 0 ↔ x = y := by
  unfold lg_cmp
  by_cases h : x > y
  · rw [if_pos h]
    refine ⟨fun e => absurd e (by decide +kernel), fun e => ?_⟩
    subst e
    exact absurd h (Int64.lt_irrefl)
  · rw [if_neg h]
    by_cases h2 : x = y
    · rw [if_pos h2]; exact ⟨fun _ => h2, fun _ => rfl⟩
    · rw [if_neg h2]; exact ⟨fun e => absurd e (by decide +kernel), fun e => absurd e h2⟩
/-- letters as one number -/
def en_ (f : Nat → Nat) : Nat → Nat
  | 0 => 0
  | n + 1 => en_ f n * 256 + f n
theorem en_lt {f : Nat → Nat} : ∀ n, (∀ i, i < n → f i < 256) → en_ f n < 256 ^ n := by
  intro n
  induction n with
  | zero => intro _; show 0 < 1; decide
  | succ n ih =>
    intro h
    have h1 := ih (fun i hi => h i (by omega))
    have h2 := h n (by omega)
    show en_ f n * 256 + f n < 256 ^ (n + 1)
    rw [Nat.pow_succ]
    omega
theorem en_inj {f g : Nat → Nat} : ∀ n m, (∀ i, i < n → 1 ≤ f i ∧ f i < 256) → (∀ i, i < m → 1 ≤ g i ∧ g i < 256) → en_ f n = en_ g m → n = m ∧ ∀ i, i < n → f i = g i := by
  intro n
  induction n with
  | zero =>
    intro m _ hg e
    cases m with
    | zero => exact ⟨rfl, fun i hi => by omega⟩
    | succ m =>
      have := (hg m (by omega)).1
      have e' : 0 = en_ g m * 256 + g m := e
      omega
  | succ n ih =>
    intro m hf hg e
    cases m with
    | zero =>
      have := (hf n (by omega)).1
      have e' : en_ f n * 256 + f n = 0 := e
      omega
    | succ m =>
      have a := hf n (by omega)
      have b := hg m (by omega)
      have e' : en_ f n * 256 + f n = en_ g m * 256 + g m := e
      obtain ⟨h1, h2⟩ := ih m (fun i hi => hf i (by omega)) (fun i hi => hg i (by omega)) (by omega)
      subst h1
      refine ⟨rfl, fun i hi => ?_⟩
      by_cases hi2 : i = n
      · subst hi2; omega
      · exact h2 i (by omega)
theorem nL_bv {n : Nat} (h : n < 2 ^ 64) : (Int64.ofNat n).toBitVec.toNat = n := by
  show (BitVec.ofNat 64 n).toNat = n
  rw [BitVec.toNat_ofNat]
  exact Nat.mod_eq_of_lt h
theorem i64_ext {a b : Int64} (h : a.toBitVec.toNat = b.toBitVec.toNat) : a = b := Int64.toBitVec_inj.mp (BitVec.eq_of_toNat_eq h)
theorem sh8_ : (Int32.toInt64 8 &&& 63 : Int64) = 8 := by decide +kernel
theorem i2l_ {b : Nat} (h : b < 2 ^ 31) : Int32.toInt64 (nI b) = Int64.ofNat b := by
  apply Int64.toInt_inj.mp
  rw [Int32.toInt_toInt64, nI_toInt h, Int64.toInt_ofNat_of_lt (by omega)]
theorem wstep_ {v b : Nat} (hv : v < 2 ^ 48) (hb : b < 256) : ((Int64.ofNat v) <<< (Int32.toInt64 8 &&& 63)) ||| (Int32.toInt64 (nI b)) = Int64.ofNat (v * 256 + b) := by
  rw [sh8_, i2l_ (by omega)]
  apply i64_ext
  have e8 : (8 : Int64).toBitVec.toNat = 8 := rfl
  rw [Int64.toBitVec_or, BitVec.toNat_or, nL_bv (by omega), nL_bv (by omega)]
  have : (Int64.ofNat v <<< (8 : Int64)).toBitVec.toNat = v * 256 := by
    rw [Int64.toBitVec_shiftLeft]
    rw [BitVec.shiftLeft_eq', BitVec.toNat_shiftLeft, nL_bv (by omega)]
    have : ((8 : Int64).toBitVec.smod 64).toNat = 8 := by decide +kernel
    rw [this, Nat.shiftLeft_eq]
    exact Nat.mod_eq_of_lt (by omega)
  rw [this]
  have h2 := Nat.shiftLeft_add_eq_or_of_lt (b := b) (i := 8) (by omega) v
  rw [Nat.shiftLeft_eq] at h2
  exact h2.symm
theorem updL_self {f : Nat → Int64} {k : Nat} {v : Int64} : vp_updL f k v k = v := by simp [vp_updL]
/-- the constant of a word -/
def wc_ (i : Nat) : Int64 := Int64.ofNat (en_ (fun j => (chv_ i j).toInt.toNat) (sLv (100 + i + 50)))
theorem ofNat_inj {a b : Nat} (ha : a < 2 ^ 63) (hb : b < 2 ^ 63) (h : Int64.ofNat a = Int64.ofNat b) : a = b := by
  have := congrArg (fun z => z.toBitVec.toNat) h
  try dsimp only at this
  rwa [nL_bv (by omega), nL_bv (by omega)] at this
theorem sLv_le {i : Nat} (hi : i < 20) : sLv (100 + i + 50) ≤ 6 := (str_len i hi).2.1
theorem sLv_pos : ∀ i, i < 20 → 1 ≤ sLv (100 + i + 50) := by decide +kernel
/-- the model's word of n letters -/
def wd_ (B : Nat → Int) (st n : Nat) : Int64 := if n ≤ 7 then Int64.ofNat (en_ (fun j => (B (st + j)).toNat) n) else 0
theorem wd_iff {B : Nat → Int} {st n i : Nat} (hi : i < 20) (hl : ∀ j, j < n → ltr_ (B (st + j))) : wd_ B st n = wc_ i ↔ mwb_ B st n i = true := by
  have k6 := sLv_le hi
  have k1 := sLv_pos i hi
  have hB : ∀ j, j < n → 1 ≤ (B (st + j)).toNat ∧ (B (st + j)).toNat < 256 := fun j hj => by
    have := hl j hj
    unfold ltr_ at this
    omega
  have hC : ∀ j, j < sLv (100 + i + 50) → 1 ≤ (chv_ i j).toInt.toNat ∧ (chv_ i j).toInt.toNat < 256 := fun j hj => by
    have := chv_lt i hi j hj
    omega
  have lC := en_lt (sLv (100 + i + 50)) (fun j hj => (hC j hj).2)
  have p6 : 256 ^ (sLv (100 + i + 50)) ≤ 256 ^ 6 := Nat.pow_le_pow_right (by decide) k6
  have e6 : (256 : Nat) ^ 6 = 281474976710656 := by decide
  rw [mwb_iff]
  unfold wd_ wc_
  by_cases h7 : n ≤ 7
  · rw [if_pos h7]
    have lB := en_lt n (fun j hj => (hB j hj).2)
    have p7 : 256 ^ n ≤ 256 ^ 7 := Nat.pow_le_pow_right (by decide) h7
    have e7 : (256 : Nat) ^ 7 = 72057594037927936 := by decide
    constructor
    · intro e
      have e' := ofNat_inj (by omega) (by omega) e
      obtain ⟨h1, h2⟩ := en_inj n _ hB hC e'
      refine ⟨h1, fun j hj => ?_⟩
      have := h2 j hj
      have a := hl j hj
      have b := chv_lt i hi j (by omega)
      unfold ltr_ at a
      try dsimp only at this
      omega
    · rintro ⟨h1, h2⟩
      have key : ∀ m, m ≤ n → en_ (fun j => (B (st + j)).toNat) m = en_ (fun j => (chv_ i j).toInt.toNat) m := by
        intro m
        induction m with
        | zero => intro _; rfl
        | succ m ih =>
          intro hm
          show en_ _ m * 256 + (B (st + m)).toNat = en_ _ m * 256 + (chv_ i m).toInt.toNat
          rw [ih (by omega), h2 m (by omega)]
      rw [← h1, key n (Nat.le_refl _)]
  · rw [if_neg h7]
    constructor
    · intro e
      have e0 : Int64.ofNat 0 = Int64.ofNat (en_ (fun j => (chv_ i j).toInt.toNat) (sLv (100 + i + 50))) := e
      have e' := ofNat_inj (by omega) (by omega) e0
      have := (en_inj (f := fun _ => 0) 0 _ (fun j hj => by omega) hC e').1
      omega
    · rintro ⟨h1, _⟩
      omega
theorem mw_one : ∀ i, i < 20 → ∀ j, j < 20 → i ≠ j → ¬ (sLv (100 + i + 50) = sLv (100 + j + 50) ∧ ∀ t, t < sLv (100 + i + 50) → chv_ i t = chv_ j t) := by decide +kernel
theorem mwb_un {B : Nat → Int} {st n i j : Nat} (hi : i < 20) (hj : j < 20) (h1 : mwb_ B st n i = true) (h2 : mwb_ B st n j = true) : i = j := by
  by_cases e : i = j
  · exact e
  · obtain ⟨a1, a2⟩ := mwb_iff.mp h1
    obtain ⟨b1, b2⟩ := mwb_iff.mp h2
    refine absurd ⟨by omega, fun t ht => ?_⟩ (mw_one i hi j hj e)
    exact Int32.toInt_inj.mp (by rw [← a2 t (by omega), ← b2 t (by omega)])
theorem kds_inj : ∀ i, i < 20 → ∀ j, j < 20 → kds_.getD i 0 = kds_.getD j 0 → i = j := by decide
theorem kds_d : ∀ i, i < 20 → kds_.getD i 25 = kds_.getD i 0 ∧ kds_.getD i 0 ≠ 25 := by decide
theorem wkr_at {f : Nat → Bool} {i : Nat} (hi : i < 20) (h : f i = true) (hu : ∀ j, j < 20 → f j = true → j = i) : ∀ k, 19 - i < k → k ≤ 20 → wkr_ f k = kds_.getD i 0 := by
  intro k
  induction k with
  | zero => intro h1; omega
  | succ k ih =>
    intro h1 h2
    show (if f (19 - k) = true then kds_.getD (19 - k) 25 else wkr_ f k) = _
    by_cases e : f (19 - k) = true
    · rw [if_pos e]
      have := hu (19 - k) (by omega) e
      rw [this]
      exact (kds_d i hi).1
    · rw [if_neg e]
      have : 19 - k ≠ i := fun e' => e (by rw [e']; exact h)
      exact ih (by omega) (by omega)
theorem wkr_ex {f : Nat → Bool} : ∀ k, k ≤ 20 → wkr_ f k = 25 ∨ ∃ j, j < 20 ∧ f j = true ∧ wkr_ f k = kds_.getD j 0 := by
  intro k
  induction k with
  | zero => intro _; exact Or.inl rfl
  | succ k ih =>
    intro hk
    show (if f (19 - k) = true then kds_.getD (19 - k) 25 else wkr_ f k) = 25 ∨ ∃ j, j < 20 ∧ f j = true ∧ (if f (19 - k) = true then kds_.getD (19 - k) 25 else wkr_ f k) = kds_.getD j 0
    by_cases e : f (19 - k) = true
    · rw [if_pos e]
      exact Or.inr ⟨19 - k, by omega, e, (kds_d (19 - k) (by omega)).1⟩
    · rw [if_neg e]; exact ih (by omega)
theorem wk_iff {B : Nat → Int} {st n i : Nat} (hi : i < 20) : wk_ B st n = kds_.getD i 0 ↔ mwb_ B st n i = true := by
  unfold wk_
  constructor
  · intro e
    rcases wkr_ex (f := mwb_ B st n) 20 (Nat.le_refl _) with h | ⟨j, hj, h1, h2⟩
    · rw [h] at e
      exact absurd e.symm (kds_d i hi).2
    · have := kds_inj i hi j hj (by rw [← e, h2])
      rw [this]; exact h1
  · intro h
    exact wkr_at hi h (fun j hj h2 => mwb_un hj hi h2 h) 20 (by omega) (Nat.le_refl _)
/-- the model's token of a kind -/
def mtk_ (kd : Nat) : Int32 := if kd = 24 then 0 else if kd = 17 then 1 else if kd = 9 then 35 else if kd = 0 then 40 else if kd = 15 then 41 else if kd = 12 then 42 else if kd = 10 then 43 else if kd = 11 then 45 else if kd = 13 then 47 else if kd = 16 then 59 else if kd = 4 then 60 else if kd = 5 then 4 else if kd = 8 then 61 else if kd = 6 then 62 else if kd = 7 then 5 else if kd = 25 then 3 else 2
theorem sgk_m2 (c d : Int) : mtk_ (sgk_ c d) ≠ 2 := by
  unfold sgk_
  repeat' split
  all_goals decide +kernel
theorem sgk_no {c d : Int} (h : ¬ (c = 60 ∨ c = 62 ∨ c = 61 ∨ c = 35 ∨ c = 43 ∨ c = 45 ∨ c = 42 ∨ c = 47 ∨ c = 40 ∨ c = 41 ∨ c = 59)) : (3 : Int32) = mtk_ (sgk_ c d) := by
  unfold sgk_
  repeat' split
  all_goals first | omega | decide +kernel
theorem sgk_self {c d : Int} (hy : c = 60 ∨ c = 62 ∨ c = 61 ∨ c = 35 ∨ c = 43 ∨ c = 45 ∨ c = 42 ∨ c = 47 ∨ c = 40 ∨ c = 41 ∨ c = 59) (hn : ¬ ((c = 60 ∨ c = 62) ∧ d = 61)) : c = (mtk_ (sgk_ c d)).toInt := by
  unfold sgk_
  rcases hy with rfl | rfl | rfl | rfl | rfl | rfl | rfl | rfl | rfl | rfl | rfl
  · rw [if_neg (by decide), if_neg (by decide), if_neg (by decide), if_neg (by decide), if_neg (by decide), if_neg (by decide), if_neg (by decide), if_neg (by decide), if_pos rfl, if_neg (fun e => hn ⟨Or.inl rfl, e⟩)]; decide +kernel
  · rw [if_neg (by decide), if_neg (by decide), if_neg (by decide), if_neg (by decide), if_neg (by decide), if_neg (by decide), if_neg (by decide), if_neg (by decide), if_neg (by decide), if_neg (by decide), if_pos rfl, if_neg (fun e => hn ⟨Or.inr rfl, e⟩)]; decide +kernel
  all_goals (simp; decide +kernel)
theorem sgk_two {c : Int} (h : c = 60 ∨ c = 62) : (sgk_ c 61 = 5 ∨ sgk_ c 61 = 7) ∧ (c = 60 → (4 : Int32) = mtk_ (sgk_ c 61)) ∧ (c = 62 → (5 : Int32) = mtk_ (sgk_ c 61)) := by
  rcases h with rfl | rfl
  · exact ⟨by decide, fun _ => by decide +kernel, fun e => absurd e (by decide)⟩
  · exact ⟨by decide, fun e => absurd e (by decide), fun _ => by decide +kernel⟩
def MK_ (kd nm : Nat) (t : Sg) : Prop := (gi t 27 9 = mtk_ kd ∨ (kd = 25 ∧ gi t 27 9 = 2)) ∧ (kd = 17 → ∃ m, gi t 27 10 = nI m ∧ m < 2000000 ∧ nm = min m 10000) ∧ (gi t 27 9 = 2 → ∀ i, i < 20 → (gl t 27 11 = wc_ i ↔ kd = kds_.getD i 0))
def Mt_ (B : Nat → Int) (n p : Nat) (t : Sg) : Prop := ∃ kd st nx nm, Tk_ B p kd st nx nm ∧ nx ≤ n ∧ gi t 27 8 = nI st ∧ gi t 27 7 = nI nx ∧ MK_ kd nm t
theorem NT_.tp {B : Nat → Int} {n : Nat} {s t : Sg} (h : NT_ s t) (hp : TPm_ B n s) : TPm_ B n t := ⟨by rw [h.2.1 4 (by decide)]; exact hp.1, hp.2.1, fun k hk => by rw [h.1 31 (by decide)]; exact hp.2.2.1 k hk, hp.2.2.2⟩
theorem byt_ {B : Nat → Int} {n i : Nat} {u : Sg} (hu : TPm_ B n u) (hi : i < 2 ^ 30) : ∃ c : Int32, fX10_byteAt (nI i) u = some (c, u) ∧ c.toInt = B i := by
  have hn := hu.2.1
  refine ⟨bt_ u (nI i), byteAt_e (by rw [nI_toInt (by omega)]; omega) (by rw [hu.1, nI_toInt (by omega)]; omega), ?_⟩
  unfold bt_
  rw [hu.1]
  by_cases h : n ≤ i
  · rw [if_pos ((nI_lei (by omega) (by omega)).mpr h), hu.2.2.2 i h]; rfl
  · rw [if_neg (fun e => h ((nI_lei (by omega) (by omega)).mp e)), ix_nI (by omega)]
    exact (hu.2.2.1 i (by omega)).2.2
theorem ci_ {c : Int32} {x : Int} (h : c.toInt = x) (m : Int32) : c = m ↔ x = m.toInt := ⟨fun e => by rw [← h, e], fun e => Int32.toInt_inj.mp (by rw [h, e])⟩
theorem dgi_ {c : Int32} {x : Int} (h : c.toInt = x) : inR c 48 57 = true ↔ dgt_ x := by
  rw [inR_iff, h]
  exact Iff.rfl
theorem lti_ {c : Int32} {x : Int} (h : c.toInt = x) : (inR c 97 122 || inR c 65 90) = true ↔ ltr_ x := by
  rw [Bool.or_eq_true, inR_iff, inR_iff, h]
  exact Iff.rfl
theorem b0i_ {b : Bool} {P : Prop} (h : b = true ↔ P) : b2i b = 0 ↔ ¬ P := ⟨fun e p => by rw [h.mpr p] at e; exact absurd e (by decide +kernel), fun n => by
  cases hb : b with
  | false => rfl
  | true => exact absurd (h.mp hb) n⟩
theorem next10_v {B : Nat → Int} {n p : Nat} {s : Sg} (h : TPm_ B n s) (h7 : gi s 27 7 = nI p) (hp : p ≤ n) : pf_ (fX10_nextToken s) (fun t => NT_ s t ∧ Mt_ B n p t) := by
  generalize hQ : (fun t : Sg => NT_ s t ∧ Mt_ B n p t) = Q
  have hn := h.2.1
  have out : ∀ k, n ≤ k → ¬ skp_ (B k) ∧ ¬ ltr_ (B k) ∧ ¬ dgt_ (B k) := fun k hk => by
    have := h.2.2.2 k hk
    unfold skp_ ltr_ dgt_
    omega
  have inn : ∀ k, 0 ≤ B k → k < n := fun k hk => by
    by_cases hh : k < n
    · exact hh
    · have := h.2.2.2 k (by omega); omega
  have fin : ∀ t kd st nx nm, NT_ s t → Tk_ B p kd st nx nm → nx ≤ n → gi t 27 8 = nI st → gi t 27 7 = nI nx → MK_ kd nm t → pf_ (some t) Q := fun t kd st nx nm a b c d e f => pf_some (by rw [← hQ]; exact ⟨a, kd, st, nx, nm, b, c, d, e, f⟩)
  unfold fX10_nextToken
  refine pf_jn (fun k => ∀ u i, NT_ s u → gi u 27 7 = nI i → p ≤ i → i ≤ n → (∀ j, p ≤ j → j < i → skp_ (B j)) → ¬ skp_ (B i) → pf_ (k u) Q) ?_ (fun k2 hk2 => ?_)
  · intro u i nu u7 hpi hin hsk hns
    try dsimp only
    refine pf_bv (fun t et => ?_)
    have n_t : NT_ s t := by rw [et]; exact nu.si (by decide)
    have t8 : gi t 27 8 = nI i := by rw [et, gsi_eq, u7]
    have t7 : gi t 27 7 = nI i := by rw [et, gsi_ne (by decide), u7]
    have tp := n_t.tp h
    clear et
    rw [t7]
    obtain ⟨c, ec, hc⟩ := byt_ tp (show i < 2 ^ 30 by omega)
    refine pf_bnde ec ?_
    refine pf_ifc (fun h0 => ?_) (fun h0 => ?_)
    · have h0' := le_ti h0
      rw [hc, show (0 : Int32).toInt = 0 from rfl] at h0'
      have hlt := inn i h0'
      refine pf_bnde (isDigit_e _ _) (pf_ifi (b0i_ (dgi_ hc)) (fun hnd => ?_) (fun hnd => ?_))
      · refine pf_bnde (isLetter_e _ _) (pf_ifi (b0i_ (lti_ hc)) (fun hnl => ?_) (fun hnl => ?_))
        · -- a sign
          refine pf_bv (fun t2 e2 => ?_)
          rw [t7, nI_1] at e2
          have n2 : NT_ s t2 := by rw [e2]; exact n_t.si (by decide)
          have p2 : gi t2 27 8 = nI i := by rw [e2, gsi_ne (by decide)]; exact t8
          have a2 : gi t2 27 7 = nI (i + 1) := by rw [e2, gsi_eq]
          clear e2
          have tk : ∀ d : Nat, (d = if sgk_ (B i) (B (i + 1)) = 5 ∨ sgk_ (B i) (B (i + 1)) = 7 then 2 else 1) → Tk_ B p (sgk_ (B i) (B (i + 1))) i (i + d) 0 := fun d hd => ⟨hpi, hsk, hns, Or.inr (Or.inr (Or.inr ⟨by omega, hnl, hnd, rfl, by rw [hd]⟩))⟩
          have done : ∀ t5 (d : Nat), NT_ s t5 → gi t5 27 8 = nI i → gi t5 27 7 = nI (i + d) → i + d ≤ n → (d = if sgk_ (B i) (B (i + 1)) = 5 ∨ sgk_ (B i) (B (i + 1)) = 7 then 2 else 1) → gi t5 27 9 = mtk_ (sgk_ (B i) (B (i + 1))) → gi t5 27 9 ≠ 2 → pf_ (some t5) Q := fun t5 d a b e f g k k2' => fin t5 _ i (i + d) 0 a (tk d g) f b e ⟨Or.inl k, fun e17 => absurd e17 (sgk_17 _ _), fun e2 => absurd e2 k2'⟩
          have m2 := sgk_m2 (B i) (B (i + 1))
          refine pf_jn (fun k => ∀ y : Bool, (y = true ↔ (B i = 60 ∨ B i = 62 ∨ B i = 61 ∨ B i = 35 ∨ B i = 43 ∨ B i = 45 ∨ B i = 42 ∨ B i = 47 ∨ B i = 40 ∨ B i = 41 ∨ B i = 59)) → pf_ (k y) Q) ?_ (fun k12 hk12 => ?_)
          · intro y hy
            try dsimp only
            refine pf_jn (fun k => ∀ z : Int32, (¬ ((B i = 60 ∨ B i = 62) ∧ B (i + 1) = 61) → z = mtk_ (sgk_ (B i) (B (i + 1)))) → pf_ (k z) Q) ?_ (fun k14 hk14 => ?_)
            · intro z hz
              try dsimp only
              refine pf_bv (fun t3 e3 => ?_)
              have n3 : NT_ s t3 := by rw [e3]; exact n2.si (by decide)
              have p3 : gi t3 27 8 = nI i := by rw [e3, gsi_ne (by decide)]; exact p2
              have a3 : gi t3 27 7 = nI (i + 1) := by rw [e3, gsi_ne (by decide)]; exact a2
              have g3 : gi t3 27 9 = z := by rw [e3, gsi_eq]
              clear e3
              have plain : ¬ ((B i = 60 ∨ B i = 62) ∧ B (i + 1) = 61) → pf_ (some t3) Q := fun hno => done t3 1 n3 p3 a3 (by omega) (by rw [if_neg (sgk_57 hno)]) (by rw [g3, hz hno]) (by rw [g3, hz hno]; exact m2)
              refine pf_jn (fun k => (B i = 60 ∨ B i = 62) → pf_ k Q) ?_ (fun k16 hk16 => ?_)
              · intro h6
                rw [a3]
                obtain ⟨c2, ec2, hc2⟩ := byt_ (n3.tp h) (show i + 1 < 2 ^ 30 by omega)
                refine pf_bnde ec2 (pf_ifi (ci_ hc2 61) (fun e61 => ?_) (fun n61 => plain (fun e => n61 e.2)))
                have e61' : B (i + 1) = 61 := e61
                have hi1 := inn (i + 1) (by omega)
                refine pf_bv (fun t4 e4 => ?_)
                rw [a3, nI_1] at e4
                have n4 : NT_ s t4 := by rw [e4]; exact n3.si (by decide)
                have p4 : gi t4 27 8 = nI i := by rw [e4, gsi_ne (by decide)]; exact p3
                have a4 : gi t4 27 7 = nI (i + 2) := by rw [e4, gsi_eq]
                clear e4
                refine pf_jn (fun k => ∀ y2 : Int32, y2 = mtk_ (sgk_ (B i) (B (i + 1))) → pf_ (k y2) Q) ?_ (fun k21 hk21 => pf_ifi (ci_ hc 60) (fun e => hk21 4 ?_) (fun e => hk21 5 ?_))
                · intro y2 hy2
                  try dsimp only
                  refine pf_bv (fun t5 e5 => ?_)
                  exact done t5 2 (by rw [e5]; exact n4.si (by decide)) (by rw [e5, gsi_ne (by decide)]; exact p4) (by rw [e5, gsi_ne (by decide)]; exact a4) (by omega) (by rw [if_pos (by rw [e61']; exact (sgk_two h6).1)]) (by rw [e5, gsi_eq, hy2]) (by rw [e5, gsi_eq, hy2]; exact m2)
                · rw [e61']; exact (sgk_two h6).2.1 e
                · have e' : ¬ B i = 60 := e
                  rw [e61']; exact (sgk_two h6).2.2 (by omega)
              · refine pf_ifi (ci_ hc 60) (fun e => hk16 (Or.inl e)) (fun n60 => pf_ifi (ci_ hc 62) (fun e => hk16 (Or.inr e)) (fun n62 => plain (fun e => ?_)))
                rcases e.1 with e' | e'
                · exact n60 e'
                · exact n62 e'
            · refine pf_ifi (b0i_ hy) (fun hno => hk14 3 (fun _ => ?_)) (fun hyes => hk14 c (fun hno => ?_))
              · exact sgk_no hno
              · apply Int32.toInt_inj.mp
                rw [hc]
                refine sgk_self ?_ hno
                by_cases hh : B i = 60 ∨ B i = 62 ∨ B i = 61 ∨ B i = 35 ∨ B i = 43 ∨ B i = 45 ∨ B i = 42 ∨ B i = 47 ∨ B i = 40 ∨ B i = 41 ∨ B i = 59
                · exact hh
                · exact absurd hh hyes
          · refine pf_jn (fun k => (B i = 60 ∨ B i = 62 ∨ B i = 61 ∨ B i = 35 ∨ B i = 43 ∨ B i = 45 ∨ B i = 42 ∨ B i = 47 ∨ B i = 40 ∨ B i = 41 ∨ B i = 59) → pf_ k Q) (fun hh => hk12 true ⟨fun _ => hh, fun _ => rfl⟩) (fun k23 hk23 => ?_)
            refine pf_ifi (ci_ hc 60) (fun e => hk23 (by have e' : B i = 60 := e; omega)) (fun x1 => ?_)
            refine pf_ifi (ci_ hc 62) (fun e => hk23 (by have e' : B i = 62 := e; omega)) (fun x2 => ?_)
            refine pf_ifi (ci_ hc 61) (fun e => hk23 (by have e' : B i = 61 := e; omega)) (fun x3 => ?_)
            refine pf_ifi (ci_ hc 35) (fun e => hk23 (by have e' : B i = 35 := e; omega)) (fun x4 => ?_)
            refine pf_ifi (ci_ hc 43) (fun e => hk23 (by have e' : B i = 43 := e; omega)) (fun x5 => ?_)
            refine pf_ifi (ci_ hc 45) (fun e => hk23 (by have e' : B i = 45 := e; omega)) (fun x6 => ?_)
            refine pf_ifi (ci_ hc 42) (fun e => hk23 (by have e' : B i = 42 := e; omega)) (fun x7 => ?_)
            refine pf_ifi (ci_ hc 47) (fun e => hk23 (by have e' : B i = 47 := e; omega)) (fun x8 => ?_)
            refine pf_ifi (ci_ hc 40) (fun e => hk23 (by have e' : B i = 40 := e; omega)) (fun x9 => ?_)
            refine pf_ifi (ci_ hc 41) (fun e => hk23 (by have e' : B i = 41 := e; omega)) (fun x10 => ?_)
            refine pf_ifi (ci_ hc 59) (fun e => hk23 (by have e' : B i = 59 := e; omega)) (fun x11 => ?_)
            have y1 : ¬ B i = 60 := x1
            have y2 : ¬ B i = 62 := x2
            have y3 : ¬ B i = 61 := x3
            have y4 : ¬ B i = 35 := x4
            have y5 : ¬ B i = 43 := x5
            have y6 : ¬ B i = 45 := x6
            have y7 : ¬ B i = 42 := x7
            have y8 : ¬ B i = 47 := x8
            have y9 : ¬ B i = 40 := x9
            have y10 : ¬ B i = 41 := x10
            have y11 : ¬ B i = 59 := x11
            exact hk12 false ⟨fun e => (nomatch e), fun e => by omega⟩
        · -- a word
          have hlt' : ltr_ (B i) := by
            by_cases hh : ltr_ (B i)
            · exact hh
            · exact absurd hh hnl
          refine pf_bv (fun t2 e2 => pf_bv (fun t3 e3 => ?_))
          have n3 : NT_ s t3 := by rw [e3, e2]; exact (n_t.si (by decide)).sl
          have p3 : gi t3 27 8 = nI i := by rw [e3, gi_sl_, e2, gsi_ne (by decide)]; exact t8
          have a3 : gi t3 27 7 = nI i := by rw [e3, gi_sl_, e2, gsi_ne (by decide)]; exact t7
          have g3 : gi t3 27 9 = 2 := by rw [e3, gi_sl_, e2, gsi_eq]
          have w3 : gl t3 27 11 = Int64.ofNat (en_ (fun j => (B (i + j)).toNat) 0) := by rw [e3, gl_sl, if_pos rfl]; simp [vp_updL]; rfl
          clear e2 e3
          refine pf_jn (fun k => ∀ v nx, NT_ s v → gi v 27 8 = nI i → gi v 27 7 = nI nx → gi v 27 9 = 2 → i < nx → nx ≤ n → (∀ j, i ≤ j → j < nx → ltr_ (B j)) → ¬ ltr_ (B nx) → (nx - i ≤ 7 → gl v 27 11 = wd_ B i (nx - i)) → pf_ (k v) Q) ?_ (fun k27 hk27 => ?_)
          · intro v nx nv v8 v7 v9 h1 h2 h3 h4 h5
            have last : ∀ v', NT_ s v' → gi v' 27 8 = nI i → gi v' 27 7 = nI nx → gi v' 27 9 = 2 → gl v' 27 11 = wd_ B i (nx - i) → pf_ (some v') Q := fun v' a b e f g => by
              have hll : ∀ j, j < nx - i → ltr_ (B (i + j)) := fun j hj => h3 (i + j) (by omega) (by omega)
              have tkk : Tk_ B p (wk_ B i (nx - i)) i nx 0 := ⟨hpi, hsk, hns, Or.inr (Or.inl ⟨hlt', h1, h3, h4, rfl⟩)⟩
              refine fin v' _ i nx 0 a tkk h2 b e ⟨?_, fun e17 => absurd e17 (wkr_17 _ _), fun _ j hj => ?_⟩
              · rcases wkr_ex (f := mwb_ B i (nx - i)) 20 (Nat.le_refl _) with e25 | ⟨j, hj, _, ej⟩
                · exact Or.inr ⟨e25, f⟩
                · refine Or.inl ?_
                  have : ∀ j, j < 20 → mtk_ (kds_.getD j 0) = 2 := by decide +kernel
                  rw [f]
                  show 2 = mtk_ (wkr_ (mwb_ B i (nx - i)) 20)
                  rw [ej, this j hj]
              · rw [g, wd_iff hj hll, ← wk_iff hj]
            try dsimp only
            rw [v7, v8, sub_ (by omega)]
            refine pf_ifi (show nI (nx - i) ≤ 7 ↔ nx - i ≤ 7 from nI_lei (b := 7) (by omega) (by omega)) (fun hle => last v nv v8 v7 v9 (h5 hle)) (fun hgt => pf_bv (fun w ew => ?_))
            subst ew
            exact last _ nv.sl v8 v7 v9 (by rw [gl_sl, if_pos rfl]; unfold wd_; rw [if_neg hgt]; simp [vp_updL])
          · refine pf_lo1 (fun v => NT_ s v ∧ gi v 27 8 = nI i ∧ gi v 27 9 = 2 ∧ ∃ d, gi v 27 7 = nI (i + d) ∧ i + d ≤ n ∧ (∀ j, i ≤ j → j < i + d → ltr_ (B j)) ∧ (d ≤ 7 → gl v 27 11 = wd_ B i d)) ?_ FU t3 ⟨n3, p3, g3, 0, a3, by omega, fun j j1 j2 => by omega, fun _ => by rw [w3]; rfl⟩
            rintro rec v ⟨nv, v8, v9, d, v7, hdn, hl, hw⟩ hr
            have vp := nv.tp h
            unfold fX10_nextToken_161_b
            rw [v7]
            obtain ⟨c2, ec2, hc2⟩ := byt_ vp (show i + d < 2 ^ 30 by omega)
            refine pf_bnde ec2 (pf_bnde (isLetter_e _ _) (pf_ifi (b0i_ (lti_ hc2)) (fun hno => ?_) (fun hyes => ?_)))
            · refine hk27 v (i + d) nv v8 v7 v9 ?_ hdn hl hno (fun h7' => by rw [Nat.add_sub_cancel_left]; exact hw (by omega))
              by_cases e : d = 0
              · subst e; exact absurd hlt' hno
              · omega
            · have hyes' : ltr_ (B (i + d)) := by
                by_cases hh : ltr_ (B (i + d))
                · exact hh
                · exact absurd hh hyes
              have hby : 0 ≤ B (i + d) ∧ B (i + d) < 256 := by unfold ltr_ at hyes'; omega
              have hin2 := inn (i + d) hby.1
              refine pf_jn (fun k => ∀ v', NT_ s v' → gi v' 27 8 = nI i → gi v' 27 9 = 2 → gi v' 27 7 = nI (i + d) → (d + 1 ≤ 7 → gl v' 27 11 = wd_ B i (d + 1)) → pf_ (k v') Q) ?_ (fun k35 hk35 => ?_)
              · intro v' nv' b8 b9 b7 bw
                try dsimp only
                refine pf_bv (fun w ew => ?_)
                rw [b7, nI_1] at ew
                refine hr w ⟨by rw [ew]; exact nv'.si (by decide), by rw [ew, gsi_ne (by decide)]; exact b8, by rw [ew, gsi_ne (by decide)]; exact b9, d + 1, by rw [ew, gsi_eq]; rfl, by omega, fun j j1 j2 => ?_, fun h7' => by rw [ew]; exact bw h7'⟩
                by_cases ej : j = i + d
                · subst ej; exact hyes'
                · exact hl j j1 (by omega)
              · rw [v7, v8, sub_ (by omega), Nat.add_sub_cancel_left]
                refine pf_ifi (show 7 ≤ nI d ↔ 7 ≤ d from nI_lei (a := 7) (by omega) (by omega)) (fun h7' => hk35 v nv v8 v9 v7 (fun hh => by omega)) (fun h7' => ?_)
                refine pf_bnde ec2 (pf_bv (fun w ew => ?_))
                have ec : c2 = nI (B (i + d)).toNat := Int32.toInt_inj.mp (by rw [hc2, nI_toInt (by omega)]; omega)
                rw [hw (by omega), ec] at ew
                have hlb : en_ (fun j => (B (i + j)).toNat) d < 2 ^ 48 := by
                  have := en_lt (f := fun j => (B (i + j)).toNat) d (fun j hj => by
                    have := hl (i + j) (by omega) (by omega)
                    unfold ltr_ at this
                    try dsimp only
                    omega)
                  have p6 : 256 ^ d ≤ 256 ^ 6 := Nat.pow_le_pow_right (by decide) (by omega)
                  have e6 : (256 : Nat) ^ 6 = 2 ^ 48 := by decide
                  omega
                have ewd : wd_ B i d = Int64.ofNat (en_ (fun j => (B (i + j)).toNat) d) := by unfold wd_; rw [if_pos (by omega)]
                rw [ewd, wstep_ hlb (by omega)] at ew
                subst ew
                refine hk35 _ nv.sl v8 v9 v7 (fun hh => ?_)
                rw [gl_sl, if_pos rfl, updL_self]
                unfold wd_
                rw [if_pos hh]
                rfl
      · -- a number
        have hdg : dgt_ (B i) := by
          by_cases hh : dgt_ (B i)
          · exact hh
          · exact absurd hh hnd
        refine pf_bv (fun t2 e2 => pf_bv (fun t3 e3 => ?_))
        have n3 : NT_ s t3 := by rw [e3, e2]; exact (n_t.si (by decide)).si (by decide)
        have p3 : gi t3 27 8 = nI i := by rw [e3, gsi_ne (by decide), e2, gsi_ne (by decide)]; exact t8
        have a3 : gi t3 27 7 = nI i := by rw [e3, gsi_ne (by decide), e2, gsi_ne (by decide)]; exact t7
        have g3 : gi t3 27 9 = 1 := by rw [e3, gsi_ne (by decide), e2, gsi_eq]
        have w3 : gi t3 27 10 = nI 0 := by rw [e3, gsi_eq]; rfl
        clear e2 e3
        refine pf_lo1 (fun v => NT_ s v ∧ gi v 27 8 = nI i ∧ gi v 27 9 = 1 ∧ ∃ d m, gi v 27 7 = nI (i + d) ∧ i + d ≤ n ∧ (∀ j, i ≤ j → j < i + d → dgt_ (B j)) ∧ gi v 27 10 = nI m ∧ m < 1000000 ∧ val_ B i d = min m 10000) ?_ FU t3 ⟨n3, p3, g3, 0, 0, a3, by omega, fun j j1 j2 => by omega, w3, by omega, rfl⟩
        rintro rec v ⟨nv, v8, v9, d, m, v7, hdn, hl, hm, hml, hv⟩ hr
        have vp := nv.tp h
        unfold fX10_nextToken_85_b
        rw [v7]
        obtain ⟨c2, ec2, hc2⟩ := byt_ vp (show i + d < 2 ^ 30 by omega)
        refine pf_bnde ec2 (pf_bnde (isDigit_e _ _) (pf_ifi (b0i_ (dgi_ hc2)) (fun hno => ?_) (fun hyes => ?_)))
        · have hd0 : i < i + d := by
            by_cases e : d = 0
            · subst e; exact absurd hdg hno
            · omega
          refine fin v 17 i (i + d) (min m 10000) nv ⟨hpi, hsk, hns, Or.inr (Or.inr (Or.inl ⟨hdg, hd0, hl, hno, rfl, by rw [Nat.add_sub_cancel_left]; exact hv.symm⟩))⟩ hdn v8 v7 ⟨Or.inl (by rw [v9]; rfl), fun _ => ⟨m, hm, by omega, rfl⟩, fun e => by rw [v9] at e; exact absurd e (by decide +kernel)⟩
        · have hyes' : dgt_ (B (i + d)) := by
            by_cases hh : dgt_ (B (i + d))
            · exact hh
            · exact absurd hh hyes
          have hby : 48 ≤ B (i + d) ∧ B (i + d) ≤ 57 := hyes'
          have hin2 := inn (i + d) (by omega)
          refine pf_jn (fun k => ∀ v' m', NT_ s v' → gi v' 27 8 = nI i → gi v' 27 9 = 1 → gi v' 27 7 = nI (i + d) → gi v' 27 10 = nI m' → m' < 1000000 → val_ B i (d + 1) = min m' 10000 → pf_ (k v') Q) ?_ (fun k48 hk48 => ?_)
          · intro v' m' nv' b8 b9 b7 b10 bm bv'
            try dsimp only
            refine pf_bv (fun w ew => ?_)
            rw [b7, nI_1] at ew
            refine hr w ⟨by rw [ew]; exact nv'.si (by decide), by rw [ew, gsi_ne (by decide)]; exact b8, by rw [ew, gsi_ne (by decide)]; exact b9, d + 1, m', by rw [ew, gsi_eq]; rfl, by omega, fun j j1 j2 => ?_, by rw [ew, gsi_ne (by decide)]; exact b10, bm, bv'⟩
            by_cases ej : j = i + d
            · subst ej; exact hyes'
            · exact hl j j1 (by omega)
          · have vs : val_ B i (d + 1) = min (val_ B i d * 10 + (B (i + d) - 48).toNat) 10000 := rfl
            rw [hm]
            refine pf_ifi (show 100000 ≤ nI m ↔ 100000 ≤ m from nI_lei (a := 100000) (by omega) (by omega)) (fun hge => hk48 v m nv v8 v9 v7 hm hml ?_) (fun hlt2 => ?_)
            · rw [vs, hv, Nat.min_eq_right (show 10000 ≤ m by omega), Nat.min_eq_right (by omega)]
            · rw [v7]
              refine pf_bnde ec2 (pf_bv (fun w ew => ?_))
              have ec : 10 * nI m + c2 - 48 = nI (10 * m + (B (i + d) - 48).toNat) := by
                apply Int32.toInt_inj.mp
                have m10 := tm_10 (x := nI m) (by rw [nI_toInt (by omega)]; omega) (by rw [nI_toInt (by omega)]; omega)
                rw [nI_toInt (by omega)] at m10
                have f1 := ti_add (x := 10 * nI m) (y := c2) (by omega) (by omega)
                have f2 := ti_sub (x := 10 * nI m + c2) (y := 48) (by rw [show (48 : Int32).toInt = 48 from rfl]; omega) (by rw [show (48 : Int32).toInt = 48 from rfl]; omega)
                rw [f2, f1, m10, hc2, nI_toInt (by omega), show (48 : Int32).toInt = 48 from rfl]
                omega
              rw [ec] at ew
              refine hk48 w (10 * m + (B (i + d) - 48).toNat) (by rw [ew]; exact nv.si (by decide)) (by rw [ew, gsi_ne (by decide)]; exact v8) (by rw [ew, gsi_ne (by decide)]; exact v9) (by rw [ew, gsi_ne (by decide)]; exact v7) (by rw [ew, gsi_eq]) (by omega) ?_
              rw [vs, hv]
              omega
    · have h0' := nle_ti h0
      rw [hc, show (0 : Int32).toInt = 0 from rfl] at h0'
      have e : i = n := by
        by_cases hh : i < n
        · have := (h.2.2.1 i hh).1; omega
        · omega
      subst e
      refine pf_bv (fun z ez => ?_)
      exact fin z 24 i i 0 (by rw [ez]; exact n_t.si (by decide)) ⟨hpi, hsk, hns, Or.inl ⟨h.2.2.2 i (Nat.le_refl _), rfl, rfl⟩⟩ (Nat.le_refl _) (by rw [ez, gsi_ne (by decide)]; exact t8) (by rw [ez, gsi_ne (by decide)]; exact t7) ⟨Or.inl (by rw [ez, gsi_eq]; rfl), fun e => by omega, fun e => by rw [ez, gsi_eq] at e; exact absurd e (by decide +kernel)⟩
  · refine pf_lo1 (fun u => NT_ s u ∧ ∃ i, gi u 27 7 = nI i ∧ p ≤ i ∧ i ≤ n ∧ ∀ j, p ≤ j → j < i → skp_ (B j)) ?_ FU s ⟨NT_.rf, p, h7, Nat.le_refl _, hp, fun j j1 j2 => by omega⟩
    rintro rec u ⟨nu, i, u7, h1, h2, h3⟩ hr
    have up := nu.tp h
    unfold fX10_nextToken_0_b
    rw [u7]
    obtain ⟨c, ec, hc⟩ := byt_ up (show i < 2 ^ 30 by omega)
    refine pf_bnde ec ?_
    refine pf_jn (fun k => skp_ (B i) → pf_ (k u) Q) ?_ (fun k58 hk58 => ?_)
    · intro hs
      try dsimp only
      refine pf_bv (fun z ez => ?_)
      rw [u7, nI_1] at ez
      have hi := inn i (by unfold skp_ at hs; omega)
      refine hr z ⟨by rw [ez]; exact nu.si (by decide), i + 1, by rw [ez, gsi_eq], by omega, by omega, fun j j1 j2 => ?_⟩
      by_cases ej : j = i
      · subst ej; exact hs
      · exact h3 j j1 (by omega)
    · refine pf_ifi (ci_ hc 32) (fun e => hk58 (Or.inl e)) (fun n32 => ?_)
      rw [u7]
      refine pf_bnde ec (pf_ifi (ci_ hc 10) (fun e => hk58 (Or.inr e)) (fun n10 => hk2 u i nu u7 h1 h2 h3 (fun e => ?_)))
      rcases e with e | e
      · exact n32 e
      · exact n10 e
