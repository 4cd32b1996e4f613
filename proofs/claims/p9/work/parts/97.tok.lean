/-! tokens of a tape -/
def dgt_ (x : Int) : Prop := 48 ≤ x ∧ x ≤ 57
def ltr_ (x : Int) : Prop := (97 ≤ x ∧ x ≤ 122) ∨ (65 ≤ x ∧ x ≤ 90)
def skp_ (x : Int) : Prop := x = 32 ∨ x = 10
/-- the value of n digits, held at 10000 -/
def val_ (B : Nat → Int) (st : Nat) : Nat → Nat
  | 0 => 0
  | n + 1 => min (val_ B st n * 10 + (B (st + n) - 48).toNat) 10000
theorem val_le (B : Nat → Int) (st : Nat) : ∀ n, val_ B st n ≤ 10000 := by
  intro n
  cases n with
  | zero => exact Nat.zero_le _
  | succ n => exact Nat.min_le_right _ _
/-- a letter of a word -/
def chv_ (i j : Nat) : Int32 := (Int32.toUInt32 ((sBv (100 + i + 50) j) &&& 255) % 65536).toInt32
def mwb_ (B : Nat → Int) (st n i : Nat) : Bool := decide (n = sLv (100 + i + 50)) && (List.range (sLv (100 + i + 50))).all (fun j => decide (B (st + j) = (chv_ i j).toInt))
theorem mwb_iff {B : Nat → Int} {st n i : Nat} : mwb_ B st n i = true ↔ n = sLv (100 + i + 50) ∧ ∀ j, j < n → B (st + j) = (chv_ i j).toInt := by
  unfold mwb_
  rw [Bool.and_eq_true, decide_eq_true_eq, List.all_eq_true]
  constructor
  · rintro ⟨h1, h2⟩
    refine ⟨h1, fun j hj => ?_⟩
    have := h2 j (List.mem_range.mpr (by omega))
    exact decide_eq_true_eq.mp this
  · rintro ⟨h1, h2⟩
    exact ⟨h1, fun j hj => decide_eq_true_eq.mpr (h2 j (by rw [h1]; exact List.mem_range.mp hj))⟩
def kds_ : List Nat := [1, 2, 3, 18, 19, 20, 21, 22, 23, 26, 27, 28, 29, 30, 31, 32, 33, 34, 35, 36]
def wkr_ (f : Nat → Bool) : Nat → Nat
  | 0 => 25
  | k + 1 => if f (19 - k) = true then kds_.getD (19 - k) 25 else wkr_ f k
def wk_ (B : Nat → Int) (st n : Nat) : Nat := wkr_ (mwb_ B st n) 20
/-- the sign c, with d behind it -/
def sgk_ (c d : Int) : Nat :=
  if c = 35 then 9 else if c = 40 then 0 else if c = 41 then 15 else if c = 42 then 12 else if c = 43 then 10 else if c = 45 then 11 else if c = 47 then 13 else if c = 59 then 16 else if c = 60 then (if d = 61 then 5 else 4) else if c = 61 then 8 else if c = 62 then (if d = 61 then 7 else 6) else 25
/-- the token that is come to from p on: its kind, first byte, end, number -/
def Tk_ (B : Nat → Int) (p kd st nx nm : Nat) : Prop := p ≤ st ∧ (∀ i, p ≤ i → i < st → skp_ (B i)) ∧ ¬ skp_ (B st) ∧
  ((B st = -1 ∧ kd = 24 ∧ nx = st) ∨ (ltr_ (B st) ∧ st < nx ∧ (∀ i, st ≤ i → i < nx → ltr_ (B i)) ∧ ¬ ltr_ (B nx) ∧ kd = wk_ B st (nx - st)) ∨ (dgt_ (B st) ∧ st < nx ∧ (∀ i, st ≤ i → i < nx → dgt_ (B i)) ∧ ¬ dgt_ (B nx) ∧ kd = 17 ∧ nm = val_ B st (nx - st)) ∨ (B st ≠ -1 ∧ ¬ ltr_ (B st) ∧ ¬ dgt_ (B st) ∧ kd = sgk_ (B st) (B (st + 1)) ∧ nx = st + (if kd = 5 ∨ kd = 7 then 2 else 1)))
theorem run_un {P : Int → Prop} {B : Nat → Int} {st a b : Nat} (h1 : ∀ i, st ≤ i → i < a → P (B i)) (h2 : ¬ P (B a)) (h3 : ∀ i, st ≤ i → i < b → P (B i)) (h4 : ¬ P (B b)) (ha : st ≤ a) (hb : st ≤ b) : a = b := by
  by_cases h : a < b
  · exact absurd (h3 a ha h) h2
  · by_cases h' : b < a
    · exact absurd (h1 b hb h') h4
    · omega
theorem Tk_det {B : Nat → Int} {p kd st nx nm kd' st' nx' nm' : Nat} (h : Tk_ B p kd st nx nm) (h' : Tk_ B p kd' st' nx' nm') : kd = kd' ∧ st = st' ∧ nx = nx' ∧ (kd = 17 → dgt_ (B st) → nm = nm') := by
  obtain ⟨a1, a2, a3, a4⟩ := h
  obtain ⟨b1, b2, b3, b4⟩ := h'
  have est : st = st' := run_un (P := skp_) a2 a3 b2 b3 a1 b1
  subst est
  have nl : B st = -1 → ¬ ltr_ (B st) ∧ ¬ dgt_ (B st) := fun e => by unfold ltr_ dgt_; omega
  have nd : ltr_ (B st) → ¬ dgt_ (B st) := fun e => by unfold ltr_ at e; unfold dgt_; omega
  rcases a4 with ⟨c1, c2, c3⟩ | ⟨c1, c2, c3, c4, c5⟩ | ⟨c1, c2, c3, c4, c5, c6⟩ | ⟨c1, c2, c3, c4, c5⟩
  · rcases b4 with ⟨d1, d2, d3⟩ | ⟨d1, _⟩ | ⟨d1, _⟩ | ⟨d1, _⟩
    · exact ⟨by omega, rfl, by omega, fun _ e => absurd e (nl c1).2⟩
    · exact absurd d1 (nl c1).1
    · exact absurd d1 (nl c1).2
    · exact absurd c1 d1
  · rcases b4 with ⟨d1, _⟩ | ⟨d1, d2, d3, d4, d5⟩ | ⟨d1, _⟩ | ⟨d1, d2, _⟩
    · exact absurd c1 (nl d1).1
    · have : nx = nx' := run_un (P := ltr_) c3 c4 d3 d4 (by omega) (by omega)
      subst this
      exact ⟨by rw [c5, d5], rfl, rfl, fun _ e => absurd e (nd c1)⟩
    · exact absurd d1 (nd c1)
    · exact absurd c1 d2
  · rcases b4 with ⟨d1, _⟩ | ⟨d1, _⟩ | ⟨d1, d2, d3, d4, d5, d6⟩ | ⟨d1, d2, d3, _⟩
    · exact absurd c1 (nl d1).2
    · exact absurd c1 (nd d1)
    · have : nx = nx' := run_un (P := dgt_) c3 c4 d3 d4 (by omega) (by omega)
      subst this
      exact ⟨by omega, rfl, rfl, fun _ _ => by rw [c6, d6]⟩
    · exact absurd c1 d3
  · rcases b4 with ⟨d1, _⟩ | ⟨d1, _⟩ | ⟨d1, _⟩ | ⟨d1, d2, d3, d4, d5⟩
    · exact absurd d1 c1
    · exact absurd d1 c2
    · exact absurd d1 c3
    · have : kd = kd' := by rw [c4, d4]
      subst this
      exact ⟨rfl, rfl, by omega, fun _ e => absurd e c3⟩
/-- the class's tape, and the model's: n bytes -/
def TPc_ (B : Nat → Int) (n : Nat) (s : Sg) : Prop := gi s 3 1 = nI n ∧ n ≤ 300 ∧ (∀ k, k < n → 0 ≤ B k ∧ B k ≤ 255 ∧ (gi s 17 k).toInt = (if B k < 128 then B k else B k - 256)) ∧ ∀ k, n ≤ k → B k = -1
def TPm_ (B : Nat → Int) (n : Nat) (s : Sg) : Prop := gi s 27 4 = nI n ∧ n ≤ 300 ∧ (∀ k, k < n → 0 ≤ B k ∧ B k ≤ 255 ∧ (gi s 31 k).toInt = B k) ∧ ∀ k, n ≤ k → B k = -1
theorem TPc_.eq {B : Nat → Int} {n k : Nat} {s : Sg} (h : TPc_ B n s) (hk : k < n) {c : Int32} (hc : 0 ≤ c.toInt ∧ c.toInt < 128) : gi s 17 k = c ↔ B k = c.toInt := by
  obtain ⟨a1, a2, a3⟩ := h.2.2.1 k hk
  constructor
  · intro e
    rw [e] at a3
    by_cases h1 : B k < 128
    · rw [if_pos h1] at a3; exact a3.symm
    · rw [if_neg h1] at a3; omega
  · intro e
    rw [if_pos (by omega)] at a3
    exact Int32.toInt_inj.mp (by rw [a3]; exact e)
/-- bytes of the class, by what they are -/
theorem isLetter9_v {B : Nat → Int} {n k : Nat} {s t : Sg} (h : TPc_ B n s) (hk : k < n) : ∃ b, fX7_isLetter (gi s 17 k) t = some (b, t) ∧ (b = true ↔ ltr_ (B k)) := by
  obtain ⟨a1, a2, a3⟩ := h.2.2.1 k hk
  have L65 : (65 : Int32).toInt = 65 := rfl
  have L90 : (90 : Int32).toInt = 90 := rfl
  have L97 : (97 : Int32).toInt = 97 := rfl
  have L122 : (122 : Int32).toInt = 122 := rfl
  have key : ∀ b : Bool, (b = true ↔ (97 ≤ (gi s 17 k).toInt ∧ (gi s 17 k).toInt ≤ 122) ∨ (65 ≤ (gi s 17 k).toInt ∧ (gi s 17 k).toInt ≤ 90)) → (b = true ↔ ltr_ (B k)) := fun b hb => by
    rw [hb]
    unfold ltr_
    by_cases h1 : B k < 128
    · rw [if_pos h1] at a3; rw [a3]
    · rw [if_neg h1] at a3; omega
  unfold fX7_isLetter
  simp only [bv]
  by_cases h1 : gi s 17 k < 97
  · rw [if_pos h1]
    have h1' := lt_ti h1
    by_cases h2 : gi s 17 k < 65
    · rw [if_pos h2]
      have h2' := lt_ti h2
      exact ⟨false, rfl, key _ ⟨fun e => (nomatch e), fun e => by omega⟩⟩
    · rw [if_neg h2]
      have h2' := nlt_ti h2
      by_cases h3 : 90 < gi s 17 k
      · rw [if_pos h3]
        have h3' := lt_ti h3
        exact ⟨false, rfl, key _ ⟨fun e => (nomatch e), fun e => by omega⟩⟩
      · rw [if_neg h3]
        have h3' := nlt_ti h3
        exact ⟨true, rfl, key _ ⟨fun _ => by omega, fun _ => rfl⟩⟩
  · rw [if_neg h1]
    have h1' := nlt_ti h1
    by_cases h4 : gi s 17 k ≤ 122
    · rw [if_pos h4]
      have h4' := le_ti h4
      exact ⟨true, rfl, key _ ⟨fun _ => by omega, fun _ => rfl⟩⟩
    · rw [if_neg h4]
      have h4' := nle_ti h4
      rw [if_neg (by rw [Int32.lt_iff_toInt_lt]; omega), if_pos (by rw [Int32.lt_iff_toInt_lt]; omega)]
      exact ⟨false, rfl, key _ ⟨fun e => (nomatch e), fun e => by omega⟩⟩
theorem isDigit9_v {B : Nat → Int} {n k : Nat} {s t : Sg} (h : TPc_ B n s) (hk : k < n) : ∃ b, fX7_isDigit (gi s 17 k) t = some (b, t) ∧ (b = true ↔ dgt_ (B k)) := by
  obtain ⟨a1, a2, a3⟩ := h.2.2.1 k hk
  have L48 : (48 : Int32).toInt = 48 := rfl
  have L57 : (57 : Int32).toInt = 57 := rfl
  have key : ∀ b : Bool, (b = true ↔ 48 ≤ (gi s 17 k).toInt ∧ (gi s 17 k).toInt ≤ 57) → (b = true ↔ dgt_ (B k)) := fun b hb => by
    rw [hb]
    unfold dgt_
    by_cases h1 : B k < 128
    · rw [if_pos h1] at a3; rw [a3]
    · rw [if_neg h1] at a3; omega
  unfold fX7_isDigit
  by_cases h1 : gi s 17 k < 48
  · rw [if_pos h1]
    have h1' := lt_ti h1
    exact ⟨false, rfl, key _ ⟨fun e => (nomatch e), fun e => by omega⟩⟩
  · rw [if_neg h1]
    have h1' := nlt_ti h1
    by_cases h2 : 57 < gi s 17 k
    · rw [if_pos h2]
      have h2' := lt_ti h2
      exact ⟨false, rfl, key _ ⟨fun e => (nomatch e), fun e => by omega⟩⟩
    · rw [if_neg h2]
      have h2' := nlt_ti h2
      exact ⟨true, rfl, key _ ⟨fun _ => by omega, fun _ => rfl⟩⟩
theorem len9_e {i : Nat} (hi : i < 20) (s : Sg) : fJ0_length_8abf5 (100 + i) s = some (nI (sLv (100 + i + 50)), s) := by
  obtain ⟨k1, k2, -⟩ := str_len i hi
  have e : fJ0_coder_7d493 (100 + i) s = some (0, s) := by
    unfold fJ0_coder_7d493
    exact if_neg one_n0
  unfold fJ0_length_8abf5
  rw [e, bnd_p]
  refine congrArg some (Prod.ext (Int32.toInt_inj.mp ?_) rfl)
  rw [nI_toInt (by omega)]
  exact k1
theorem chr9_e {i j : Nat} (hi : i < 20) (hj : j < sLv (100 + i + 50)) (s : Sg) : fJ0_charAt_5068e (100 + i) (nI j) s = some (chv_ i j, s) := by
  obtain ⟨k1, k2, k3⟩ := str_len i hi
  have h00 : (0 : Int32).toInt = 0 := rfl
  have tj : (nI j).toInt = (j : Int) := nI_toInt (by omega)
  have hc : fJ3_checkIndex_8e157 (nI j) (Int32.ofNat (sLv (100 + i + 50))) s = some (nI j, s) := by
    unfold fJ3_checkIndex_8e157
    rw [bv_p, if_neg (by rw [Int32.lt_iff_toInt_lt]; omega), if_pos (by rw [Int32.lt_iff_toInt_lt, k3]; omega)]
  have hx : ix (nI j) = j := ix_nI (by omega)
  have hn := str_chr i hi j hj
  have hl : fJ0_isLatin1_aae02 (100 + i) s = some (true, s) := by
    unfold fJ0_isLatin1_aae02
    rw [if_neg one_n0, if_pos rfl]
  have h1 : fJ1_charAt_3b067 (100 + i + 50) (nI j) s = some (chv_ i j, s) := by
    unfold fJ1_charAt_3b067 fJ0_checkIndex_df160 chv_
    rw [hc, bnd_p, bnv_p, inb_ti (by omega) (by omega), chk_p, hx, hn, chk_p]
  unfold fJ0_charAt_5068e
  rw [hl, bnd_p, b2i_t, if_neg one_n0, h1, bnd_p]
  unfold chv_
  rw [hn, chk_p]
theorem chv_lt : ∀ i, i < 20 → ∀ j, j < sLv (100 + i + 50) → 97 ≤ (chv_ i j).toInt ∧ (chv_ i j).toInt ≤ 122 := by decide +kernel
theorem reads9_v {B : Nat → Int} {n st nx i : Nat} {s : Sg} (hi : i < 20) (h : TPc_ B n s) (h3 : gi s 3 3 = nI st) (h4 : gi s 3 4 = nI nx) (hst : st ≤ nx) (hnx : nx ≤ n) : pf_ (fX7_reads (100 + i) s) (fun q => q.2 = s ∧ q.1 = mwb_ B st (nx - st) i) := by
  have hn := h.2.1
  obtain ⟨_, k2, _⟩ := str_len i hi
  unfold fX7_reads
  refine pf_bnde (len9_e hi s) ?_
  rw [h3, h4, sub_ hst]
  refine pf_ifi (nI_eqi (by omega) (by omega)) (fun hl => ?_) (fun hl => pf_some ⟨rfl, ?_⟩)
  · refine pf_lo2 (fun (x : Int32) u => ∃ j, x = nI j ∧ j ≤ nx - st ∧ u = s ∧ ∀ j', j' < j → B (st + j') = (chv_ i j').toInt) ?_ FU 0 s ⟨0, rfl, by omega, rfl, fun j' hj' => by omega⟩
    rintro rec x u ⟨j, rfl, hj, rfl, hm⟩ hr
    unfold fX7_reads_20_b
    refine pf_bnde (len9_e hi u) ?_
    refine pf_ifi (nI_lei (by omega) (by omega)) (fun hle => pf_some ⟨rfl, ?_⟩) (fun hlt => ?_)
    · exact (mwb_iff.mpr ⟨hl, fun j' hj' => hm j' (by omega)⟩).symm
    · refine pf_chk (fun _ => pf_bnde (chr9_e hi (by omega) u) ?_)
      rw [h3, nI_add_, ix_nI (by omega)]
      have hc := chv_lt i hi j (by omega)
      refine pf_ifi (h.eq (by omega) (by omega)) (fun he => pf_bv (fun v ev => ?_)) (fun hne => pf_some ⟨rfl, ?_⟩)
      · rw [nI_1] at ev
        subst ev
        refine hr _ u ⟨j + 1, rfl, by omega, rfl, fun j' hj' => ?_⟩
        by_cases e : j' = j
        · subst e; exact he
        · exact hm j' (by omega)
      · cases hb : mwb_ B st (nx - st) i with
        | false => rfl
        | true => exact absurd ((mwb_iff.mp hb).2 j (by omega)) hne
  · cases hb : mwb_ B st (nx - st) i with
    | false => rfl
    | true => exact absurd (mwb_iff.mp hb).1 hl
theorem wordToken9_v {B : Nat → Int} {n st nx : Nat} {s : Sg} (h : TPc_ B n s) (h3 : gi s 3 3 = nI st) (h4 : gi s 3 4 = nI nx) (hst : st ≤ nx) (hnx : nx ≤ n) : pf_ (fX7_wordToken s) (fun q => q.2 = s ∧ q.1 = nI (wk_ B st (nx - st))) := by
  have R : ∀ i, i < 20 → pf_ (fX7_reads (100 + i) s) (fun q => q.2 = s ∧ q.1 = mwb_ B st (nx - st) i) := fun i hi => reads9_v hi h h3 h4 hst hnx
  unfold wk_
  generalize mwb_ B st (nx - st) = f at R ⊢
  unfold fX7_wordToken
  refine pf_bnd (R 0 (by decide)) (fun r0 s0 e0 => ?_)
  obtain ⟨ea0, eb0⟩ := e0
  dsimp only at ea0 eb0
  subst ea0
  refine pf_ifc (fun z0 => ?_) (fun z0 => pf_some ⟨rfl, ?_⟩)
  rotate_left
  · have y0 := b2i_ne z0
    rw [eb0] at y0
    simp [wkr_, kds_, y0]
    rfl
  have x0 := b2i_eq z0
  rw [eb0] at x0
  clear eb0 z0
  refine pf_bnd (R 1 (by decide)) (fun r1 s1 e1 => ?_)
  obtain ⟨ea1, eb1⟩ := e1
  dsimp only at ea1 eb1
  subst ea1
  refine pf_ifc (fun z1 => ?_) (fun z1 => pf_some ⟨rfl, ?_⟩)
  rotate_left
  · have y1 := b2i_ne z1
    rw [eb1] at y1
    simp [wkr_, kds_, y1, x0]
    rfl
  have x1 := b2i_eq z1
  rw [eb1] at x1
  clear eb1 z1
  refine pf_bnd (R 2 (by decide)) (fun r2 s2 e2 => ?_)
  obtain ⟨ea2, eb2⟩ := e2
  dsimp only at ea2 eb2
  subst ea2
  refine pf_ifc (fun z2 => ?_) (fun z2 => pf_some ⟨rfl, ?_⟩)
  rotate_left
  · have y2 := b2i_ne z2
    rw [eb2] at y2
    simp [wkr_, kds_, y2, x0, x1]
    rfl
  have x2 := b2i_eq z2
  rw [eb2] at x2
  clear eb2 z2
  refine pf_bnd (R 3 (by decide)) (fun r3 s3 e3 => ?_)
  obtain ⟨ea3, eb3⟩ := e3
  dsimp only at ea3 eb3
  subst ea3
  refine pf_ifc (fun z3 => ?_) (fun z3 => pf_some ⟨rfl, ?_⟩)
  rotate_left
  · have y3 := b2i_ne z3
    rw [eb3] at y3
    simp [wkr_, kds_, y3, x0, x1, x2]
    rfl
  have x3 := b2i_eq z3
  rw [eb3] at x3
  clear eb3 z3
  refine pf_bnd (R 4 (by decide)) (fun r4 s4 e4 => ?_)
  obtain ⟨ea4, eb4⟩ := e4
  dsimp only at ea4 eb4
  subst ea4
  refine pf_ifc (fun z4 => ?_) (fun z4 => pf_some ⟨rfl, ?_⟩)
  rotate_left
  · have y4 := b2i_ne z4
    rw [eb4] at y4
    simp [wkr_, kds_, y4, x0, x1, x2, x3]
    rfl
  have x4 := b2i_eq z4
  rw [eb4] at x4
  clear eb4 z4
  refine pf_bnd (R 5 (by decide)) (fun r5 s5 e5 => ?_)
  obtain ⟨ea5, eb5⟩ := e5
  dsimp only at ea5 eb5
  subst ea5
  refine pf_ifc (fun z5 => ?_) (fun z5 => pf_some ⟨rfl, ?_⟩)
  rotate_left
  · have y5 := b2i_ne z5
    rw [eb5] at y5
    simp [wkr_, kds_, y5, x0, x1, x2, x3, x4]
    rfl
  have x5 := b2i_eq z5
  rw [eb5] at x5
  clear eb5 z5
  refine pf_bnd (R 6 (by decide)) (fun r6 s6 e6 => ?_)
  obtain ⟨ea6, eb6⟩ := e6
  dsimp only at ea6 eb6
  subst ea6
  refine pf_ifc (fun z6 => ?_) (fun z6 => pf_some ⟨rfl, ?_⟩)
  rotate_left
  · have y6 := b2i_ne z6
    rw [eb6] at y6
    simp [wkr_, kds_, y6, x0, x1, x2, x3, x4, x5]
    rfl
  have x6 := b2i_eq z6
  rw [eb6] at x6
  clear eb6 z6
  refine pf_bnd (R 7 (by decide)) (fun r7 s7 e7 => ?_)
  obtain ⟨ea7, eb7⟩ := e7
  dsimp only at ea7 eb7
  subst ea7
  refine pf_ifc (fun z7 => ?_) (fun z7 => pf_some ⟨rfl, ?_⟩)
  rotate_left
  · have y7 := b2i_ne z7
    rw [eb7] at y7
    simp [wkr_, kds_, y7, x0, x1, x2, x3, x4, x5, x6]
    rfl
  have x7 := b2i_eq z7
  rw [eb7] at x7
  clear eb7 z7
  refine pf_bnd (R 8 (by decide)) (fun r8 s8 e8 => ?_)
  obtain ⟨ea8, eb8⟩ := e8
  dsimp only at ea8 eb8
  subst ea8
  refine pf_ifc (fun z8 => ?_) (fun z8 => pf_some ⟨rfl, ?_⟩)
  rotate_left
  · have y8 := b2i_ne z8
    rw [eb8] at y8
    simp [wkr_, kds_, y8, x0, x1, x2, x3, x4, x5, x6, x7]
    rfl
  have x8 := b2i_eq z8
  rw [eb8] at x8
  clear eb8 z8
  refine pf_bnd (R 9 (by decide)) (fun r9 s9 e9 => ?_)
  obtain ⟨ea9, eb9⟩ := e9
  dsimp only at ea9 eb9
  subst ea9
  refine pf_ifc (fun z9 => ?_) (fun z9 => pf_some ⟨rfl, ?_⟩)
  rotate_left
  · have y9 := b2i_ne z9
    rw [eb9] at y9
    simp [wkr_, kds_, y9, x0, x1, x2, x3, x4, x5, x6, x7, x8]
    rfl
  have x9 := b2i_eq z9
  rw [eb9] at x9
  clear eb9 z9
  refine pf_bnd (R 10 (by decide)) (fun r10 s10 e10 => ?_)
  obtain ⟨ea10, eb10⟩ := e10
  dsimp only at ea10 eb10
  subst ea10
  refine pf_ifc (fun z10 => ?_) (fun z10 => pf_some ⟨rfl, ?_⟩)
  rotate_left
  · have y10 := b2i_ne z10
    rw [eb10] at y10
    simp [wkr_, kds_, y10, x0, x1, x2, x3, x4, x5, x6, x7, x8, x9]
    rfl
  have x10 := b2i_eq z10
  rw [eb10] at x10
  clear eb10 z10
  refine pf_bnd (R 11 (by decide)) (fun r11 s11 e11 => ?_)
  obtain ⟨ea11, eb11⟩ := e11
  dsimp only at ea11 eb11
  subst ea11
  refine pf_ifc (fun z11 => ?_) (fun z11 => pf_some ⟨rfl, ?_⟩)
  rotate_left
  · have y11 := b2i_ne z11
    rw [eb11] at y11
    simp [wkr_, kds_, y11, x0, x1, x2, x3, x4, x5, x6, x7, x8, x9, x10]
    rfl
  have x11 := b2i_eq z11
  rw [eb11] at x11
  clear eb11 z11
  refine pf_bnd (R 12 (by decide)) (fun r12 s12 e12 => ?_)
  obtain ⟨ea12, eb12⟩ := e12
  dsimp only at ea12 eb12
  subst ea12
  refine pf_ifc (fun z12 => ?_) (fun z12 => pf_some ⟨rfl, ?_⟩)
  rotate_left
  · have y12 := b2i_ne z12
    rw [eb12] at y12
    simp [wkr_, kds_, y12, x0, x1, x2, x3, x4, x5, x6, x7, x8, x9, x10, x11]
    rfl
  have x12 := b2i_eq z12
  rw [eb12] at x12
  clear eb12 z12
  refine pf_bnd (R 13 (by decide)) (fun r13 s13 e13 => ?_)
  obtain ⟨ea13, eb13⟩ := e13
  dsimp only at ea13 eb13
  subst ea13
  refine pf_ifc (fun z13 => ?_) (fun z13 => pf_some ⟨rfl, ?_⟩)
  rotate_left
  · have y13 := b2i_ne z13
    rw [eb13] at y13
    simp [wkr_, kds_, y13, x0, x1, x2, x3, x4, x5, x6, x7, x8, x9, x10, x11, x12]
    rfl
  have x13 := b2i_eq z13
  rw [eb13] at x13
  clear eb13 z13
  refine pf_bnd (R 14 (by decide)) (fun r14 s14 e14 => ?_)
  obtain ⟨ea14, eb14⟩ := e14
  dsimp only at ea14 eb14
  subst ea14
  refine pf_ifc (fun z14 => ?_) (fun z14 => pf_some ⟨rfl, ?_⟩)
  rotate_left
  · have y14 := b2i_ne z14
    rw [eb14] at y14
    simp [wkr_, kds_, y14, x0, x1, x2, x3, x4, x5, x6, x7, x8, x9, x10, x11, x12, x13]
    rfl
  have x14 := b2i_eq z14
  rw [eb14] at x14
  clear eb14 z14
  refine pf_bnd (R 15 (by decide)) (fun r15 s15 e15 => ?_)
  obtain ⟨ea15, eb15⟩ := e15
  dsimp only at ea15 eb15
  subst ea15
  refine pf_ifc (fun z15 => ?_) (fun z15 => pf_some ⟨rfl, ?_⟩)
  rotate_left
  · have y15 := b2i_ne z15
    rw [eb15] at y15
    simp [wkr_, kds_, y15, x0, x1, x2, x3, x4, x5, x6, x7, x8, x9, x10, x11, x12, x13, x14]
    rfl
  have x15 := b2i_eq z15
  rw [eb15] at x15
  clear eb15 z15
  refine pf_bnd (R 16 (by decide)) (fun r16 s16 e16 => ?_)
  obtain ⟨ea16, eb16⟩ := e16
  dsimp only at ea16 eb16
  subst ea16
  refine pf_ifc (fun z16 => ?_) (fun z16 => pf_some ⟨rfl, ?_⟩)
  rotate_left
  · have y16 := b2i_ne z16
    rw [eb16] at y16
    simp [wkr_, kds_, y16, x0, x1, x2, x3, x4, x5, x6, x7, x8, x9, x10, x11, x12, x13, x14, x15]
    rfl
  have x16 := b2i_eq z16
  rw [eb16] at x16
  clear eb16 z16
  refine pf_bnd (R 17 (by decide)) (fun r17 s17 e17 => ?_)
  obtain ⟨ea17, eb17⟩ := e17
  dsimp only at ea17 eb17
  subst ea17
  refine pf_ifc (fun z17 => ?_) (fun z17 => pf_some ⟨rfl, ?_⟩)
  rotate_left
  · have y17 := b2i_ne z17
    rw [eb17] at y17
    simp [wkr_, kds_, y17, x0, x1, x2, x3, x4, x5, x6, x7, x8, x9, x10, x11, x12, x13, x14, x15, x16]
    rfl
  have x17 := b2i_eq z17
  rw [eb17] at x17
  clear eb17 z17
  refine pf_bnd (R 18 (by decide)) (fun r18 s18 e18 => ?_)
  obtain ⟨ea18, eb18⟩ := e18
  dsimp only at ea18 eb18
  subst ea18
  refine pf_ifc (fun z18 => ?_) (fun z18 => pf_some ⟨rfl, ?_⟩)
  rotate_left
  · have y18 := b2i_ne z18
    rw [eb18] at y18
    simp [wkr_, kds_, y18, x0, x1, x2, x3, x4, x5, x6, x7, x8, x9, x10, x11, x12, x13, x14, x15, x16, x17]
    rfl
  have x18 := b2i_eq z18
  rw [eb18] at x18
  clear eb18 z18
  refine pf_bnd (R 19 (by decide)) (fun r19 s19 e19 => ?_)
  obtain ⟨ea19, eb19⟩ := e19
  dsimp only at ea19 eb19
  subst ea19
  refine pf_ifc (fun z19 => ?_) (fun z19 => pf_some ⟨rfl, ?_⟩)
  rotate_left
  · have y19 := b2i_ne z19
    rw [eb19] at y19
    simp [wkr_, kds_, y19, x0, x1, x2, x3, x4, x5, x6, x7, x8, x9, x10, x11, x12, x13, x14, x15, x16, x17, x18]
    rfl
  have x19 := b2i_eq z19
  rw [eb19] at x19
  clear eb19 z19
  refine pf_some ⟨rfl, ?_⟩
  simp [wkr_, x0, x1, x2, x3, x4, x5, x6, x7, x8, x9, x10, x11, x12, x13, x14, x15, x16, x17, x18, x19]
  rfl
