theorem compareOf_x (t : Sg) : ∃ r : Int32, fX10_compareOf t = some (r, t) ∧ r.toInt < 20 ∧ (0 ≤ r.toInt → 10 ≤ r.toInt ∧ gi t 27 9 ≠ 0) := by
  unfold fX10_compareOf
  by_cases h1 : gi t 27 9 = 60
  · rw [if_pos h1]; exact ⟨_, rfl, by decide +kernel, fun _ => ⟨by decide +kernel, by rw [h1]; decide +kernel⟩⟩
  rw [if_neg h1]
  by_cases h2 : gi t 27 9 = 4
  · rw [if_pos h2]; exact ⟨_, rfl, by decide +kernel, fun _ => ⟨by decide +kernel, by rw [h2]; decide +kernel⟩⟩
  rw [if_neg h2]
  by_cases h3 : gi t 27 9 = 62
  · rw [if_pos h3]; exact ⟨_, rfl, by decide +kernel, fun _ => ⟨by decide +kernel, by rw [h3]; decide +kernel⟩⟩
  rw [if_neg h3]
  by_cases h4 : gi t 27 9 = 5
  · rw [if_pos h4]; exact ⟨_, rfl, by decide +kernel, fun _ => ⟨by decide +kernel, by rw [h4]; decide +kernel⟩⟩
  rw [if_neg h4]
  by_cases h5 : gi t 27 9 = 61
  · rw [if_pos h5]; exact ⟨_, rfl, by decide +kernel, fun _ => ⟨by decide +kernel, by rw [h5]; decide +kernel⟩⟩
  rw [if_neg h5]
  by_cases h6 : gi t 27 9 = 35
  · rw [if_pos h6]; exact ⟨_, rfl, by decide +kernel, fun _ => ⟨by decide +kernel, by rw [h6]; decide +kernel⟩⟩
  rw [if_neg h6]
  exact ⟨_, rfl, by decide +kernel, fun h => absurd h (by decide +kernel)⟩
theorem isWord_x (a : Int64) (t : Sg) : ∃ b, fX10_isWord a t = some (b, t) ∧ (b = true → gi t 27 9 = 2) := by
  unfold fX10_isWord
  by_cases h : gi t 27 9 = 2
  · rw [if_pos h]
    by_cases h2 : lg_cmp (gl t 27 11) a = 0
    · rw [if_pos h2]; exact ⟨_, rfl, fun _ => h⟩
    · rw [if_neg h2]; exact ⟨_, rfl, fun _ => h⟩
  · rw [if_neg h]; exact ⟨_, rfl, fun e => nomatch e⟩
theorem two_ne0 : (2 : Int32) ≠ 0 := by decide +kernel
theorem BS_.o {s t : Sg} {q i D T o o' : Nat} {B : Int} {v : Int32} (h : BS_ s q i D T o B t) (hv : v.toInt = (o' : Int)) (ho : o' ≤ 8) : BS_ s q i D T o' B (si t 27 18 v) := by
  obtain ⟨w, a1, a2, a3, a4, a5, a6, a7, a8, a9⟩ := h
  refine ⟨w, a1.si (by decide), fun x hx => by rw [gsi_k (by decide)]; exact a2 x hx, ?_, ?_, ?_, ho, ?_, a8, a9⟩
  · rw [gsi_ne (by decide)]; exact a3
  · rw [gsi_ne (by decide)]; exact a4
  · rw [gsi_eq]; exact hv
  · rw [gsi_f (by decide)]; exact a7
theorem BS_.o18 {s t : Sg} {q i D T o : Nat} {B : Int} (h : BS_ s q i D T o B t) : (gi t 27 18).toInt = (o : Int) ∧ o ≤ 8 ∧ B ≤ 301 := by
  obtain ⟨w, a1, a2, a3, a4, a5, a6, a7, a8, a9⟩ := h
  exact ⟨a5, a6, a9⟩
theorem BS_.et {s t u : Sg} {q i D T o : Nat} {B : Int} (h : BS_ s q i D T o B u) (h0 : BS_ s q i D T o B t) : gi u 27 4 = gi t 27 4 := by
  rw [h.r.1.2.1 4 (by decide), h0.r.1.2.1 4 (by decide)]
theorem rf4 {s t u : Sg} (h : RF_ s t) (h' : RF_ s u) : gi u 27 4 = gi t 27 4 := by
  rw [h'.2.1 4 (by decide), h.2.1 4 (by decide)]
theorem asks_ok {s t : Sg} {q i T o X : Nat} (hq : q < 4) (h : BS_ s q i 0 T o ((gi t 27 8).toInt - X) t) (hk : TK_ t) : wp_ (fX10_asks t) (PB_ s q i 0 (T + 1) o X t) := by
  generalize hQ : PB_ s q i 0 (T + 1) o X t = Q
  have L0 : (0 : Int32).toInt = 0 := rfl
  have L1 : (1 : Int32).toInt = 1 := rfl
  have bad : ∀ (r : Int32) (u : Sg), RF_ s u → TF_ q i s u → r ≠ 0 → wp_ (some (r, u)) Q := fun r u a b c => wp_some_i (by rw [← hQ]; exact ⟨a, b, fun e => absurd e c⟩)
  unfold fX10_asks
  refine wp_jn (fun k => ∀ (x : Int32) (n : Nat) u, x.toInt = (n : Int) → BS_ s q i 0 T (o + n) ((gi u 27 8).toInt - ((X + n : Nat) : Int)) u → TK_ u → (gi t 27 8).toInt ≤ (gi u 27 8).toInt → wp_ (k x u) Q) ?_ (fun k3 hk3 => ?_)
  · intro x n u hx hu tu pu
    refine wp_bnd_i (summed_ok hq hu tu) (fun r v hv => ?_)
    obtain ⟨v1, v2, v3⟩ := hv
    refine wp_if_i (fun hr => ?_) (fun hr => bad r v v1 v2 hr)
    obtain ⟨bv1, tv, pv⟩ := v3 hr
    obtain ⟨c, ec, c20, hc⟩ := compareOf_x v
    refine wp_bnd_e ec (wp_if_i (fun h0 => ?_) (fun _ => bad 1 v v1 v2 (by decide +kernel)))
    have h0' := le_ti h0
    obtain ⟨c10, c9⟩ := hc (by omega)
    have tv1 := tv.1
    have tv2 := tv.2.1
    have tv3 := tv.2.2.1
    dsimp only at bv1 tv pv
    refine wp_bnv_i (nt_bs (X := X + n + 1) bv1 tv c9 (by omega)) (fun w hw => ?_)
    obtain ⟨bw, tw, pw⟩ := hw
    refine wp_bnd_i (summed_ok hq bw tw) (fun r2 y hy => ?_)
    obtain ⟨y1, y2, y3⟩ := hy
    refine wp_if_i (fun hr2 => ?_) (fun hr2 => bad r2 y y1 y2 hr2)
    obtain ⟨by1, ty, py⟩ := y3 hr2
    dsimp only at by1 ty py
    have ty2 := ty.2.1
    have ty3 := ty.2.2.1
    obtain ⟨z, ez, bz, etz⟩ := by1.em (a := c) (v := 0) (D' := 0) (T' := T + 1) hq (by omega) (by
      unfold dst_
      rw [if_neg (by omega), if_neg (by omega), if_neg (by omega), if_pos (by omega), if_pos (show 2 ≤ 0 + 1 + 1 by decide)]
      rfl)
    have ez8 := etz.1 8 (by decide) (by decide)
    have tz : TK_ z := ty.et etz (rf4 y1 bz.r.1)
    refine wp_bnv_e ez (wp_bv_i (fun z2 ez2 => ?_))
    have o18 := bz.o18
    have e18 := ti_sub (x := gi z 27 18) (y := x) (by omega) (by omega)
    have bz2 : BS_ s q i 0 (T + 1) o ((gi y 27 8).toInt - ((X + n + 1 : Nat) : Int) + 1) z2 := by
      rw [ez2]; exact bz.o (by rw [e18]; omega) (by omega)
    have tz2 : TK_ z2 := by rw [ez2]; exact tz.et (ET_.rf.si (by decide)) (gsi_ne (by decide))
    have p8 : gi z2 27 8 = gi y 27 8 := by rw [ez2, gsi_ne (by decide), ez8]
    clear ez2 ez e18 bz tz etz
    refine lo2_i (fun (k : Int32) u => ∃ m : Nat, k.toInt = (m : Int) ∧ m ≤ n ∧ BS_ s q i 0 (T + 1) o ((gi y 27 8).toInt - ((X + n : Nat) : Int) + m) u ∧ TK_ u ∧ gi u 27 8 = gi y 27 8) (fun k u => (n - k.toInt).toNat) ?_ FU 0 z2 ⟨0, rfl, by omega, bz2.b (by omega) (by omega), tz2, p8⟩ (by show _ < 1000000000; omega)
    rintro rec k u2 ⟨m, hm, hmn, bu2, tu2, pu2⟩ hrec
    unfold fX10_asks_105_b
    refine wp_if_i (fun hle => wp_some_i ?_) (fun hle => ?_)
    · have hle' := le_ti hle
      have : m = n := by omega
      subst this
      rw [← hQ]
      refine ⟨bu2.r.1, bu2.r.2, fun _ => ⟨?_, tu2, ?_⟩⟩
      · show BS_ s q i 0 (T + 1) o ((gi u2 27 8).toInt - X) u2
        rw [pu2]
        exact bu2.b (by omega) (by omega)
      · show _ ≤ (gi u2 27 8).toInt
        rw [pu2]; omega
    · have hle' := nle_ti hle
      obtain ⟨u3, eu3, bu3, etu3⟩ := bu2.em (a := 20) (v := 0) (D' := 0) (T' := T + 1) hq (by omega) (by
        show dst_ 20 0 (0, T + 1) = _
        unfold dst_
        rw [if_neg (by decide), if_neg (by decide), if_neg (by decide), if_neg (by decide), if_pos rfl, if_pos (show 1 ≤ T + 1 by omega)])
      refine wp_bnv_e eu3 (wp_bv_i (fun k2 ek2 => ?_))
      have e := ti_add (x := k) (y := 1) (by omega) (by omega)
      rw [← ek2] at e
      refine hrec k2 u3 ⟨m + 1, by omega, by omega, bu3.b (by omega) (by omega), tu2.et etu3 (rf4 bu2.r.1 bu3.r.1), by rw [etu3.1 8 (by decide) (by decide)]; exact pu2⟩ (by omega)
  · refine lo2_i (fun (x : Int32) u => ∃ n : Nat, x.toInt = (n : Int) ∧ BS_ s q i 0 T (o + n) ((gi u 27 8).toInt - ((X + n : Nat) : Int)) u ∧ TK_ u ∧ (gi t 27 8).toInt ≤ (gi u 27 8).toInt) (fun x u => (300 - (gi u 27 8).toInt).toNat) ?_ FU 0 t ⟨0, rfl, h, hk, Int.le_refl _⟩ (by show _ < 1000000000; have := hk.1; omega)
    rintro rec x u ⟨n, hx, bu, tu, pu⟩ hrec
    unfold fX10_asks_2_b
    refine wp_bnd_e (w3_e _ _ _ _) ?_
    obtain ⟨b, eb, hb⟩ := isWord_x (w3v_ 110 111 116) u
    refine wp_bnd_e eb (wp_if_i (fun _ => hk3 x n u hx bu tu pu) (fun hbt => ?_))
    have h9 := hb (b2i_ne hbt)
    have o18 := bu.o18
    have tu1 := tu.1
    have tu2 := tu.2.1
    have tu3 := tu.2.2.1
    refine wp_if_i (fun _ => bad 3 u bu.r.1 bu.r.2 (by decide +kernel)) (fun h8 => ?_)
    have h8' := ne_ti h8
    rw [show (8 : Int32).toInt = 8 from rfl] at h8'
    refine wp_bv_i (fun u2 eu2 => wp_bv_i (fun x2 ex2 => ?_))
    have e18 := ti_add (x := gi u 27 18) (y := 1) (by omega) (by omega)
    have ex := ti_add (x := x) (y := 1) (by omega) (by omega)
    rw [← ex2] at ex
    have bu2 : BS_ s q i 0 T (o + (n + 1)) ((gi u 27 8).toInt - ((X + n : Nat) : Int)) u2 := by
      rw [eu2]; exact bu.o (by rw [e18]; omega) (by omega)
    have tu2' : TK_ u2 := by rw [eu2]; exact tu.et (ET_.rf.si (by decide)) (gsi_ne (by decide))
    have p8 : gi u2 27 8 = gi u 27 8 := by rw [eu2, gsi_ne (by decide)]
    have p9 : gi u2 27 9 ≠ 0 := by rw [eu2, gsi_ne (by decide), h9]; exact two_ne0
    refine wp_bnv_i (nt_bs (X := X + (n + 1)) bu2 tu2' p9 (by rw [p8]; omega)) (fun w hw => ?_)
    obtain ⟨bw, tw, pw⟩ := hw
    rw [p8] at pw
    have tw3 := tw.2.2.1
    have tw2 := tw.2.1
    exact hrec x2 w ⟨n + 1, by omega, bw, tw, by omega⟩ (by omega)
def bn_ (b : Bool) : Nat := match b with
  | true => 1
  | false => 0
theorem either_ok {s t : Sg} {q i o : Nat} (hq : q < 4) (h : BS_ s q i 0 0 o ((gi t 27 8).toInt - (0 : Nat)) t) (hk : TK_ t) : wp_ (fX10_either t) (PB_ s q i 0 1 o 0 t) := by
  generalize hQ : PB_ s q i 0 1 o 0 t = Q
  have L0 : (0 : Int32).toInt = 0 := rfl
  have bad : ∀ (r : Int32) (u : Sg), RF_ s u → TF_ q i s u → r ≠ 0 → wp_ (some (r, u)) Q := fun r u a b c => wp_some_i (by rw [← hQ]; exact ⟨a, b, fun e => absurd e c⟩)
  unfold fX10_either
  refine lo4_i (fun (an or mo : Bool) u => TK_ u ∧ (gi t 27 8).toInt ≤ (gi u 27 8).toInt ∧ (mo = true → BS_ s q i 0 (bn_ an + bn_ or) o ((gi u 27 8).toInt - ((bn_ an + bn_ or : Nat) : Int)) u) ∧ (mo = false → BS_ s q i 0 1 o (gi u 27 8).toInt u)) (fun an or mo u => 2 * (300 - (gi u 27 8).toInt).toNat + bn_ mo) ?_ FU false false true t ⟨hk, Int.le_refl _, fun _ => h, (fun e => nomatch e)⟩ (by show _ < 1000000000; have := hk.1; show 2 * (300 - (gi t 27 8).toInt).toNat + 1 < _; omega)
  rintro rec an or mo u ⟨tu, pu, hmo, hme⟩ hrec
  unfold fX10_either_6_b
  cases mo with
  | false =>
    refine wp_if_i (fun _ => wp_some_i ?_) (fun e => absurd rfl e)
    have := hme rfl
    rw [← hQ]
    exact ⟨this.r.1, this.r.2, fun _ => ⟨this.b (by show _ ≤ (gi u 27 8).toInt - (0 : Nat); omega) (by show (gi u 27 8).toInt - (0 : Nat) ≤ 301; have := tu.2.1; have := tu.2.2.1; omega), tu, pu⟩⟩
  | true =>
    refine wp_if_i (fun e => absurd e (by decide +kernel)) (fun _ => ?_)
    refine wp_bnd_i (asks_ok hq (hmo rfl) tu) (fun r v hv => ?_)
    obtain ⟨v1, v2, v3⟩ := hv
    refine wp_if_i (fun hr => ?_) (fun hr => bad r v v1 v2 hr)
    obtain ⟨bv1, tv, pv⟩ := v3 hr
    dsimp only at v1 v2 bv1 tv pv
    have tv1 := tv.1
    have tv2 := tv.2.1
    have tv3 := tv.2.2.1
    -- behind and
    refine wp_jn (fun k => ∀ w, BS_ s q i 0 (bn_ or + 1) o ((gi v 27 8).toInt - ((bn_ or : Nat) : Int)) w → ET_ v w → wp_ (k w) Q) ?_ (fun k8 hk8 => ?_)
    · intro w bw ew
      have tw : TK_ w := tv.et ew (rf4 v1 bw.r.1)
      have pw8 := ew.1 8 (by decide) (by decide)
      refine wp_bnd_e (w3_e _ _ _ _) ?_
      obtain ⟨a2, ea2, ha2⟩ := isWord_x (w3v_ 97 110 100) w
      refine wp_bnd_e ea2 ?_
      refine wp_jn (fun k => ∀ nx : Bool, (nx = true → gi w 27 9 = 2) → wp_ (k nx) Q) ?_ (fun k14 hk14 => ?_)
      · intro nx hnx
        -- or, state: behind the or
        refine wp_jn (fun k => ∀ (or' : Bool) (x : Sg), BS_ s q i 0 (bn_ (a2 && or') + 1) o ((gi v 27 8).toInt - ((bn_ (a2 && or') : Nat) : Int)) x → ET_ v x → (a2 = false → or' = nx) → wp_ (k or' x) Q) ?_ (fun k17 hk17 => ?_)
        · intro or' x bx ex hor
          have tx : TK_ x := tv.et ex (rf4 v1 bx.r.1)
          have px8 := ex.1 8 (by decide) (by decide)
          have px9 : gi x 27 9 = gi w 27 9 := by rw [ex.1 9 (by decide) (by decide), ew.1 9 (by decide) (by decide)]
          refine wp_jn (fun k => (a2 = true ∨ nx = true → wp_ (k true) Q) ∧ (a2 = false → nx = false → wp_ (k false) Q)) ⟨?_, ?_⟩ (fun k19 hk19 => ?_)
          · intro hmore
            have h9 : gi x 27 9 ≠ 0 := by
              rw [px9]
              rcases hmore with e | e
              · rw [ha2 e]; exact two_ne0
              · rw [hnx e]; exact two_ne0
            refine wp_jn (fun k => ∀ y, BS_ s q i 0 (bn_ a2 + bn_ or') o ((gi y 27 8).toInt - ((bn_ a2 + bn_ or' : Nat) : Int)) y → TK_ y → (gi x 27 8).toInt < (gi y 27 8).toInt → wp_ (k y) Q) ?_ (fun k21 hk21 => ?_)
            · intro y by1 ty py
              have ty2 := ty.2.1
              have ty3 := ty.2.2.1
              have pxi := congrArg Int32.toInt px8
              exact hrec a2 or' true y ⟨ty, by omega, fun _ => by1, fun e => nomatch e⟩ (by show 2 * _ + 1 < 2 * _ + 1; omega)
            · refine wp_if_i (fun e => absurd e (by decide +kernel)) (fun _ => ?_)
              have hT : bn_ (a2 && or') + 1 = bn_ a2 + bn_ or' := by
                cases a2 with
                | true => show bn_ or' + 1 = 1 + bn_ or'; omega
                | false =>
                  have : nx = true := by
                    rcases hmore with e | e
                    · exact nomatch e
                    · exact e
                  rw [hor rfl, this]; rfl
              rw [hT] at bx
              refine wp_bnv_i (nt_bs (X := bn_ a2 + bn_ or') bx tx h9 (by rw [px8]; omega)) (fun y hy => ?_)
              exact hk21 y hy.1 hy.2.1 hy.2.2
          · intro e1 e2
            refine wp_jn (fun k => wp_ (k x) Q) ?_ (fun k21 hk21 => wp_if_i (fun _ => hk21) (fun e => absurd rfl e))
            have pxi := congrArg Int32.toInt px8
            subst e1
            refine hrec false or' false x ⟨tx, by omega, (fun e => nomatch e), fun _ => by rw [px8]; exact bx.b (by show _ - ((0 : Nat) : Int) ≤ _; omega) (by omega)⟩ ?_
            show 2 * (300 - (gi x 27 8).toInt).toNat + 0 < 2 * (300 - (gi u 27 8).toInt).toNat + 1
            omega
          · refine wp_jn (fun k => (a2 = true ∨ nx = true → wp_ k Q)) (fun e => hk19.1 e) (fun k24 hk24 => ?_)
            refine wp_if_i (fun ea => ?_) (fun ea => hk24 (Or.inl (b2i_ne ea)))
            exact wp_if_i (fun en => hk19.2 (b2i_eq ea) (b2i_eq en)) (fun en => hk24 (Or.inr (b2i_ne en)))
        · refine wp_if_i (fun ea => ?_) (fun ea => ?_)
          · have ea' := b2i_eq ea
            refine wp_jn (fun k => ∀ x, BS_ s q i 0 1 o (gi v 27 8).toInt x → ET_ v x → wp_ (k x) Q) ?_ (fun k26 hk26 => ?_)
            · intro x bx ex
              refine hk17 nx x ?_ ex (fun _ => rfl)
              rw [ea']
              exact bx.b (by show _ ≤ _ - ((0 : Nat) : Int); omega) (by show _ - ((0 : Nat) : Int) ≤ _; omega)
            · refine wp_if_i (fun eo => ?_) (fun eo => ?_)
              · rw [b2i_eq eo] at bw
                exact hk26 w (bw.b (by show _ - ((0 : Nat) : Int) ≤ _; omega) (by omega)) ew
              · rw [b2i_ne eo] at bw
                obtain ⟨x, exx, bx, etx⟩ := bw.em (a := 22) (v := 0) (D' := 0) (T' := 1) hq (by show _ - ((1 : Nat) : Int) ≤ _; omega) (by decide +kernel)
                exact wp_bnv_e exx (hk26 x (bx.b (by show _ - ((1 : Nat) : Int) + 1 ≤ _; omega) (by omega)) (ew.tr etx))
          · have ea' := b2i_ne ea
            refine hk17 or w ?_ ew (fun e => by rw [ea'] at e; exact nomatch e)
            rw [ea']
            exact bw
      · refine wp_jn (fun k => wp_ k Q) (hk14 false (fun e => nomatch e)) (fun k29 hk29 => ?_)
        refine wp_if_i (fun h2 => wp_if_i (fun _ => hk14 true (fun _ => h2)) (fun _ => hk29)) (fun _ => hk29)
    · cases an with
      | false =>
        refine wp_if_i (fun _ => ?_) (fun e => absurd rfl e)
        refine hk8 v ?_ ET_.rf
        have e1 : bn_ false + bn_ or + 1 = bn_ or + 1 := by show 0 + bn_ or + 1 = _; omega
        have e2 : bn_ false + bn_ or = bn_ or := by show 0 + bn_ or = _; omega
        rw [e1, e2] at bv1
        exact bv1
      | true =>
        refine wp_if_i (fun e => absurd e (by decide +kernel)) (fun _ => ?_)
        have e2 : bn_ true + bn_ or = bn_ or + 1 := by show 1 + bn_ or = _; omega
        rw [e2] at bv1
        obtain ⟨x, exx, bx, etx⟩ := bv1.em (a := 21) (v := 0) (D' := 0) (T' := bn_ or + 1) hq (by omega) (by
          show dst_ 21 0 (0, bn_ or + 1 + 1) = _
          unfold dst_
          rw [if_neg (by decide), if_neg (by decide), if_neg (by decide), if_neg (by decide), if_neg (by decide), if_pos (show 2 ≤ bn_ or + 1 + 1 by omega)]
          rfl)
        exact wp_bnv_e exx (hk8 x (bx.b (by omega) (by omega)) etx)
