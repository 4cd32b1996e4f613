/-! the model's reading ends, and what it writes runs: tokens -/
theorem wp_bnd_e {α β : Type} {f : Option (α × Sg)} {s : Sg} {r : α} {k : α → Sg → Option β} {Q : β → Prop} (h : f = some (r, s)) (hk : wp_ (k r s) Q) : wp_ (bnd f k) Q := by
  rw [h]; exact hk
theorem wp_bnd_p {α β : Type} {f : Option (α × Sg)} {k : α → Sg → Option β} {P : α → Sg → Prop} {Q : β → Prop} (h : wp_ f (fun q => P q.1 q.2)) (hk : ∀ r s, P r s → wp_ (k r s) Q) : wp_ (bnd f k) Q := wp_bnd_i h hk
theorem wp_bnv_e {β : Type} {f : Option Sg} {s : Sg} {k : Sg → Option β} {Q : β → Prop} (h : f = some s) (hk : wp_ (k s) Q) : wp_ (bnv f k) Q := by
  rw [h]; exact hk
theorem wp_bv_e {α β : Type} {a : α} {k : α → Option β} {Q : β → Prop} (hk : wp_ (k a) Q) : wp_ (bv a k) Q := hk
theorem lo1_i {α β : Type} {b : (α → Option β) → α → Option β} {Q : β → Prop} (I : α → Prop) (m : α → Nat) (h : ∀ rec x, I x → (∀ y, I y → m y < m x → wp_ (rec y) Q) → wp_ (b rec x) Q) : ∀ n x, I x → m x < n → wp_ (lo1 b n x) Q := by
  intro n
  induction n with
  | zero => intro x _ h; omega
  | succ n ih => intro x hx hm; exact h (lo1 b n) x hx (fun y hy hl => ih y hy (by omega))
theorem lo2_i {α1 α2 β : Type} {b : (α1 → α2 → Option β) → α1 → α2 → Option β} {Q : β → Prop} (I : α1 → α2 → Prop) (m : α1 → α2 → Nat) (h : ∀ rec x1 x2, I x1 x2 → (∀ y1 y2, I y1 y2 → m y1 y2 < m x1 x2 → wp_ (rec y1 y2) Q) → wp_ (b rec x1 x2) Q) : ∀ n x1 x2, I x1 x2 → m x1 x2 < n → wp_ (lo2 b n x1 x2) Q := by
  intro n
  induction n with
  | zero => intro x1 x2 _ h; omega
  | succ n ih => intro x1 x2 hx hm; exact h (lo2 b n) x1 x2 hx (fun y1 y2 hy hl => ih y1 y2 hy (by omega))
theorem lo3_i {α1 α2 α3 β : Type} {b : (α1 → α2 → α3 → Option β) → α1 → α2 → α3 → Option β} {Q : β → Prop} (I : α1 → α2 → α3 → Prop) (m : α1 → α2 → α3 → Nat) (h : ∀ rec x1 x2 x3, I x1 x2 x3 → (∀ y1 y2 y3, I y1 y2 y3 → m y1 y2 y3 < m x1 x2 x3 → wp_ (rec y1 y2 y3) Q) → wp_ (b rec x1 x2 x3) Q) : ∀ n x1 x2 x3, I x1 x2 x3 → m x1 x2 x3 < n → wp_ (lo3 b n x1 x2 x3) Q := by
  intro n
  induction n with
  | zero => intro x1 x2 x3 _ h; omega
  | succ n ih => intro x1 x2 x3 hx hm; exact h (lo3 b n) x1 x2 x3 hx (fun y1 y2 y3 hy hl => ih y1 y2 y3 hy (by omega))
theorem lo4_i {α1 α2 α3 α4 β : Type} {b : (α1 → α2 → α3 → α4 → Option β) → α1 → α2 → α3 → α4 → Option β} {Q : β → Prop} (I : α1 → α2 → α3 → α4 → Prop) (m : α1 → α2 → α3 → α4 → Nat) (h : ∀ rec x1 x2 x3 x4, I x1 x2 x3 x4 → (∀ y1 y2 y3 y4, I y1 y2 y3 y4 → m y1 y2 y3 y4 < m x1 x2 x3 x4 → wp_ (rec y1 y2 y3 y4) Q) → wp_ (b rec x1 x2 x3 x4) Q) : ∀ n x1 x2 x3 x4, I x1 x2 x3 x4 → m x1 x2 x3 x4 < n → wp_ (lo4 b n x1 x2 x3 x4) Q := by
  intro n
  induction n with
  | zero => intro x1 x2 x3 x4 _ h; omega
  | succ n ih => intro x1 x2 x3 x4 hx hm; exact h (lo4 b n) x1 x2 x3 x4 hx (fun y1 y2 y3 y4 hy hl => ih y1 y2 y3 y4 hy (by omega))
/-- the byte at k, -1 behind the last -/
def bt_ (s : Sg) (k : Int32) : Int32 := if gi s 27 4 ≤ k then -1 else gi s 31 (ix k)
theorem byteAt_e {s : Sg} {k : Int32} (h : 0 ≤ k.toInt) (ht : (gi s 27 4).toInt ≤ 300) : fX10_byteAt k s = some (bt_ s k, s) := by
  unfold fX10_byteAt bt_
  by_cases hc : gi s 27 4 ≤ k
  · rw [if_pos hc, if_pos hc]
  · rw [if_neg hc, if_neg hc, inb_ti h (by have := nle_ti hc; omega)]
    rfl
theorem bt_lt {s : Sg} {k : Int32} (h : 0 ≤ (bt_ s k).toInt) : k.toInt < (gi s 27 4).toInt := by
  unfold bt_ at h
  by_cases hc : gi s 27 4 ≤ k
  · rw [if_pos hc] at h
    have : (-1 : Int32).toInt = -1 := rfl
    omega
  · exact nle_ti hc
theorem isDigit_e (c : Int32) (s : Sg) : fX10_isDigit c s = some (inR c 48 57, s) := by
  unfold fX10_isDigit
  rw [isIn_eq]
  rfl
theorem isLetter_e (c : Int32) (s : Sg) : fX10_isLetter c s = some (inR c 97 122 || inR c 65 90, s) := by
  unfold fX10_isLetter
  rw [isIn_eq]
  cases h : inR c 97 122 with
  | true => rfl
  | false =>
    simp only [bnd, if_pos (show b2i false = 0 from rfl), isIn_eq]
    cases inR c 65 90 <;> rfl
theorem b2i_ne {b : Bool} (h : ¬ b2i b = 0) : b = true := by
  cases b with
  | true => rfl
  | false => exact absurd rfl h
theorem b2i_eq {b : Bool} (h : b2i b = 0) : b = false := by
  cases b with
  | false => rfl
  | true => exact absurd h (by decide +kernel)
theorem dig_ge {c : Int32} (h : inR c 48 57 = true) : 0 ≤ c.toInt := by
  have h1 := (inR_iff.mp h).1
  have : (48 : Int32).toInt = 48 := rfl
  omega
theorem let_ge {c : Int32} (h : (inR c 97 122 || inR c 65 90) = true) : 0 ≤ c.toInt := by
  rw [Bool.or_eq_true] at h
  have e1 : (97 : Int32).toInt = 97 := rfl
  have e2 : (65 : Int32).toInt = 65 := rfl
  rcases h with h | h
  · have := (inR_iff.mp h).1; omega
  · have := (inR_iff.mp h).1; omega
/-- what reading a token may change -/
def NT_ (s t : Sg) : Prop := (∀ k, k ≠ 27 → gi t k = gi s k) ∧ (∀ j, j < 7 ∨ 10 < j → gi t 27 j = gi s 27 j) ∧ t.2.2 = s.2.2
theorem NT_.rf {s : Sg} : NT_ s s := ⟨fun _ _ => rfl, fun _ _ => rfl, rfl⟩
theorem NT_.tr {s t u : Sg} (h1 : NT_ s t) (h2 : NT_ t u) : NT_ s u := ⟨fun k hk => by rw [h2.1 k hk, h1.1 k hk], fun j hj => by rw [h2.2.1 j hj, h1.2.1 j hj], by rw [h2.2.2, h1.2.2]⟩
theorem NT_.si {s t : Sg} {j : Nat} {v : Int32} (h : NT_ s t) (hj : 7 ≤ j ∧ j ≤ 10) : NT_ s (si t 27 j v) := ⟨fun k hk => by rw [gsi_f hk]; exact h.1 k hk, fun i hi => by rw [gsi_ne (by omega)]; exact h.2.1 i hi, h.2.2⟩
theorem NT_.sl {s t : Sg} {v : Int64} (h : NT_ s t) : NT_ s (sl t 27 11 v) := ⟨fun k hk => h.1 k hk, fun i hi => h.2.1 i hi, h.2.2⟩
theorem gi_sl_ {s : Sg} {k j k' j' : Nat} {v : Int64} : gi (sl s k j v) k' j' = gi s k' j' := rfl
/-- place, at and token -/
def TK_ (t : Sg) : Prop := 0 ≤ (gi t 27 8).toInt ∧ (gi t 27 8).toInt ≤ (gi t 27 7).toInt ∧ (gi t 27 7).toInt ≤ 300 ∧ (gi t 27 9 ≠ 0 → (gi t 27 8).toInt < (gi t 27 7).toInt) ∧ 0 ≤ (gi t 27 4).toInt ∧ (gi t 27 4).toInt ≤ 300
set_option maxRecDepth 20000 in
theorem nt_ok (s : Sg) (ht0 : 0 ≤ (gi s 27 4).toInt) (ht : (gi s 27 4).toInt ≤ 300) (h1 : 0 ≤ (gi s 27 7).toInt) (h2 : (gi s 27 7).toInt ≤ 300) : wp_ (fX10_nextToken s) (fun t => NT_ s t ∧ (gi s 27 7).toInt ≤ (gi t 27 8).toInt ∧ TK_ t) := by
  generalize hQ : (fun t : Sg => NT_ s t ∧ (gi s 27 7).toInt ≤ (gi t 27 8).toInt ∧ TK_ t) = Q
  have L1 : (1 : Int32).toInt = 1 := rfl
  have fin : ∀ t, NT_ s t → (gi s 27 7).toInt ≤ (gi t 27 8).toInt → (gi t 27 8).toInt ≤ (gi t 27 7).toInt → (gi t 27 7).toInt ≤ 300 → (gi t 27 9 ≠ 0 → (gi t 27 8).toInt < (gi t 27 7).toInt) → wp_ (some t) Q := by
    intro t a b c d e
    refine wp_some_i ?_
    rw [← hQ]
    exact ⟨a, b, by omega, c, d, e, by rw [a.2.1 4 (by decide)]; exact ht0, by rw [a.2.1 4 (by decide)]; exact ht⟩
  unfold fX10_nextToken
  refine wp_jn (fun k => ∀ t, NT_ s t → (gi s 27 7).toInt ≤ (gi t 27 7).toInt → (gi t 27 7).toInt ≤ 300 → wp_ (k t) Q) ?_ (fun k hk => ?_)
  · intro t hn ha hb
    try dsimp only
    refine wp_bv_i (fun t1 e1 => ?_)
    have n1 : NT_ s t1 := by rw [e1]; exact hn.si (by decide)
    have p1 : gi t1 27 8 = gi t 27 7 := by rw [e1, gsi_eq]
    have a1 : gi t1 27 7 = gi t 27 7 := by rw [e1, gsi_ne (by decide)]
    have f1 : (gi t1 27 4).toInt ≤ 300 := by rw [n1.2.1 4 (by decide)]; exact ht
    clear e1
    rw [← a1] at ha hb p1
    clear a1 hn
    refine wp_bnd_e (byteAt_e (by omega) f1) ?_
    have hpp := congrArg Int32.toInt p1
    refine wp_if_i (fun h0 => ?_) (fun h0 => ?_)
    · have h0' : 0 ≤ (bt_ t1 (gi t1 27 7)).toInt := le_ti h0
      have hlt := bt_lt h0'
      have e4 : gi t1 27 4 = gi s 27 4 := n1.2.1 4 (by decide)
      rw [e4] at hlt
      generalize hc : bt_ t1 (gi t1 27 7) = c at *
      refine wp_bnd_e (isDigit_e _ _) (wp_if_i (fun hd => ?_) (fun hd => ?_))
      · refine wp_bnd_e (isLetter_e _ _) (wp_if_i (fun hl => ?_) (fun hl => ?_))
        · refine wp_bv_i (fun t2 e2 => ?_)
          have n2 : NT_ s t2 := by rw [e2]; exact n1.si (by decide)
          have p2 : gi t2 27 8 = gi t1 27 8 := by rw [e2, gsi_ne (by decide)]
          have a2 : (gi t2 27 7).toInt = (gi t1 27 7).toInt + 1 := by rw [e2, gsi_eq, ti_add (by omega) (by omega), L1]
          clear e2
          have hp2 := congrArg Int32.toInt p2
          refine wp_jn (fun k => ∀ y, wp_ (k y) Q) ?_ (fun k12 hk12 => ?_)
          · intro y
            try dsimp only
            refine wp_jn (fun k => ∀ y, wp_ (k y) Q) ?_ (fun k14 hk14 => ?_)
            · intro z
              try dsimp only
              refine wp_bv_i (fun t3 e3 => ?_)
              have n3 : NT_ s t3 := by rw [e3]; exact n2.si (by decide)
              have p3 : gi t3 27 8 = gi t2 27 8 := by rw [e3, gsi_ne (by decide)]
              have a3 : gi t3 27 7 = gi t2 27 7 := by rw [e3, gsi_ne (by decide)]
              clear e3
              have hp3 := congrArg Int32.toInt p3
              have ha3 := congrArg Int32.toInt a3
              have f3 : (gi t3 27 4).toInt ≤ 300 := by rw [n3.2.1 4 (by decide)]; exact ht
              refine wp_jn (fun k => wp_ k Q) ?_ (fun k16 hk16 => ?_)
              · refine wp_bnd_e (byteAt_e (by omega) f3) (wp_if_i (fun h61 => ?_) (fun h61 => ?_))
                · have hl3 : (gi t3 27 7).toInt < (gi t3 27 4).toInt := bt_lt (by rw [h61]; decide +kernel)
                  refine wp_bv_i (fun t4 e4 => ?_)
                  have n4 : NT_ s t4 := by rw [e4]; exact n3.si (by decide)
                  have p4 : gi t4 27 8 = gi t3 27 8 := by rw [e4, gsi_ne (by decide)]
                  have a4 : (gi t4 27 7).toInt = (gi t3 27 7).toInt + 1 := by rw [e4, gsi_eq, ti_add (by omega) (by omega), L1]
                  clear e4
                  have hp4 := congrArg Int32.toInt p4
                  refine wp_jn (fun k => ∀ y, wp_ (k y) Q) ?_ (fun k21 hk21 => wp_if_i (fun _ => hk21 _) (fun _ => hk21 _))
                  intro y
                  try dsimp only
                  refine wp_bv_i (fun t5 e5 => ?_)
                  have p5 : gi t5 27 8 = gi t4 27 8 := by rw [e5, gsi_ne (by decide)]
                  have a5 : gi t5 27 7 = gi t4 27 7 := by rw [e5, gsi_ne (by decide)]
                  have hp5 := congrArg Int32.toInt p5
                  have ha5 := congrArg Int32.toInt a5
                  exact fin t5 (by rw [e5]; exact n4.si (by decide)) (by omega) (by omega) (by omega) (fun _ => by omega)
                · exact fin t3 n3 (by omega) (by omega) (by omega) (fun _ => by omega)
              · exact wp_if_i (fun _ => hk16) (fun _ => wp_if_i (fun _ => hk16) (fun _ => fin t3 n3 (by omega) (by omega) (by omega) (fun _ => by omega)))
            · exact wp_if_i (fun _ => hk14 _) (fun _ => hk14 _)
          · refine wp_jn (fun k => wp_ k Q) (hk12 _) (fun k23 hk23 => ?_)
            repeat' (first | exact hk23 | exact hk12 _ | refine wp_if_i (fun _ => hk23) (fun _ => ?_))
        · refine wp_bv_i (fun t2 e2 => ?_)
          refine wp_bv_i (fun t3 e3 => ?_)
          have n3 : NT_ s t3 := by rw [e3, e2]; exact (n1.si (by decide)).sl
          have p3 : gi t3 27 8 = gi t1 27 8 := by rw [e3, gi_sl_, e2, gsi_ne (by decide)]
          have a3 : gi t3 27 7 = gi t1 27 7 := by rw [e3, gi_sl_, e2, gsi_ne (by decide)]
          have c3 : bt_ t3 (gi t3 27 7) = c := by
            rw [a3, ← hc]
            unfold bt_
            rw [e3, gi_sl_, gi_sl_, e2, gsi_ne (by decide), gsi_k (by decide)]
          clear e2 e3 t2
          have hp3 := congrArg Int32.toInt p3
          have ha3 := congrArg Int32.toInt a3
          refine wp_jn (fun k => ∀ u, NT_ s u → gi u 27 8 = gi t3 27 8 → (gi t3 27 7).toInt < (gi u 27 7).toInt → (gi u 27 7).toInt ≤ 300 → wp_ (k u) Q) ?_ (fun k27 hk27 => ?_)
          · intro u nu pu au bu
            have hpu := congrArg Int32.toInt pu
            refine wp_if_i (fun _ => fin u nu (by omega) (by omega) (by omega) (fun _ => by omega)) (fun _ => ?_)
            refine wp_bv_i (fun w ew => ?_)
            subst ew
            exact fin _ nu.sl (by rw [gi_sl_]; omega) (by rw [gi_sl_, gi_sl_]; omega) (by rw [gi_sl_]; omega) (fun _ => by rw [gi_sl_, gi_sl_]; omega)
          · refine lo1_i (fun u => NT_ s u ∧ gi u 27 8 = gi t3 27 8 ∧ (gi t3 27 7).toInt ≤ (gi u 27 7).toInt ∧ (gi u 27 7).toInt ≤ 300 ∧ ((gi t3 27 7).toInt = (gi u 27 7).toInt → bt_ u (gi u 27 7) = c)) (fun u => (300 - (gi u 27 7).toInt).toNat) ?_ FU t3 ⟨n3, rfl, Int.le_refl _, by omega, fun _ => c3⟩ (by show _ < 1000000000; omega)
            rintro rec u ⟨nu, pu, au, bu, cu⟩ hr
            have fu : (gi u 27 4).toInt ≤ 300 := by rw [nu.2.1 4 (by decide)]; exact ht
            unfold fX10_nextToken_161_b
            refine wp_bnd_e (byteAt_e (by omega) fu) (wp_bnd_e (isLetter_e _ _) (wp_if_i (fun hz => ?_) (fun hz => ?_)))
            · refine hk27 u nu pu ?_ bu
              by_cases he : (gi t3 27 7).toInt = (gi u 27 7).toInt
              · rw [cu he] at hz
                exact absurd hz hl
              · omega
            · have hlt := bt_lt (let_ge (b2i_ne hz))
              refine wp_jn (fun k => ∀ v, NT_ s v → gi v 27 8 = gi u 27 8 → gi v 27 7 = gi u 27 7 → wp_ (k v) Q) ?_ (fun k35 hk35 => ?_)
              · intro v nv pv av
                have hav := congrArg Int32.toInt av
                refine wp_bv_i (fun w ew => ?_)
                have aw : (gi w 27 7).toInt = (gi u 27 7).toInt + 1 := by rw [ew, gsi_eq, ti_add (by omega) (by omega), L1, hav]
                refine hr w ⟨by rw [ew]; exact nv.si (by decide), by rw [ew, gsi_ne (by decide), pv, pu], by omega, by omega, fun e => by omega⟩ (by omega)
              · refine wp_if_i (fun _ => hk35 u nu rfl rfl) (fun _ => ?_)
                refine wp_bnd_e (byteAt_e (by omega) fu) ?_
                refine wp_bv_i (fun w ew => ?_)
                subst ew
                exact hk35 _ nu.sl rfl rfl
      · refine wp_bv_i (fun t2 e2 => ?_)
        refine wp_bv_i (fun t3 e3 => ?_)
        have n3 : NT_ s t3 := by rw [e3, e2]; exact (n1.si (by decide)).si (by decide)
        have p3 : gi t3 27 8 = gi t1 27 8 := by rw [e3, gsi_ne (by decide), e2, gsi_ne (by decide)]
        have a3 : gi t3 27 7 = gi t1 27 7 := by rw [e3, gsi_ne (by decide), e2, gsi_ne (by decide)]
        have c3 : bt_ t3 (gi t3 27 7) = c := by
          rw [a3, ← hc]
          unfold bt_
          rw [e3, gsi_ne (by decide), gsi_k (by decide), e2, gsi_ne (by decide), gsi_k (by decide)]
        clear e2 e3 t2
        have hp3 := congrArg Int32.toInt p3
        have ha3 := congrArg Int32.toInt a3
        refine lo1_i (fun u => NT_ s u ∧ gi u 27 8 = gi t3 27 8 ∧ (gi t3 27 7).toInt ≤ (gi u 27 7).toInt ∧ (gi u 27 7).toInt ≤ 300 ∧ ((gi t3 27 7).toInt = (gi u 27 7).toInt → bt_ u (gi u 27 7) = c)) (fun u => (300 - (gi u 27 7).toInt).toNat) ?_ FU t3 ⟨n3, rfl, Int.le_refl _, by omega, fun _ => c3⟩ (by show _ < 1000000000; omega)
        rintro rec u ⟨nu, pu, au, bu, cu⟩ hr
        have hpu := congrArg Int32.toInt pu
        have fu : (gi u 27 4).toInt ≤ 300 := by rw [nu.2.1 4 (by decide)]; exact ht
        unfold fX10_nextToken_85_b
        refine wp_bnd_e (byteAt_e (by omega) fu) (wp_bnd_e (isDigit_e _ _) (wp_if_i (fun hz => ?_) (fun hz => ?_)))
        · have hne : (gi t3 27 7).toInt < (gi u 27 7).toInt := by
            by_cases he : (gi t3 27 7).toInt = (gi u 27 7).toInt
            · rw [cu he] at hz
              exact absurd hz hd
            · omega
          exact fin u nu (by omega) (by omega) (by omega) (fun _ => by omega)
        · have hlt := bt_lt (dig_ge (b2i_ne hz))
          refine wp_jn (fun k => ∀ v, NT_ s v → gi v 27 8 = gi u 27 8 → gi v 27 7 = gi u 27 7 → wp_ (k v) Q) ?_ (fun k35 hk35 => ?_)
          · intro v nv pv av
            have hav := congrArg Int32.toInt av
            refine wp_bv_i (fun w ew => ?_)
            have aw : (gi w 27 7).toInt = (gi u 27 7).toInt + 1 := by rw [ew, gsi_eq, ti_add (by omega) (by omega), L1, hav]
            refine hr w ⟨by rw [ew]; exact nv.si (by decide), by rw [ew, gsi_ne (by decide), pv, pu], by omega, by omega, fun e => by omega⟩ (by omega)
          · refine wp_if_i (fun _ => hk35 u nu rfl rfl) (fun _ => ?_)
            refine wp_bnd_e (byteAt_e (by omega) fu) ?_
            refine wp_bv_i (fun w ew => ?_)
            subst ew
            exact hk35 _ (nu.si (by decide)) (gsi_ne (by decide)) (gsi_ne (by decide))
    · refine wp_bv_i (fun t2 e2 => ?_)
      have p2 : gi t2 27 8 = gi t1 27 8 := by rw [e2, gsi_ne (by decide)]
      have a2 : gi t2 27 7 = gi t1 27 7 := by rw [e2, gsi_ne (by decide)]
      have hp2 := congrArg Int32.toInt p2
      have ha2 := congrArg Int32.toInt a2
      exact fin t2 (by rw [e2]; exact n1.si (by decide)) (by omega) (by omega) (by omega) (fun hne => absurd (by rw [e2, gsi_eq]) hne)
  · refine lo1_i (fun u => NT_ s u ∧ (gi s 27 7).toInt ≤ (gi u 27 7).toInt ∧ (gi u 27 7).toInt ≤ 300) (fun u => (300 - (gi u 27 7).toInt).toNat) ?_ FU s ⟨NT_.rf, Int.le_refl _, h2⟩ (by show _ < 1000000000; omega)
    rintro rec u ⟨nu, au, bu⟩ hr
    have fu : (gi u 27 4).toInt ≤ 300 := by rw [nu.2.1 4 (by decide)]; exact ht
    unfold fX10_nextToken_0_b
    refine wp_bnd_e (byteAt_e (by omega) fu) ?_
    refine wp_jn (fun k => (gi u 27 7).toInt < 300 → wp_ (k u) Q) ?_ (fun k58 hk58 => ?_)
    · intro hlt
      refine wp_bv_i (fun w ew => ?_)
      have aw : (gi w 27 7).toInt = (gi u 27 7).toInt + 1 := by rw [ew, gsi_eq, ti_add (by omega) (by omega), L1]
      exact hr w ⟨by rw [ew]; exact nu.si (by decide), by omega, by omega⟩ (by omega)
    · refine wp_if_i (fun h32 => ?_) (fun h32 => ?_)
      · have := bt_lt (s := u) (k := gi u 27 7) (by rw [h32]; decide +kernel)
        exact hk58 (by omega)
      · refine wp_bnd_e (byteAt_e (by omega) fu) (wp_if_i (fun h10 => ?_) (fun h10 => ?_))
        · have := bt_lt (s := u) (k := gi u 27 7) (by rw [h10]; decide +kernel)
          exact hk58 (by omega)
        · exact hk u nu au bu
