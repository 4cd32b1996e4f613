/-! the class's reader: a law -/
def LF_ (q : Nat) (s t : Sg) : Prop := (∀ k, k ≠ 3 → k ≠ 4 → k ≠ 18 → k ≠ q → k ≠ q + 1 → gi t k = gi s k) ∧ (∀ j, j < 2 ∨ 5 < j → gi t 3 j = gi s 3 j) ∧ (∀ j, j ≠ 1 → gi t q j = gi s q j) ∧ t.2 = s.2
theorem LF_.rf {q : Nat} {s : Sg} : LF_ q s s := ⟨fun _ _ _ _ _ _ => rfl, fun _ _ => rfl, fun _ _ => rfl, rfl⟩
theorem LF_.tr {q : Nat} {s t u : Sg} (h1 : LF_ q s t) (h2 : LF_ q t u) : LF_ q s u := ⟨fun k a b c d e => by rw [h2.1 k a b c d e, h1.1 k a b c d e], fun j hj => by rw [h2.2.1 j hj, h1.2.1 j hj], fun j hj => by rw [h2.2.2.1 j hj, h1.2.2.1 j hj], by rw [h2.2.2.2, h1.2.2.2]⟩
theorem LF_.si4 {q j : Nat} {s t : Sg} {v : Int32} (hq : 48 ≤ q) (h : LF_ q s t) : LF_ q s (si t 4 j v) := ⟨fun k a b c d e => by rw [gsi_f b]; exact h.1 k a b c d e, fun i hi => by rw [gsi_k (by decide)]; exact h.2.1 i hi, fun i hi => by rw [gsi_k (by omega)]; exact h.2.2.1 i hi, h.2.2.2⟩
theorem LF_.si18 {q j : Nat} {s t : Sg} {v : Int32} (hq : 48 ≤ q) (h : LF_ q s t) : LF_ q s (si t 18 j v) := ⟨fun k a b c d e => by rw [gsi_f c]; exact h.1 k a b c d e, fun i hi => by rw [gsi_k (by decide)]; exact h.2.1 i hi, fun i hi => by rw [gsi_k (by omega)]; exact h.2.2.1 i hi, h.2.2.2⟩
theorem LF_.af {q : Nat} {s t u : Sg} (hq : 48 ≤ q) (h : LF_ q s t) (a : AF_ t u) : LF_ q s u := h.tr ⟨fun k x _ _ _ _ => a.1 k x, a.2.1, fun j _ => by rw [a.1 q (by omega)], a.2.2⟩
theorem LF_.tp {B : Nat → Int} {n q : Nat} {s t : Sg} (hq : 48 ≤ q) (h : LF_ q s t) (hp : TPc_ B n s) : TPc_ B n t := ⟨by rw [h.2.1 1 (by decide)]; exact hp.1, hp.2.1, fun k hk => by rw [h.1 17 (by decide) (by decide) (by decide) (by omega) (by omega)]; exact hp.2.2.1 k hk, hp.2.2.2⟩
theorem LFgr_ {q : Nat} {s t : Sg} (h : LF_ q s t) {k j : Nat} : gr t k j = gr s k j := by unfold gr; rw [h.2.2.2]
theorem nI_pr {b : Nat} (h : 0 < b) : nI b - 1 = nI (b - 1) := by
  obtain ⟨c, rfl⟩ : ∃ c, b = c + 1 := ⟨b - 1, by omega⟩
  rw [← nI_1, Int32.add_sub_cancel]
  rfl
/-- only the script's code is written -/
def EF_ (q : Nat) (s t : Sg) : Prop := (∀ k, k ≠ q → k ≠ q + 1 → gi t k = gi s k) ∧ (∀ j, j ≠ 1 → gi t q j = gi s q j) ∧ t.2 = s.2
theorem EF_.l {q : Nat} {s t : Sg} (hq : 48 ≤ q) (h : EF_ q s t) : LF_ q s t := ⟨fun k _ _ _ d e => h.1 k d e, fun j _ => by rw [h.1 3 (by omega) (by omega)], h.2.1, h.2.2⟩
theorem emit9_v {q : Nat} {a : Int32} {s : Sg} : pf_ (fX5_emit q a s) (fun t => EF_ q s t) := by
  unfold fX5_emit
  refine pf_if (pf_some ⟨fun _ _ _ => rfl, fun _ _ => rfl, rfl⟩) (pf_chk (fun _ => pf_bv (fun s2 e2 => pf_bv (fun s3 e3 => pf_some ?_))))
  refine ⟨fun k h1 h2 => by rw [e3, gsi_f h1, e2, gsi_f h2], fun j hj => by rw [e3, gsi_ne hj, e2, gsi_k (by omega)], by rw [e3, e2]; rfl⟩
theorem fail_e {c : Int32} {s : Sg} (h : gi s 4 4 = 0) : fX2_fail c s = some (si (si s 4 4 c) 4 5 (gi s 3 3)) := by
  unfold fX2_fail
  rw [if_pos h]
  simp only [bv, gsi_k (show 3 ≠ 4 by decide)]
theorem keepW_e {m : Nat} {x : Int32} {s : Sg} (h : gi s 4 2 = nI m) (hm : m < 29) : fX2_keepWaiting x s = some (si (si s 18 m x) 4 2 (nI (m + 1))) := by
  unfold fX2_keepWaiting
  rw [h, if_neg (fun e => by rw [show (29 : Int32) = nI 29 from rfl, nI_lei (by omega) (by omega)] at e; omega), inb_nI hm (by decide), ix_nI (by omega)]
  simp only [chk, bv, gsi_k (show 4 ≠ 18 by decide), h, nI_1]
theorem settle9_v {q l m o : Nat} {W : List Nat} {u : Sg} (hq : isScr q = true) (hg : gr u 4 3 = q) (hl : l ≤ 7) (hW : Wl_ (gi u 18) W m) (hm : gi u 4 2 = nI m) (hm29 : m ≤ 29) (ho : gi u 4 6 = nI o) (ho8 : o ≤ 100) (hn : nn_ l W ≤ o) (hx : ∀ x, x ∈ W → x < 15) : pf_ (fX2_settle (nI l) u) (fun v => LF_ q u v ∧ gi v 3 = gi u 3 ∧ (∀ j, j ≠ 2 → j ≠ 6 → gi v 4 j = gi u 4 j) ∧ ∃ m', Wl_ (gi v 18) (dw_ l W) m' ∧ gi v 4 2 = nI m' ∧ gi v 4 6 = nI (o - nn_ l W)) := by
  have q48 : 48 ≤ q := by rcases scr_cases hq with h | h | h | h <;> omega
  generalize hQ : (fun v : Sg => LF_ q u v ∧ gi v 3 = gi u 3 ∧ (∀ j, j ≠ 2 → j ≠ 6 → gi v 4 j = gi u 4 j) ∧ ∃ m', Wl_ (gi v 18) (dw_ l W) m' ∧ gi v 4 2 = nI m' ∧ gi v 4 6 = nI (o - nn_ l W)) = Q
  unfold fX2_settle
  refine pf_lo1 (fun v => LF_ q u v ∧ gi v 3 = gi u 3 ∧ (∀ j, j ≠ 2 → j ≠ 6 → gi v 4 j = gi u 4 j) ∧ ∃ W' m' o', Wl_ (gi v 18) W' m' ∧ gi v 4 2 = nI m' ∧ m' ≤ 29 ∧ gi v 4 6 = nI o' ∧ o' ≤ 100 ∧ dw_ l W' = dw_ l W ∧ nn_ l W' ≤ o' ∧ o' - nn_ l W' = o - nn_ l W ∧ ∀ x, x ∈ W' → x < 15) ?_ FU u ⟨LF_.rf, rfl, fun _ _ _ => rfl, W, m, o, hW, hm, hm29, ho, ho8, rfl, hn, rfl, hx⟩
  rintro rec v ⟨lf, v3, v4, W', m', o', h1, h2, h3, h4, h5, h6, h7, h8, h9⟩ hr
  have gv : gr v 4 3 = q := by rw [LFgr_ lf]; exact hg
  unfold fX2_settle_0_b
  rw [h2]
  refine pf_ifi (show nI m' ≤ 0 ↔ m' ≤ 0 from nI_lei (b := 0) (by omega) (by omega)) (fun hle => pf_some ?_) (fun hgt => ?_)
  · cases W' with
    | nil => rw [← hQ]; exact ⟨lf, v3, v4, m', by rw [← h6]; exact h1, h2, by rw [h4, ← h8]; rfl⟩
    | cons x W' => obtain ⟨m'', rfl, _⟩ := h1; omega
  · cases W' with
    | nil => have := h1; unfold Wl_ at this; omega
    | cons x W' =>
      obtain ⟨m'', rfl, hxv, h1'⟩ := h1
      have hx15 := h9 x List.mem_cons_self
      rw [show nI (m'' + 1) - 1 = nI m'' from nI_pr (by omega)]
      refine pf_chk (fun _ => pf_chk (fun _ => ?_))
      rw [ix_nI (show m'' < 2 ^ 31 by omega), hxv, ix_nI (show x < 2 ^ 31 by omega), tB_bd x hx15]
      have hb7 := bd_le x hx15
      refine pf_ifi (nI_lti (by omega) (by omega)) (fun hlt => pf_some ?_) (fun hge => ?_)
      · have e1 : dw_ l (x :: W') = x :: W' := by show (if bd_ x < l then _ else _) = _; rw [if_pos hlt]
        have e2 : nn_ l (x :: W') = 0 := by show (if bd_ x < l then 0 else _) = 0; rw [if_pos hlt]
        rw [← hQ]
        refine ⟨lf, v3, v4, m'' + 1, by rw [← h6, e1]; exact ⟨m'', rfl, hxv, h1'⟩, h2, by rw [h4, ← h8, e2]; rfl⟩
      · have e1 : dw_ l (x :: W') = dw_ l W' := by show (if bd_ x < l then _ else _) = _; rw [if_neg hge]
        have e2 : nn_ l (x :: W') = (if x = 14 ∨ x = 3 then 1 else 0) + nn_ l W' := by show (if bd_ x < l then 0 else _) = _; rw [if_neg hge]
        refine pf_bv (fun z1 f1 => pf_chk (fun _ => pf_bv (fun w6 f6 => pf_bv (fun qq fq => pf_chk (fun _ => ?_)))))
        have z2 : gi z1 4 2 = nI m'' := by rw [f1, gsi_eq]
        have w6x : w6 = nI x := by rw [f6, z2, ix_nI (by omega), f1, gsi_k (by decide)]; exact hxv
        have eq_ : qq = q := by rw [fq, f1]; exact gv
        subst eq_
        subst w6x
        have lz : LF_ qq u z1 := by rw [f1]; exact lf.si4 q48
        have z6 : gi z1 4 6 = nI o' := by rw [f1, gsi_ne (by decide)]; exact h4
        have z4 : ∀ j, j ≠ 2 → j ≠ 6 → gi z1 4 j = gi u 4 j := fun j a b => by rw [f1, gsi_ne a]; exact v4 j a b
        have z3 : gi z1 3 = gi u 3 := by rw [f1, gsi_f (by decide)]; exact v3
        have z18 : gi z1 18 = gi v 18 := by rw [f1, gsi_f (by decide)]
        clear f1 f6 fq
        refine pf_bnv emit9_v (fun y hy => ?_)
        have y4 : gi y 4 = gi z1 4 := hy.1 4 (by omega) (by omega)
        have y18 : gi y 18 = gi z1 18 := hy.1 18 (by omega) (by omega)
        have y3 : gi y 3 = gi z1 3 := hy.1 3 (by omega) (by omega)
        have ly := lz.tr (hy.l q48)
        rw [y4, z6]
        refine pf_jn (fun k => ∀ b : Bool, (b = true ↔ (x = 14 ∨ x = 3)) → pf_ (k (nI o') b) Q) ?_ (fun k12 hk12 => ?_)
        · intro b hb
          refine pf_bv (fun w fw => ?_)
          have hsub : nI o' - b2i b = nI (o' - (if x = 14 ∨ x = 3 then 1 else 0)) := by
            cases b with
            | true => rw [if_pos (hb.mp rfl)]; exact nI_pr (by rw [e2, if_pos (hb.mp rfl)] at h7; omega)
            | false => rw [if_neg (fun e => nomatch hb.mpr e)]; show nI o' - 0 = _; rw [Int32.sub_zero]; rfl
          rw [hsub] at fw
          refine hr w ⟨by rw [fw]; exact ly.si4 q48, by rw [fw, gsi_f (by decide), y3]; exact z3, fun j a b => by rw [fw, gsi_ne b, y4]; exact z4 j a b, W', m'', o' - (if x = 14 ∨ x = 3 then 1 else 0), ?_, ?_, by omega, by rw [fw, gsi_eq], by omega, by rw [← h6, e1], ?_, ?_, fun x' hx' => h9 x' (List.mem_cons_of_mem _ hx')⟩
          · rw [fw, gsi_f (by decide), y18, z18]; exact h1'
          · rw [fw, gsi_ne (by decide), y4]; exact z2
          · rw [e2] at h7; omega
          · rw [e2] at h7 h8; omega
        · refine pf_jn (fun k => (x = 14 ∨ x = 3) → pf_ (k (nI o')) Q) (fun hh => hk12 true ⟨fun _ => hh, fun _ => rfl⟩) (fun k15 hk15 => ?_)
          refine pf_ifi (show nI x = 14 ↔ x = 14 from nI_eqi (b := 14) (by omega) (by omega)) (fun e => hk15 (Or.inl e)) (fun n14 => pf_ifi (show nI x = 3 ↔ x = 3 from nI_eqi (b := 3) (by omega) (by omega)) (fun e => hk15 (Or.inr e)) (fun n3 => hk12 false ⟨fun e => (nomatch e), fun e => by omega⟩))
