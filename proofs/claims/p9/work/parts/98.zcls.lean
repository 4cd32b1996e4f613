/-- only tokens and the fault are written -/
def HF_ (s t : Sg) : Prop := (∀ k, k ≠ 3 → k ≠ 4 → gi t k = gi s k) ∧ (∀ j, j < 2 ∨ 5 < j → gi t 3 j = gi s 3 j) ∧ (∀ j, j ≠ 4 → j ≠ 5 → gi t 4 j = gi s 4 j) ∧ t.2 = s.2
theorem HF_.rf {s : Sg} : HF_ s s := ⟨fun _ _ _ => rfl, fun _ _ => rfl, fun _ _ _ => rfl, rfl⟩
theorem HF_.tr {s t u : Sg} (h1 : HF_ s t) (h2 : HF_ t u) : HF_ s u := ⟨fun k a b => by rw [h2.1 k a b, h1.1 k a b], fun j hj => by rw [h2.2.1 j hj, h1.2.1 j hj], fun j a b => by rw [h2.2.2.1 j a b, h1.2.2.1 j a b], by rw [h2.2.2.2, h1.2.2.2]⟩
theorem AF_.hf {s t : Sg} (h : AF_ s t) : HF_ s t := ⟨fun k a _ => h.1 k a, h.2.1, fun j _ _ => by rw [h.1 4 (by decide)], h.2.2⟩
theorem HF_.tp {B : Nat → Int} {n : Nat} {s t : Sg} (h : HF_ s t) (hp : TPc_ B n s) : TPc_ B n t := ⟨by rw [h.2.1 1 (by decide)]; exact hp.1, hp.2.1, fun k hk => by rw [h.1 17 (by decide) (by decide)]; exact hp.2.2.1 k hk, hp.2.2.2⟩
theorem fail_hf {c : Int32} {s z : Sg} (e : z = si (si s 4 4 c) 4 5 (gi s 3 3)) : HF_ s z := by
  rw [e]
  exact ⟨fun k _ b => by rw [gsi_f b, gsi_f b], fun j _ => by rw [gsi_k (by decide), gsi_k (by decide)], fun j a b => by rw [gsi_ne b, gsi_ne a], rfl⟩
theorem fail_f {c : Int32} {s : Sg} (h : gi s 4 4 ≠ 0) : fX2_fail c s = some s := by
  unfold fX2_fail
  rw [if_neg h]
theorem takeToken_f {k : Int32} {s : Sg} (h : gi s 4 4 ≠ 0) : pf_ (fX2_takeToken k s) (fun w => w = s) := by
  unfold fX2_takeToken
  refine pf_jn (fun kk => pf_ (kk s) (fun w => w = s)) ?_ (fun k2 hk2 => ?_)
  · rw [if_neg h]; exact pf_some rfl
  · refine pf_if hk2 ?_
    rw [fail_f h]
    exact hk2
theorem takeNumber_f {k : Int32} {s : Sg} (h : gi s 4 4 ≠ 0) : pf_ (fX2_takeNumber k s) (fun w => w.2 = s) := by
  unfold fX2_takeNumber
  refine pf_jn (fun kk => pf_ (kk s) (fun w => w.2 = s)) ?_ (fun k2 hk2 => ?_)
  · refine pf_bv (fun v _ => ?_)
    rw [if_neg h]; exact pf_some rfl
  · refine pf_if (pf_if hk2 ?_) ?_
    · rw [fail_f h]; exact hk2
    · rw [fail_f h]; exact hk2
theorem takeToken_v {B : Nat → Int} {n p k : Nat} {v : Sg} (hp : TPc_ B n v) (h4 : gi v 4 4 = 0) (hc : Ct_ B n p v) (hk : k < 40) : pf_ (fX2_takeToken (nI k) v) (fun w => HF_ v w ∧ ∃ x, Kd_ B k p x ∧ Po_ B n x w) := by
  obtain ⟨kd, st, nx, nm, tk, hnx, v2, v3, v4, v5⟩ := hc
  obtain ⟨t1, t2, t3, t4⟩ := Tk_adv tk
  generalize hQ : (fun w : Sg => HF_ v w ∧ ∃ x, Kd_ B k p x ∧ Po_ B n x w) = Q
  unfold fX2_takeToken
  rw [v2]
  refine pf_jn (fun kk => (kd = k → pf_ (kk v) Q) ∧ (kd ≠ k → ∀ z, z = si (si v 4 4 1) 4 5 (gi v 3 3) → pf_ (kk z) Q)) ⟨fun e => ?_, fun e z ez => ?_⟩ (fun k2 hk2 => ?_)
  · try dsimp only
    rw [if_pos h4]
    refine pf_bnv (advance9_v hp v4 hnx) (fun w hw => pf_some ?_)
    rw [← hQ]
    refine ⟨hw.1.hf, (0, nx), ⟨kd, st, nx, nm, tk, by rw [if_pos e]⟩, fun _ => ⟨by rw [hw.1.1 4 (by decide)]; exact h4, hnx, hw.2⟩, fun e' => absurd rfl e', (show (0 : Nat) < 10 by decide)⟩
  · have z4 : gi z 4 4 = 1 := by rw [ez, gsi_ne (by decide), gsi_eq]
    try dsimp only
    rw [if_neg (by rw [z4]; decide +kernel)]
    refine pf_some ?_
    rw [← hQ]
    refine ⟨fail_hf ez, (1, st), ⟨kd, st, nx, nm, tk, by rw [if_neg e]⟩, fun e' => absurd e' (show ¬ (1 : Nat) = 0 by decide), fun _ => ⟨z4, by rw [ez, gsi_eq]; exact v3⟩, (show (1 : Nat) < 10 by decide)⟩
  · refine pf_ifi (nI_eqi (by omega) (by omega)) (fun e => hk2.1 e) (fun e => ?_)
    exact pf_bnv (P := fun z => z = si (si v 4 4 1) 4 5 (gi v 3 3)) (fun o ho => by rw [fail_e h4] at ho; injection ho with ho; exact ho.symm) (fun z ez => hk2.2 e z ez)
theorem takeNumber_v {B : Nat → Int} {n p most : Nat} {v : Sg} (hp : TPc_ B n v) (h4 : gi v 4 4 = 0) (hc : Ct_ B n p v) (hk : most < 9999) : pf_ (fX2_takeNumber (nI most) v) (fun w => HF_ v w.2 ∧ ∃ x, Num_ B most p x ∧ Po_ B n x w.2) := by
  obtain ⟨kd, st, nx, nm, tk, hnx, v2, v3, v4, v5⟩ := hc
  obtain ⟨t1, t2, t3, t4⟩ := Tk_adv tk
  generalize hQ : (fun w : Int32 × Sg => HF_ v w.2 ∧ ∃ x, Num_ B most p x ∧ Po_ B n x w.2) = Q
  unfold fX2_takeNumber
  rw [v2]
  have c17 : (17 : Int32) = nI 17 := rfl
  refine pf_jn (fun kk => (kd = 17 ∧ nm ≤ most → pf_ (kk v) Q) ∧ (∀ (c : Nat) z, (c, st) = (if kd = 17 then (if nm ≤ most then (0, nx) else (2, st)) else (1, st)) → c ≠ 0 → c < 10 → z = si (si v 4 4 (nI c)) 4 5 (gi v 3 3) → pf_ (kk z) Q)) ⟨fun e => ?_, fun c z hx hc0 hc10 ez => ?_⟩ (fun k2 hk2 => ?_)
  · try dsimp only
    refine pf_bv (fun w3 _ => ?_)
    rw [if_pos h4]
    refine pf_bnv (advance9_v hp v4 hnx) (fun w hw => pf_some ?_)
    rw [← hQ]
    refine ⟨hw.1.hf, (0, nx), ⟨kd, st, nx, nm, tk, by rw [if_pos e.1, if_pos e.2]⟩, fun _ => ⟨by rw [hw.1.1 4 (by decide)]; exact h4, hnx, hw.2⟩, fun e' => absurd rfl e', (show (0 : Nat) < 10 by decide)⟩
  · have z4 : gi z 4 4 = nI c := by rw [ez, gsi_ne (by decide), gsi_eq]
    try dsimp only
    refine pf_bv (fun w3 _ => ?_)
    rw [if_neg (fun e => by rw [z4] at e; exact hc0 ((nI_eqi (b := 0) (by omega) (by omega)).mp e))]
    refine pf_some ?_
    rw [← hQ]
    exact ⟨fail_hf ez, (c, st), ⟨kd, st, nx, nm, tk, hx⟩, fun e' => absurd e' hc0, fun _ => ⟨z4, by rw [ez, gsi_eq]; exact v3⟩, hc10⟩
  · refine pf_ifi (nI_eqi (b := 17) (by omega) (by omega)) (fun e17 => ?_) (fun n17 => ?_)
    · have hnm := Tk_nml tk e17
      rw [v5 e17]
      refine pf_ifi (nI_lei (by omega) (by omega)) (fun hle => hk2.1 ⟨e17, hle⟩) (fun hgt => ?_)
      exact pf_bnv (P := fun z => z = si (si v 4 4 2) 4 5 (gi v 3 3)) (fun o ho => by rw [fail_e h4] at ho; injection ho with ho; exact ho.symm) (fun z ez => hk2.2 2 z (by rw [if_pos e17, if_neg hgt]) (by decide) (by decide) ez)
    · exact pf_bnv (P := fun z => z = si (si v 4 4 1) 4 5 (gi v 3 3)) (fun o ho => by rw [fail_e h4] at ho; injection ho with ho; exact ho.symm) (fun z ez => hk2.2 1 z (by rw [if_neg n17]) (by decide) (by decide) ez)
/-- what reading a clause may change -/
def KF_ (q : Nat) (s t : Sg) : Prop := (∀ k, k ≠ 3 → k ≠ 4 → k ≠ 18 → (k < q ∨ q + 5 ≤ k) → gi t k = gi s k) ∧ (∀ j, j < 2 ∨ 5 < j → gi t 3 j = gi s 3 j) ∧ t.2 = s.2
theorem KF_.rf {q : Nat} {s : Sg} : KF_ q s s := ⟨fun _ _ _ _ _ => rfl, fun _ _ => rfl, rfl⟩
theorem KF_.tr {q : Nat} {s t u : Sg} (h1 : KF_ q s t) (h2 : KF_ q t u) : KF_ q s u := ⟨fun k a b c d => by rw [h2.1 k a b c d, h1.1 k a b c d], fun j hj => by rw [h2.2.1 j hj, h1.2.1 j hj], by rw [h2.2.2, h1.2.2]⟩
theorem HF_.kf {q : Nat} {s t : Sg} (h : HF_ s t) : KF_ q s t := ⟨fun k a b _ _ => h.1 k a b, h.2.1, h.2.2.2⟩
theorem LF_.kf {q : Nat} {s t : Sg} (h : LF_ q s t) : KF_ q s t := ⟨fun k a b c d => h.1 k a b c (by omega) (by omega), h.2.1, h.2.2.2⟩
theorem KF_.tp {B : Nat → Int} {n q : Nat} {s t : Sg} (hq : 48 ≤ q) (h : KF_ q s t) (hp : TPc_ B n s) : TPc_ B n t := ⟨by rw [h.2.1 1 (by decide)]; exact hp.1, hp.2.1, fun k hk => by rw [h.1 17 (by decide) (by decide) (by decide) (by omega)]; exact hp.2.2.1 k hk, hp.2.2.2⟩
theorem addClause_v {q c : Nat} {a1 a2 a3 : Int32} {s : Sg} (hq : 48 ≤ q) (h : gi s q 9 = nI c) (hc : c < 24) : pf_ (fX5_addClause q a1 a2 a3 s) (fun t => KF_ q s t ∧ gi t 3 = gi s 3 ∧ gi t 4 = gi s 4 ∧ (∀ j, j ≠ 9 → gi t q j = gi s q j) ∧ gi t q 9 = nI (c + 1)) := by
  unfold fX5_addClause
  rw [h]
  refine pf_ifi (show 24 ≤ nI c ↔ 24 ≤ c from nI_lei (a := 24) (by omega) (by omega)) (fun e => by omega) (fun _ => ?_)
  refine pf_chk (fun _ => pf_bv (fun s2 e2 => pf_chk (fun _ => pf_bv (fun s4 e4 => pf_chk (fun _ => pf_bv (fun s6 e6 => pf_bv (fun s7 e7 => pf_some ?_)))))))
  have h6 : gi s6 q 9 = nI c := by rw [e6, gsi_k (by omega), e4, gsi_k (by omega), e2, gsi_k (by omega)]; exact h
  rw [h6, nI_1] at e7
  refine ⟨⟨fun k _ _ _ d => by rw [e7, gsi_f (by omega), e6, gsi_f (by omega), e4, gsi_f (by omega), e2, gsi_f (by omega)], fun j _ => by rw [e7, gsi_k (by omega), e6, gsi_k (by omega), e4, gsi_k (by omega), e2, gsi_k (by omega)], by rw [e7, e6, e4, e2]; rfl⟩, by rw [e7, gsi_f (by omega), e6, gsi_f (by omega), e4, gsi_f (by omega), e2, gsi_f (by omega)], by rw [e7, gsi_f (by omega), e6, gsi_f (by omega), e4, gsi_f (by omega), e2, gsi_f (by omega)], fun j hj => by rw [e7, gsi_ne hj, e6, gsi_k (by omega), e4, gsi_k (by omega), e2, gsi_k (by omega)], by rw [e7, gsi_eq]⟩
/-- a clause that is no law -/
theorem readStep_v {B : Nat → Int} {n p q hd c : Nat} {u : Sg} (hq : isScr q = true) (hg : gr u 4 3 = q) (hp : TPc_ B n u) (h4 : gi u 4 4 = 0) (h34 : gi u 3 4 = nI p) (hpn : p ≤ n) (hh : 21 ≤ hd ∧ hd ≤ 23) (h9 : gi u q 9 = nI c) (hc : c < 24) : pf_ (fX2_readStep (nI hd) u) (fun w => KF_ q u w ∧ ∃ x, Cl_ B hd p x ∧ Po_ B n x w ∧ (x.1 = 0 → gi w q 9 = nI (c + 1) ∧ gi w q 2 = gi u q 2 ∧ gi w q 4 = gi u q 4)) := by
  have q48 : 48 ≤ q := by rcases scr_cases hq with h | h | h | h <;> omega
  generalize hQ : (fun w : Sg => KF_ q u w ∧ ∃ x, Cl_ B hd p x ∧ Po_ B n x w ∧ (x.1 = 0 → gi w q 9 = nI (c + 1) ∧ gi w q 2 = gi u q 2 ∧ gi w q 4 = gi u q 4)) = Q
  unfold fX2_readStep
  refine pf_bnv (advance9_v hp h34 hpn) (fun s1 h1 => ?_)
  have f1 := h1.1.hf
  have p1 := f1.tp hp
  have s14 : gi s1 4 4 = 0 := by rw [h1.1.1 4 (by decide)]; exact h4
  refine pf_jn (fun kk => ∀ most : Nat, most = (if hd = 23 then 99 else 11) → pf_ (kk (nI most)) Q) ?_ (fun k3 hk3 => pf_ifi (show nI hd = 23 ↔ hd = 23 from nI_eqi (b := 23) (by omega) (by omega)) (fun e => hk3 99 (by rw [if_pos e])) (fun e => hk3 11 (by rw [if_neg e])))
  intro most hmost
  have hmost' : most < 9999 := by rw [hmost]; split <;> omega
  refine pf_bnd (takeNumber_v p1 s14 h1.2 hmost') (fun r s5 h5 => ?_)
  obtain ⟨f5, x1, n1, o1⟩ := h5
  dsimp only at f5 o1
  have f15 := f1.tr f5
  -- the end: ; and the clause counted
  refine pf_jn (fun kk => ∀ (a : Int32) s7, HF_ u s7 → (∃ y, (y.1 = 0 → (∀ x, Kd_ B 16 y.2 x → Cl_ B hd p x)) ∧ (y.1 ≠ 0 → Cl_ B hd p y) ∧ Po_ B n y s7) → pf_ (kk a s7) Q) ?_ (fun k8 hk8 => ?_)
  · intro a s7 f7 hy
    obtain ⟨y, y1, y2, y3⟩ := hy
    have g7 : gr s7 4 3 = q := by unfold gr; rw [f7.2.2.2]; exact hg
    have tok : pf_ (fX2_takeToken 16 s7) (fun w => HF_ s7 w ∧ ∃ x, Cl_ B hd p x ∧ Po_ B n x w) := by
      by_cases e : y.1 = 0
      · obtain ⟨a4, a5, a6⟩ := y3.1 e
        intro o ho
        obtain ⟨b1, x, b2, b3⟩ := takeToken_v (k := 16) (f7.tp hp) a4 a6 (by decide) o ho
        exact ⟨b1, x, y1 e x b2, b3⟩
      · obtain ⟨a4, a5⟩ := y3.2.1 e
        have hne : gi s7 4 4 ≠ 0 := fun e' => by rw [a4] at e'; exact e ((nI_eqi (b := 0) (by have := y3.2.2; omega) (by omega)).mp e')
        intro o ho
        have := takeToken_f hne o ho
        rw [this]
        exact ⟨HF_.rf, y, y2 e, y3⟩
    refine pf_bnv tok (fun s9 h9' => ?_)
    obtain ⟨f9, x, x1', x2'⟩ := h9'
    have g9 : gr s9 4 3 = q := by
      have : gr s9 4 3 = gr s7 4 3 := by unfold gr; rw [f9.2.2.2]
      rw [this]; exact g7
    rw [g9]
    refine pf_bv (fun qq eqq => ?_)
    subst eqq
    refine pf_chk (fun _ => ?_)
    have fq : ∀ j, gi s9 qq j = gi u qq j := fun j => by rw [f9.1 qq (by omega) (by omega), f7.1 qq (by omega) (by omega)]
    refine pf_bnv (addClause_v (c := c) q48 (by rw [fq]; exact h9) hc) (fun w hw => pf_some ?_)
    obtain ⟨w1, w2, w3, w4, w5⟩ := hw
    rw [← hQ]
    refine ⟨(f7.kf.tr f9.kf).tr w1, x, x1', ?_, fun _ => ⟨w5, by rw [w4 2 (by decide), fq], by rw [w4 4 (by decide), fq]⟩⟩
    have wg : ∀ j, gi w 3 j = gi s9 3 j := fun j => by rw [w2]
    have w4' : ∀ j, gi w 4 j = gi s9 4 j := fun j => by rw [w3]
    unfold Po_ Ct_ at x2' ⊢
    rw [w2, w3]
    exact x2'
  · have cl : Cl_ B hd p = (if hd = 21 then sq_ (Num_ B 11 p) (fun p1 => sq_ (Kd_ B 18 p1) (fun p2 => sq_ (Num_ B 1 p2) (fun p3 => Kd_ B 16 p3))) else sq_ (Num_ B (if hd = 23 then 99 else 11) p) (fun p1 => Kd_ B 16 p1)) := by
      funext x
      unfold Cl_
      rw [if_neg (by omega), if_neg (by omega)]
      split <;> rfl
    refine pf_ifi (show nI hd = 21 ↔ hd = 21 from nI_eqi (b := 21) (by omega) (by omega)) (fun e21 => ?_) (fun n21 => ?_)
    · rw [if_pos e21] at cl
      have em : most = 11 := by rw [hmost, if_neg (by omega)]
      subst em
      by_cases e1 : x1.1 = 0
      · obtain ⟨a4, a5, a6⟩ := o1.1 e1
        refine pf_bnv (takeToken_v (k := 18) (f15.tp hp) a4 a6 (by decide)) (fun s13 h13 => ?_)
        obtain ⟨f13, x2, n2, o2⟩ := h13
        have f113 := f15.tr f13
        by_cases e2 : x2.1 = 0
        · obtain ⟨b4, b5, b6⟩ := o2.1 e2
          refine pf_bnd (takeNumber_v (most := 1) (f113.tp hp) b4 b6 (by decide)) (fun r14 s15 h15 => ?_)
          obtain ⟨f15', x3, n3, o3⟩ := h15
          refine hk8 r14 s15 (f113.tr f15') ⟨x3, fun e3 x hx => ?_, fun e3 => ?_, o3⟩
          · rw [cl]; exact ⟨x1, n1, fun _ => ⟨x2, n2, fun _ => ⟨x3, n3, fun _ => hx, fun e => absurd e3 e⟩, fun e => absurd e2 e⟩, fun e => absurd e1 e⟩
          · rw [cl]; exact ⟨x1, n1, fun _ => ⟨x2, n2, fun _ => ⟨x3, n3, fun e => absurd e e3, fun _ => rfl⟩, fun e => absurd e2 e⟩, fun e => absurd e1 e⟩
        · have hne : gi s13 4 4 ≠ 0 := fun e' => by rw [(o2.2.1 e2).1] at e'; exact e2 ((nI_eqi (b := 0) (by have := o2.2.2; omega) (by omega)).mp e')
          refine pf_bnd (takeNumber_f hne) (fun r14 s15 h15 => ?_)
          dsimp only at h15
          subst h15
          refine hk8 r14 s15 f113 ⟨x2, fun e => absurd e e2, fun _ => ?_, o2⟩
          rw [cl]; exact ⟨x1, n1, fun _ => ⟨x2, n2, fun e => absurd e e2, fun _ => rfl⟩, fun e => absurd e1 e⟩
      · have hne : gi s5 4 4 ≠ 0 := fun e' => by rw [(o1.2.1 e1).1] at e'; exact e1 ((nI_eqi (b := 0) (by have := o1.2.2; omega) (by omega)).mp e')
        refine pf_bnv (takeToken_f hne) (fun s13 h13 => ?_)
        subst h13
        refine pf_bnd (takeNumber_f hne) (fun r14 s15 h15 => ?_)
        dsimp only at h15
        subst h15
        refine hk8 r14 s15 f15 ⟨x1, fun e => absurd e e1, fun _ => ?_, o1⟩
        rw [cl]; exact ⟨x1, n1, fun e => absurd e e1, fun _ => rfl⟩
    · rw [if_neg n21, ← hmost] at cl
      refine hk8 0 s5 f15 ⟨x1, fun e1 x hx => ?_, fun e1 => ?_, o1⟩
      · rw [cl]; exact ⟨x1, n1, fun _ => hx, fun e => absurd e1 e⟩
      · rw [cl]; exact ⟨x1, n1, fun e => absurd e e1, fun _ => rfl⟩
