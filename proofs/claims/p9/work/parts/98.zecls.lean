/-! the class's reader: a text -/
theorem wp_pf {β : Type} {f : Option β} {P : β → Prop} (h : wp_ f P) : pf_ f P := by
  intro o ho
  rw [ho] at h
  exact h
theorem hf_lt (c : Nat) (ob os : Bool) (kd : Nat) : hf_ c ob os kd < 10 := by
  unfold hf_
  repeat' split
  all_goals decide
theorem hf_0 {c : Nat} {ob os : Bool} {kd : Nat} (h : hf_ c ob os kd = 0) : 19 ≤ kd ∧ kd ≤ 23 ∧ c ≠ 24 ∧ (kd = 19 → ob = false) ∧ (kd = 20 → os = false) := by
  unfold hf_ at h
  by_cases h1 : kd < 19 ∨ 23 < kd
  · rw [if_pos h1] at h; exact absurd h (by decide)
  · rw [if_neg h1] at h
    by_cases h2 : (kd = 19 ∧ ob = true) ∨ (kd = 20 ∧ os = true)
    · rw [if_pos h2] at h; exact absurd h (by decide)
    · rw [if_neg h2] at h
      by_cases h3 : c = 24
      · rw [if_pos h3] at h; exact absurd h (by decide)
      · refine ⟨by omega, by omega, h3, fun e => ?_, fun e => ?_⟩
        · cases ob with
          | false => rfl
          | true => exact absurd (Or.inl ⟨e, rfl⟩) h2
        · cases os with
          | false => rfl
          | true => exact absurd (Or.inr ⟨e, rfl⟩) h2
theorem RunT_end {B : Nat → Int} {T : Nat × Bool × Bool} {p kd st nx nm : Nat} (t : Tk_ B p kd st nx nm) (h : kd = 24) : ∃ f, RunT_ B f T p (0, 0) := ⟨1, kd, st, nx, nm, t, fun _ => rfl, fun e => absurd h e, fun e => absurd h e⟩
theorem RunT_head {B : Nat → Int} {T : Nat × Bool × Bool} {p kd st nx nm : Nat} (t : Tk_ B p kd st nx nm) (h : kd ≠ 24) (hh : hf_ T.1 T.2.1 T.2.2 kd ≠ 0) : ∃ f, RunT_ B f T p (hf_ T.1 T.2.1 T.2.2 kd, st) := ⟨1, kd, st, nx, nm, t, fun e => absurd e h, fun _ _ => rfl, fun _ e => absurd e hh⟩
theorem RunT_cl {B : Nat → Int} {T : Nat × Bool × Bool} {p kd st nx nm : Nat} {x : Nat × Nat} (t : Tk_ B p kd st nx nm) (h : kd ≠ 24) (hh : hf_ T.1 T.2.1 T.2.2 kd = 0) (hx : Cl_ B kd nx x) (h0 : x.1 ≠ 0) : ∃ f, RunT_ B f T p x := ⟨1, kd, st, nx, nm, t, fun e => absurd e h, fun _ e => absurd hh e, fun _ _ => ⟨x, hx, fun _ => rfl, fun e => absurd e h0⟩⟩
theorem LeT_st {B : Nat → Int} {T : Nat × Bool × Bool} {p kd st nx nm : Nat} {x : Nat × Nat} (t : Tk_ B p kd st nx nm) (h : kd ≠ 24) (hh : hf_ T.1 T.2.1 T.2.2 kd = 0) (hx : Cl_ B kd nx x) (h0 : x.1 = 0) : LeT_ B T p (T.1 + 1, T.2.1 || decide (kd = 19), T.2.2 || decide (kd = 20)) x.2 := fun r ⟨f, hf⟩ => ⟨f + 1, kd, st, nx, nm, t, fun e => absurd e h, fun _ e => absurd hh e, fun _ _ => ⟨x, hx, fun e => absurd h0 e, fun _ => hf⟩⟩
theorem I9_.q1 {v : Sg} (h : I9_ v) {q : Nat} (hq : isScr q = true) : gi v q 1 ≠ -1 := by
  have b : 0 ≤ (gi v q 1).toInt ∧ (gi v q 1).toInt ≤ 300 := by
    rcases scr_cases hq with e | e | e | e
    · rw [e]; exact h.1 48 1
    · rw [e]; exact h.1 53 1
    · rw [e]; exact h.1 58 1
    · rw [e]; exact h.1 63 1
  intro e
  rw [e] at b
  exact absurd b.1 (by decide)
/-- one clause more, or a fault -/
def Nx_ (B : Nat → Int) (n q c : Nat) (z : Sg) : Prop := (∃ p' ob' os', gi z 4 4 = 0 ∧ p' ≤ n ∧ Ct_ B n p' z ∧ gi z q 9 = nI c ∧ c ≤ 24 ∧ (gi z q 2 = -1 ↔ ob' = false) ∧ (gi z q 4 = -1 ↔ os' = false) ∧ LeT_ B (0, false, false) 0 (c, ob', os') p') ∨ (∃ x, (∃ f, RunT_ B f (0, false, false) 0 x) ∧ x.1 ≠ 0 ∧ x.1 < 10 ∧ gi z 4 4 = nI x.1 ∧ gi z 4 5 = nI x.2)
theorem readLoop_v {B : Nat → Int} {n q : Nat} {u0 : Sg} {k9 : Sg → Option (Bool × Sg)} {Q : Bool × Sg → Prop} (hq : isScr q = true) (hg : gr u0 4 3 = q) (hI : I9_ u0) (hp : TPc_ B n u0) (h4 : gi u0 4 4 = 0) (hc : Ct_ B n 0 u0) (h9 : gi u0 q 9 = nI 0) (h2 : gi u0 q 2 = -1) (h4' : gi u0 q 4 = -1)
    (hk : ∀ v x, KF_ q u0 v → FQ_ u0 v → (∃ f, RunT_ B f (0, false, false) 0 x) → (x.1 = 0 → gi v 4 4 = 0) → (x.1 ≠ 0 → gi v 4 4 = nI x.1 ∧ gi v 4 5 = nI x.2) → x.1 < 10 → pf_ (k9 v) Q) : pf_ (lo2 (fX2_read_31_b k9) FU 0 u0) Q := by
  have q48 : 48 ≤ q := by rcases scr_cases hq with h | h | h | h <;> omega
  refine pf_lo2 (fun (x2 : Int32) v => I9_ v ∧ KF_ q u0 v ∧ FQ_ u0 v ∧ ∃ c, c ≤ 25 ∧ x2 = nI c ∧ Nx_ B n q c v) ?_ FU 0 u0 ⟨hI, KF_.rf, FQ_.rf, 0, by decide, rfl, Or.inl ⟨0, false, false, h4, Nat.zero_le _, hc, h9, by decide, ⟨fun _ => rfl, fun _ => h2⟩, ⟨fun _ => rfl, fun _ => h4'⟩, fun _ h => h⟩⟩
  rintro rec x2 v ⟨iv, kv, fv, c, hc25, ex, hv⟩ hr
  rw [ex]
  clear ex
  unfold fX2_read_31_b
  have gv : gr v 4 3 = q := by
    have : gr v 4 3 = gr u0 4 3 := by unfold gr; rw [kv.2.2]
    rw [this]; exact hg
  rcases hv with ⟨p, ob, os, v4, hpn, ct, v9, hc24, vb, vs, hle⟩ | ⟨x, hx, x0, x10, xa, xb⟩
  · refine pf_ifi (show 24 < nI c ↔ 24 < c from nI_lti (a := 24) (by omega) (by omega)) (fun e => by omega) (fun _ => ?_)
    rw [if_pos v4]
    obtain ⟨kd, st, nx, nm, tk, hnx, t2, t3, t4, t5⟩ := ct
    obtain ⟨_, _, _, hk40⟩ := Tk_adv tk
    rw [t2]
    refine pf_ifi (show nI kd = 24 ↔ kd = 24 from nI_eqi (b := 24) (by omega) (by omega)) (fun e24 => hk v (0, 0) kv fv (hle _ (RunT_end tk e24)) (fun _ => v4) (fun e => absurd rfl e) (by decide)) (fun n24 => ?_)
    refine pf_bv (fun v12 e12 => ?_)
    rw [e12]
    clear e12
    refine pf_bnd (headFault_v gv v9 hc24 vb vs hk40) (fun r13 s14 h13 => ?_)
    obtain ⟨es, er⟩ := h13
    dsimp only at es er
    rw [es, er]
    clear es er
    have hfl := hf_lt c ob os kd
    refine pf_jn (fun kk => ∀ z, I9_ z → KF_ q u0 z → FQ_ u0 z → (c ≤ 24 ∧ Nx_ B n q (c + 1) z) → pf_ (kk z) Q) ?_ (fun k16 hk16 => ?_)
    · intro z iz kz fz hz
      try dsimp only
      refine pf_bv (fun y ey => ?_)
      rw [nI_1] at ey
      exact hr _ z ⟨iz, kz, fz, c + 1, by omega, ey, hz.2⟩
    refine pf_ifi (show nI (hf_ c ob os kd) = 0 ↔ hf_ c ob os kd = 0 from nI_eqi (b := 0) (by omega) (by omega)) (fun h0 => ?_) (fun h0 => ?_)
    · obtain ⟨k19, k23, c24, nob, nos⟩ := hf_0 h0
      have hS : isScr (gr v 4 3) = true := by rw [gv]; exact hq
      refine pf_jn (fun kk => (kd = 19 ∨ kd = 20) → pf_ kk Q) (fun hl => ?_) (fun k18 hk18 => ?_)
      · refine pf_bnv (pf_and (readLaw_v hq gv (kv.tp q48 hp) v4 t4 hnx hl v9 (by omega) (iv.q1 hq)) (pf_and (wp_pf (tX2_readLaw (nI kd) v iv hS)) (yq_fX2_readLaw (nI kd) v))) (fun s19 h19 => ?_)
        obtain ⟨⟨kf, x, hx, hpo, hx0⟩, r9, fq⟩ := h19
        refine hk16 s19 r9.1 (kv.tr kf) (fv.tr fq) ⟨hc24, ?_⟩
        by_cases e : x.1 = 0
        · obtain ⟨o1, o2, o3⟩ := hpo.1 e
          obtain ⟨y9, yb, ys⟩ := hx0 e
          refine Or.inl ⟨x.2, ob || decide (kd = 19), os || decide (kd = 20), o1, o2, o3, y9, by omega, ?_, ?_, fun r hr => hle r (LeT_st (T := (c, ob, os)) tk n24 h0 hx e r hr)⟩
          · rcases hl with e19 | e20
            · subst e19
              exact ⟨fun h => absurd h (yb rfl).1, fun h => by simp at h⟩
            · subst e20
              rw [(ys rfl).2, show (ob || decide (20 = 19)) = ob by cases ob <;> rfl]
              exact vb
          · rcases hl with e19 | e20
            · subst e19
              rw [(yb rfl).2, show (os || decide (19 = 20)) = os by cases os <;> rfl]
              exact vs
            · subst e20
              exact ⟨fun h => absurd h (ys rfl).1, fun h => by simp at h⟩
        · exact Or.inr ⟨x, hle _ (RunT_cl (T := (c, ob, os)) tk n24 h0 hx e), e, hpo.2.2, hpo.2.1 e⟩
      · refine pf_ifi (show nI kd = 19 ↔ kd = 19 from nI_eqi (b := 19) (by omega) (by omega)) (fun e => hk18 (Or.inl e)) (fun n19 => pf_ifi (show nI kd = 20 ↔ kd = 20 from nI_eqi (b := 20) (by omega) (by omega)) (fun e => hk18 (Or.inr e)) (fun n20 => ?_))
        refine pf_bnv (pf_and (readStep_v hq gv (kv.tp q48 hp) v4 t4 hnx ⟨by omega, k23⟩ v9 (by omega)) (pf_and (wp_pf (tX2_readStep (nI kd) v iv hS)) (yq_fX2_readStep (nI kd) v))) (fun s21 h21 => ?_)
        obtain ⟨⟨kf, x, hx, hpo, hx0⟩, r9, fq⟩ := h21
        refine hk16 s21 r9.1 (kv.tr kf) (fv.tr fq) ⟨hc24, ?_⟩
        by_cases e : x.1 = 0
        · obtain ⟨o1, o2, o3⟩ := hpo.1 e
          obtain ⟨y9, yb, ys⟩ := hx0 e
          refine Or.inl ⟨x.2, ob || decide (kd = 19), os || decide (kd = 20), o1, o2, o3, y9, by omega, ?_, ?_, fun r hr => hle r (LeT_st (T := (c, ob, os)) tk n24 h0 hx e r hr)⟩
          · rw [yb, decide_eq_false n19, Bool.or_false]; exact vb
          · rw [ys, decide_eq_false n20, Bool.or_false]; exact vs
        · exact Or.inr ⟨x, hle _ (RunT_cl (T := (c, ob, os)) tk n24 h0 hx e), e, hpo.2.2, hpo.2.1 e⟩
    · have hne : nI (hf_ c ob os kd) ≠ 0 := fun e => h0 ((nI_eqi (b := 0) (by omega) (by omega)).mp e)
      refine pf_bnv (pf_and (P := fun z => z = si (si v 4 4 (nI (hf_ c ob os kd))) 4 5 (gi v 3 3)) (fun o ho => by rw [fail_e v4] at ho; injection ho with ho; exact ho.symm) (pf_and (wp_pf (tX2_fail (nI (hf_ c ob os kd)) v iv)) (yq_fX2_fail (nI (hf_ c ob os kd)) v hne))) (fun z hz => ?_)
      obtain ⟨ez, r9, fq⟩ := hz
      exact hk16 z r9.1 (kv.tr (fail_hf ez).kf) (fv.tr fq) ⟨hc24, Or.inr ⟨(hf_ c ob os kd, st), hle _ (RunT_head (T := (c, ob, os)) tk n24 h0), h0, hfl, by rw [ez, gsi_ne (by decide), gsi_eq], by rw [ez, gsi_eq]; exact t3⟩⟩
  · have go : pf_ (k9 v) Q := hk v x kv fv hx (fun e => absurd e x0) (fun _ => ⟨xa, xb⟩) x10
    refine pf_if go ?_
    rw [if_neg (fun e' => by rw [xa] at e'; exact x0 ((nI_eqi (b := 0) (by omega) (by omega)).mp e'))]
    exact go
/-- what a reading has come to -/
def Rd_ (B : Nat → Int) (x : Nat × Nat) (v : Sg) : Prop := (∃ f, RunT_ B f (0, false, false) 0 x) ∧ (x.1 = 0 → gi v 4 4 = 0 ∧ gi v 4 5 = -1) ∧ (x.1 ≠ 0 → gi v 4 4 = nI x.1 ∧ gi v 4 5 = nI x.2) ∧ x.1 < 10
theorem read9_v {B : Nat → Int} {n q : Nat} {s : Sg} (hq : isScr q = true) (hI : I9_ s) (hp : TPc_ B n s) : pf_ (fX2_read q s) (fun r => ∃ x, Rd_ B x r.2 ∧ (r.1 = true ↔ x.1 = 0) ∧ gi r.2 1 = gi s 1) := by
  have q48 : 48 ≤ q := by rcases scr_cases hq with h | h | h | h <;> omega
  generalize hQ : (fun r : Bool × Sg => ∃ x, Rd_ B x r.2 ∧ (r.1 = true ↔ x.1 = 0) ∧ gi r.2 1 = gi s 1) = Q
  unfold fX2_read
  refine pf_bv (fun s1 e1 => ?_)
  have I1 : I9_ s1 := by rw [e1]; exact hI.sr (Or.inr (by decide))
  have er : gr s1 4 3 = q := by rw [e1, gr_sr, if_pos rfl]; simp [va_up]
  have f1 : ∀ k, gi s1 k = gi s k := fun k => by rw [e1, gi_sr]
  clear e1
  rw [er]
  refine pf_bv (fun q2 e2 => ?_)
  rw [e2]
  clear e2
  refine pf_chk (fun _ => ?_)
  refine pf_bnv (pf_and (P := fun t => t = si (si (si (si s1 q 1 0) q 2 (-1)) q 4 (-1)) q 9 0) (fun o ho => by injection ho with ho; exact ho.symm) (wp_pf (tX5_clear q s1 I1 hq))) (fun s4 h4 => ?_)
  obtain ⟨e4, r4⟩ := h4
  refine pf_bv (fun s5 e5 => pf_bv (fun s6 e6 => ?_))
  have I5 : R9_ s1 s5 := by rw [e5]; exact R9_.si r4 (by decide) trivial
  have I6 : R9_ s1 s6 := by rw [e6]; exact R9_.si I5 (by decide) trivial
  have g6 : gr s6 4 3 = q := by
    have : gr s6 4 3 = gr s1 4 3 := by unfold gr; rw [I6.2.2.1]
    rw [this]; exact er
  have c6 : ∀ k, k ≠ 4 → k ≠ q → gi s6 k = gi s k := fun k a b => by rw [e6, gsi_f a, e5, gsi_f a, e4, gsi_f b, gsi_f b, gsi_f b, gsi_f b]; exact f1 k
  have q9 : gi s6 q 9 = 0 := by rw [e6, gsi_k (by omega), e5, gsi_k (by omega), e4, gsi_eq]
  have q4 : gi s6 q 4 = -1 := by rw [e6, gsi_k (by omega), e5, gsi_k (by omega), e4, gsi_ne (by decide), gsi_eq]
  have q2 : gi s6 q 2 = -1 := by rw [e6, gsi_k (by omega), e5, gsi_k (by omega), e4, gsi_ne (by decide), gsi_ne (by decide), gsi_eq]
  have z5 : gi s6 4 5 = -1 := by rw [e6, gsi_eq]
  have z4 : gi s6 4 4 = 0 := by rw [e6, gsi_ne (by decide), e5, gsi_eq]
  clear e6 e5 e4
  have p6 : TPc_ B n s6 := ⟨by rw [c6 3 (by decide) (by omega)]; exact hp.1, hp.2.1, fun k hk => by rw [c6 17 (by decide) (by omega)]; exact hp.2.2.1 k hk, hp.2.2.2⟩
  have beg : pf_ (fX7_begin s6) (fun t => (∀ k, k ≠ 3 → gi t k = gi s6 k) ∧ gi t 3 1 = gi s6 3 1 ∧ t.2 = s6.2 ∧ Ct_ B n 0 t) := by
    unfold fX7_begin
    refine pf_bv (fun a ea => ?_)
    have pa : TPc_ B n a := ⟨by rw [ea, gsi_ne (by decide)]; exact p6.1, p6.2.1, fun k hk => by rw [ea, gsi_k (by decide)]; exact p6.2.2.1 k hk, p6.2.2.2⟩
    refine pf_bnv (advance9_v (p := 0) pa (by rw [ea, gsi_eq]; rfl) (Nat.zero_le _)) (fun t ht => pf_some ⟨fun k hk => by rw [ht.1.1 k hk, ea, gsi_f hk], by rw [ht.1.2.1 1 (by decide), ea, gsi_ne (by decide)], by rw [ht.1.2.2, ea]; rfl, ht.2⟩)
  refine pf_bnv (pf_and beg (wp_pf (tX7_begin s6 I6.1))) (fun s7 h7 => ?_)
  obtain ⟨⟨b1, b2, b3, b4⟩, r7⟩ := h7
  have g7 : gr s7 4 3 = q := by
    have : gr s7 4 3 = gr s6 4 3 := by unfold gr; rw [b3]
    rw [this]; exact g6
  have p7 : TPc_ B n s7 := ⟨by rw [b2]; exact p6.1, p6.2.1, fun k hk => by rw [b1 17 (by decide)]; exact p6.2.2.1 k hk, p6.2.2.2⟩
  refine pf_jn (fun kk => ∀ v x, KF_ q s7 v → FQ_ s7 v → (∃ f, RunT_ B f (0, false, false) 0 x) → (x.1 = 0 → gi v 4 4 = 0) → (x.1 ≠ 0 → gi v 4 4 = nI x.1 ∧ gi v 4 5 = nI x.2) → x.1 < 10 → pf_ (kk v) Q) ?_ (fun k9 hk9 => readLoop_v hq g7 r7.1 p7 (by rw [b1 4 (by decide)]; exact z4) b4 (by rw [b1 q (by omega)]; exact q9) (by rw [b1 q (by omega)]; exact q2) (by rw [b1 q (by omega)]; exact q4) hk9)
  intro v x kv fv hx a1 a2 a3
  try dsimp only
  have v1 : gi v 1 = gi s 1 := by rw [kv.1 1 (by decide) (by decide) (by decide) (by omega), b1 1 (by decide), c6 1 (by decide) (by omega)]
  have rd : Rd_ B x v := by
    refine ⟨hx, fun e => ⟨a1 e, ?_⟩, a2, a3⟩
    rcases fv.2 with h | h
    · rw [h, b1 4 (by decide)]; exact z5
    · exact absurd (a1 e) h
  refine pf_ifc (fun h => pf_some ?_) (fun h => pf_some ?_)
  · rw [← hQ]
    refine ⟨x, rd, ⟨fun _ => ?_, fun _ => rfl⟩, v1⟩
    by_cases e : x.1 = 0
    · exact e
    · exact absurd h (by rw [(a2 e).1]; exact fun e' => e ((nI_eqi (b := 0) (by omega) (by omega)).mp e'))
  · rw [← hQ]
    exact ⟨x, rd, ⟨fun e => (nomatch e), fun e => absurd (a1 e) h⟩, v1⟩
/-- the class's text -/
theorem text9_v {B : Nat → Int} {n : Nat} {s : Sg} (hI : I9_ s) (hp : TPc_ B n s) : pf_ (fX9_text s) (fun r => (¬ gi s 1 11 < 4 → r = (-1, s)) ∧ (gi s 1 11 < 4 → ∃ x, Rd_ B x r.2 ∧ gi r.2 3 1 = 0 ∧ (x.1 = 0 → gi r.2 1 11 = gi s 1 11 + 1 ∧ r.1 = gi r.2 1 11 - 1) ∧ (x.1 ≠ 0 → gi r.2 1 11 = gi s 1 11 ∧ r.1 = -1) ∧ ∀ j, j ≠ 11 → gi r.2 1 j = gi s 1 j)) := by
  generalize hQ : (fun r : Int32 × Sg => (¬ gi s 1 11 < 4 → r = (-1, s)) ∧ (gi s 1 11 < 4 → ∃ x, Rd_ B x r.2 ∧ gi r.2 3 1 = 0 ∧ (x.1 = 0 → gi r.2 1 11 = gi s 1 11 + 1 ∧ r.1 = gi r.2 1 11 - 1) ∧ (x.1 ≠ 0 → gi r.2 1 11 = gi s 1 11 ∧ r.1 = -1) ∧ ∀ j, j ≠ 11 → gi r.2 1 j = gi s 1 j)) = Q
  unfold fX9_text
  refine pf_ifc (fun h => ?_) (fun h => pf_some (by rw [← hQ]; exact ⟨fun _ => rfl, fun e => absurd e h⟩))
  refine pf_chk (fun _ => pf_bv (fun q eq => pf_chk (fun hq => ?_)))
  refine pf_bnd (read9_v hq hI hp) (fun b s5 h5 => ?_)
  obtain ⟨x, rd, hb, c1⟩ := h5
  dsimp only at rd hb c1
  refine pf_bv (fun s6 e6 => ?_)
  have rd6 : Rd_ B x s6 := by
    unfold Rd_ at rd ⊢
    rw [e6, gsi_f (show (4 : Nat) ≠ 3 by decide)]
    exact rd
  have t6 : gi s6 3 1 = 0 := by rw [e6, gsi_eq]
  have c6 : gi s6 1 = gi s 1 := by rw [e6, gsi_f (by decide)]; exact c1
  clear e6
  cases b with
  | false =>
    have x0 : x.1 ≠ 0 := fun e => nomatch hb.mpr e
    rw [if_pos (show b2i false = 0 from rfl)]
    refine pf_some ?_
    rw [← hQ]
    exact ⟨fun e => absurd h e, fun _ => ⟨x, rd6, t6, fun e => absurd e x0, fun _ => ⟨by rw [c6], rfl⟩, fun j _ => by rw [c6]⟩⟩
  | true =>
    have x0 : x.1 = 0 := hb.mp rfl
    rw [if_neg (show ¬ b2i true = 0 by decide +kernel)]
    refine pf_bv (fun s7 e7 => pf_some ?_)
    rw [← hQ]
    refine ⟨fun e => absurd h e, fun _ => ⟨x, ?_, by rw [e7, gsi_k (by decide)]; exact t6, fun _ => ⟨by rw [e7, gsi_eq, c6], rfl⟩, fun e => absurd x0 e, fun j hj => by rw [e7, gsi_ne hj, c6]⟩⟩
    unfold Rd_ at rd6 ⊢
    rw [e7, gsi_f (show (4 : Nat) ≠ 1 by decide)]
    exact rd6
