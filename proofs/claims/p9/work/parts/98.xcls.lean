theorem joinBy_v {q x m o : Nat} {W : List Nat} {u : Sg} (hq : isScr q = true) (hg : gr u 4 3 = q) (hx15 : x < 15) (hW : Wl_ (gi u 18) W m) (hm : gi u 4 2 = nI m) (hm29 : m ≤ 29) (ho : gi u 4 6 = nI o) (ho8 : o ≤ 100) (hn : nn_ (bd_ x) W ≤ o) (hx : ∀ y, y ∈ W → y < 15) (room : (dw_ (bd_ x) W).length < 29) : pf_ (fX2_joinBy (nI x) u) (fun v => LF_ q u v ∧ gi v 3 = gi u 3 ∧ (∀ j, j ≠ 2 → j ≠ 6 → j ≠ 9 → gi v 4 j = gi u 4 j) ∧ gi v 4 9 = 1 ∧ ∃ m', Wl_ (gi v 18) (x :: dw_ (bd_ x) W) m' ∧ gi v 4 2 = nI m' ∧ gi v 4 6 = nI (o - nn_ (bd_ x) W)) := by
  have q48 : 48 ≤ q := by rcases scr_cases hq with h | h | h | h <;> omega
  unfold fX2_joinBy
  refine pf_chk (fun _ => ?_)
  rw [ix_nI (show x < 2 ^ 31 by omega), tB_bd x hx15]
  refine pf_bnv (settle9_v hq hg (bd_le x hx15) hW hm hm29 ho ho8 hn hx) (fun v hv => ?_)
  obtain ⟨v1, v2, v3, m', v4, v5, v6⟩ := hv
  have hl := Wl_len v4
  refine pf_bnv (P := fun z => z = si (si v 18 m' (nI x)) 4 2 (nI (m' + 1))) (fun o' ho' => by rw [keepW_e v5 (by omega)] at ho'; injection ho' with ho'; exact ho'.symm) (fun z ez => pf_bv (fun y ey => pf_some ?_))
  refine ⟨by rw [ey, ez]; exact ((v1.si18 q48).si4 q48).si4 q48, by rw [ey, gsi_f (by decide), ez, gsi_f (by decide), gsi_f (by decide)]; exact v2, fun j a b c => by rw [ey, gsi_ne c, ez, gsi_ne a, gsi_k (by decide)]; exact v3 j a b, by rw [ey, gsi_eq]; rfl, m' + 1, ⟨m', rfl, by rw [ey, gsi_k (by decide), ez, gsi_k (by decide), gsi_eq], Wl_fr v4 (fun i hi => by rw [ey, gsi_k (by decide), ez, gsi_k (by decide), gsi_ne (by omega)])⟩, by rw [ey, gsi_ne (by decide), ez, gsi_eq], by rw [ey, gsi_ne (by decide), ez, gsi_ne (by decide), gsi_k (by decide)]; exact v6⟩
theorem dw_len (l : Nat) : ∀ W : List Nat, (dw_ l W).length ≤ W.length := by
  intro W
  induction W with
  | nil => exact Nat.le_refl _
  | cons x W ih =>
    show (if bd_ x < l then x :: W else dw_ l W).length ≤ _
    by_cases h : bd_ x < l
    · rw [if_pos h]; exact Nat.le_refl _
    · rw [if_neg h, List.length_cons]; omega
theorem cnt0_ {base W : List Nat} {S : List Bool} {t : Nat} (h : Sh_ base W S t) (ht : t ≠ 1) : (S.count true = 0 ↔ S = []) ∧ (S ≠ [] → ∃ S', S = true :: S') := by
  have e := Sh_pop h ht
  cases S with
  | nil => exact ⟨⟨fun _ => rfl, fun _ => rfl⟩, fun e => absurd rfl e⟩
  | cons b S =>
    cases b with
    | true => exact ⟨⟨fun e => by rw [List.count_cons_self] at e; omega, fun e => nomatch e⟩, fun _ => ⟨S, rfl⟩⟩
    | false =>
      exfalso
      have e' : popN_ S = false :: S := e
      have : ∀ S : List Bool, (popN_ S).length ≤ S.length := by
        intro S
        induction S with
        | nil => exact Nat.le_refl _
        | cons c S ih =>
          cases c with
          | true => exact Nat.le_refl _
          | false => show (popN_ S).length ≤ _; rw [List.length_cons]; omega
      have h1 := this S
      rw [e', List.length_cons] at h1
      omega
theorem readOperation_v {asks rel ab : Bool} {S : List Bool} {nots q kd st nx nm : Nat} {u : Sg} (hq : isScr q = true) (h : CL_ asks rel ab false S nots q u) (hk : kd < 40) (h32 : gi u 3 2 = nI kd) (h33 : gi u 3 3 = nI st) : pf_ (fX2_readOperation u) (fun v => LF_ q u v ∧ gi v 3 = gi u 3 ∧ CR_ asks q v (lst_ asks (rel, ab, false, S, nots) kd st nx nm)) := by
  generalize hQ : (fun v : Sg => LF_ q u v ∧ gi v 3 = gi u 3 ∧ CR_ asks q v (lst_ asks (rel, ab, false, S, nots) kd st nx nm)) = Q
  have q48 : 48 ≤ q := by rcases scr_cases hq with h | h | h | h <;> omega
  have l_ : lst_ asks (rel, ab, false, S, nots) kd st nx nm = (if 10 ≤ kd ∧ kd ≤ 13 then .inr ((rel, ab, true, S, nots), nx) else if kd = 15 ∧ S ≠ [] then .inr ((rel, ab, false, popN_ S.tail, nots), nx) else if 4 ≤ kd ∧ kd ≤ 9 ∧ asks = true ∧ S = [] ∧ rel = false then .inr ((true, ab, true, [], nots), nx) else if (kd = 2 ∨ kd = 1) ∧ S = [] ∧ rel = true then .inr ((false, true, true, [], 0), nx) else if kd = 16 ∧ S = [] ∧ rel = asks then .inl (0, nx) else .inl (1, st)) := rfl
  obtain ⟨g, c4, c12, c8, c11, c10, c9, c7, base, W, k, m, t, a1, a2, a3, a4, a5, a6, a7, a8, a9⟩ := h
  have ht := a4 rfl
  obtain ⟨m29, hlt15⟩ := W_room a1 a2 (Or.inl ht) a5 a8
  obtain ⟨n0, nT⟩ := cnt0_ a2 ht
  have hcl := cnt_le S
  have hlen := Wl_len a5
  rw [List.length_append, List.length_replicate] at hlen
  have hroom := Sh_room a2
  have hbl := Ba_len a1
  have abf : ab = false := by
    cases hab : ab with
    | false => rfl
    | true =>
      have := (a9 hab).2.2.2
      exact nomatch this
  have inj : ∀ a b : Bool, b2i a = b2i b ↔ a = b := by decide +kernel
  unfold fX2_readOperation
  refine pf_bv (fun v1 e1 => ?_)
  rw [h32] at e1
  subst e1
  refine pf_jn (fun kk => ¬ (10 ≤ kd ∧ kd ≤ 13) → pf_ kk Q) ?_ (fun k2 hk2 => ?_)
  · intro nb
    refine pf_jn (fun kk => ¬ (kd = 15 ∧ S ≠ []) → pf_ kk Q) ?_ (fun k3 hk3 => ?_)
    · intro nc
      refine pf_jn (fun kk => ¬ (4 ≤ kd ∧ kd ≤ 9 ∧ asks = true ∧ S = [] ∧ rel = false) → pf_ kk Q) ?_ (fun k4 hk4 => ?_)
      · intro nr
        refine pf_jn (fun kk => ¬ ((kd = 2 ∨ kd = 1) ∧ S = [] ∧ rel = true) → pf_ kk Q) ?_ (fun k5 hk5 => ?_)
        · intro na
          refine pf_jn (fun kk => ¬ (kd = 16 ∧ S = [] ∧ rel = asks) → pf_ kk Q) ?_ (fun k6 hk6 => ?_)
          · intro ns
            refine pf_bnv (P := fun z => z = si (si u 4 4 1) 4 5 (gi u 3 3)) (fun o' ho' => by rw [fail_e c4] at ho'; injection ho' with ho'; exact ho'.symm) (fun z ez => pf_some ?_)
            rw [← hQ]
            refine ⟨by rw [ez]; exact (LF_.rf.si4 q48).si4 q48, by rw [ez, gsi_f (by decide), gsi_f (by decide)], ?_⟩
            rw [l_, if_neg nb, if_neg nc, if_neg nr, if_neg na, if_neg ns]
            exact ⟨fun e => absurd e (show ¬ (1 : Nat) = 0 by decide), fun _ => ⟨by rw [ez, gsi_ne (by decide), gsi_eq]; rfl, by rw [ez, gsi_eq]; exact h33⟩⟩
          · rw [c7, c11, c8]
            refine pf_ifi (show nI kd = 16 ↔ kd = 16 from nI_eqi (b := 16) (by omega) (by omega)) (fun e16 => ?_) (fun n16 => hk6 (fun e => n16 e.1))
            refine pf_ifi (show nI (S.count true) = 0 ↔ S = [] from (nI_eqi (b := 0) (by omega) (by omega)).trans n0) (fun eS => ?_) (fun nS => hk6 (fun e => nS e.2.1))
            refine pf_ifi (inj rel asks) (fun er => ?_) (fun nr' => hk6 (fun e => nr' e.2.2))
            obtain ⟨d1, d2⟩ := dw_rep (l := 1) (k := k) (W := W) (by decide)
            subst eS
            obtain ⟨d3, d4⟩ := dw_down (base := base) (l := 1) (by decide) (by decide) a2 ht
            have d5 := (dw_rel a1 (l := 1) (Or.inl rfl)).1
            refine pf_bnv (settle9_v (l := 1) hq g (by decide) a5 a6 m29 a7 (by omega) (by rw [d2, d4, d5]; have : ([] : List Bool).length = 0 := rfl; omega) hlt15) (fun v hv => pf_bv (fun y ey => pf_some ?_))
            obtain ⟨v1, v2, v3, m', v4, v5, v6⟩ := hv
            rw [← hQ]
            refine ⟨by rw [ey]; exact v1.si4 q48, by rw [ey, gsi_f (by decide)]; exact v2, ?_⟩
            rw [l_, if_neg nb, if_neg nc, if_neg nr, if_neg na, if_pos ⟨e16, rfl, er⟩]
            exact ⟨fun _ => ⟨by rw [ey, gsi_ne (by decide), v3 4 (by decide) (by decide)]; exact c4, by rw [ey, gsi_eq]; rfl⟩, fun e => absurd rfl e⟩
        · refine pf_jn (fun kk => (kd = 2 ∨ kd = 1) → pf_ kk Q) ?_ (fun k11 hk11 => ?_)
          · intro hao
            rw [c7, c11]
            refine pf_ifi (show nI (S.count true) = 0 ↔ S = [] from (nI_eqi (b := 0) (by omega) (by omega)).trans n0) (fun eS => ?_) (fun nS => hk5 (fun e => nS e.2.1))
            refine pf_ifi (b0i_ (b := rel) (P := rel = true) Iff.rfl) (fun nrel => hk5 (fun e => nrel e.2.2)) (fun yrel => ?_)
            have er : rel = true := by
              cases rel with
              | true => rfl
              | false => exact absurd (fun e => nomatch e) yrel
            subst eS
            subst er
            have hbk : bd_ kd = kd := by rcases hao with rfl | rfl <;> rfl
            obtain ⟨d1, d2⟩ := dw_rep (l := bd_ kd) (k := k) (W := W) (by rw [hbk]; omega)
            obtain ⟨d3, d4⟩ := dw_down (base := base) (l := bd_ kd) (by rw [hbk]; omega) (by rw [hbk]; omega) a2 ht
            obtain ⟨d5, d6, d7⟩ := dw_rel a1 (l := bd_ kd) (by rw [hbk]; omega)
            have z0 : ([] : List Bool).length = 0 := rfl
            refine pf_bnv (joinBy_v hq g (by omega) a5 a6 m29 a7 (by omega) (by rw [d2, d4, d5]; omega) hlt15 ?_) (fun v hv => pf_bv (fun y1 e1 => pf_bv (fun y2 e2 => pf_some ?_)))
            · rw [d1, d3]
              rcases hao with rfl | rfl
              · rcases d7 rfl with e | e <;> rw [e] <;> decide
              · rw [d6 rfl]; decide
            · obtain ⟨v1, v2, v3, v4, m', v5, v6, v7⟩ := hv
              rw [← hQ]
              have f4 : ∀ j, j ≠ 2 → j ≠ 6 → j ≠ 9 → j ≠ 10 → j ≠ 11 → gi y2 4 j = gi u 4 j := fun j b1 b2 b3 b4 b5 => by rw [e2, gsi_ne b4, e1, gsi_ne b5]; exact v3 j b1 b2 b3
              have ly : LF_ q u y2 := by rw [e2, e1]; exact (v1.si4 q48).si4 q48
              refine ⟨ly, by rw [e2, gsi_f (by decide), e1, gsi_f (by decide)]; exact v2, ?_⟩
              rw [l_, if_neg nb, if_neg nc, if_neg nr, if_pos ⟨hao, rfl, rfl⟩]
              have ba : Ba_ (kd :: dw_ (bd_ kd) base) false 0 := by
                refine ⟨[], kd :: dw_ (bd_ kd) base, rfl, Or.inl ⟨rfl, rfl⟩, ?_⟩
                rcases hao with rfl | rfl
                · rcases d7 rfl with e | e <;> rw [e]
                  · exact Or.inr (Or.inl rfl)
                  · exact Or.inr (Or.inr (Or.inr rfl))
                · rw [d6 rfl]; exact Or.inr (Or.inr (Or.inl rfl))
              refine CL_.mk (by rw [LFgr_ ly]; exact g) (by rw [f4 4 (by decide) (by decide) (by decide) (by decide) (by decide)]; exact c4) (by rw [f4 12 (by decide) (by decide) (by decide) (by decide) (by decide)]; exact c12) (by rw [f4 8 (by decide) (by decide) (by decide) (by decide) (by decide)]; exact c8) (by rw [e2, gsi_ne (by decide), e1, gsi_eq]) (by rw [e2, gsi_eq]) (by rw [e2, gsi_ne (by decide), e1, gsi_ne (by decide)]; exact v4) (by rw [f4 7 (by decide) (by decide) (by decide) (by decide) (by decide)]; exact c7) ba (W := kd :: dw_ (bd_ kd) base) (k := 0) (m := m') (t := 0) (Sh_base (Ba_mem ba)) (fun _ => rfl) (fun e => nomatch e) ?_ (by rw [e2, gsi_ne (by decide), e1, gsi_ne (by decide)]; exact v6) ?_ (show 0 + 0 + 0 ≤ 8 by decide) (fun _ => ⟨rfl, rfl, rfl, rfl⟩)
              · rw [e2, gsi_f (by decide), e1, gsi_f (by decide)]
                rw [d1, d3] at v5
                exact v5
              · rw [e2, gsi_ne (by decide), e1, gsi_ne (by decide), v7, d2, d4, d5]
                congr 1
                show 0 + k + nots - (k + nots) = 0 + 0 + 0
                omega
          · refine pf_ifi (show nI kd = 2 ↔ kd = 2 from nI_eqi (b := 2) (by omega) (by omega)) (fun e => hk11 (Or.inl e)) (fun n2 => pf_ifi (show nI kd = 1 ↔ kd = 1 from nI_eqi (b := 1) (by omega) (by omega)) (fun e => hk11 (Or.inr e)) (fun n1 => hk5 (fun e => by omega)))
      · rw [c8, c7, c11]
        refine pf_ifi (show nI kd < 4 ↔ kd < 4 from nI_lti (b := 4) (by omega) (by omega)) (fun hl => hk4 (fun e => by omega)) (fun hl => ?_)
        refine pf_ifi (show 9 < nI kd ↔ 9 < kd from nI_lti (a := 9) (by omega) (by omega)) (fun hg => hk4 (fun e => by omega)) (fun hg => ?_)
        refine pf_ifi (b0i_ (b := asks) (P := asks = true) Iff.rfl) (fun nas => hk4 (fun e => nas e.2.2.1)) (fun yas => ?_)
        have eas : asks = true := by
          cases asks with
          | true => rfl
          | false => exact absurd (fun e => nomatch e) yas
        refine pf_ifi (show nI (S.count true) = 0 ↔ S = [] from (nI_eqi (b := 0) (by omega) (by omega)).trans n0) (fun eS => ?_) (fun nS => hk4 (fun e => nS e.2.2.2.1))
        refine pf_ifi (b0i_ (b := rel) (P := rel = true) Iff.rfl) (fun nrel => ?_) (fun yrel => hk4 (fun e => ?_))
        · have er : rel = false := by
            cases rel with
            | false => rfl
            | true => exact absurd rfl nrel
          subst eS
          subst er
          have hbk : bd_ kd = 4 := by
            have : ∀ c, c < 10 → 4 ≤ c → bd_ c = 4 := by decide
            exact this kd (by omega) (by omega)
          obtain ⟨d1, d2⟩ := dw_rep (l := bd_ kd) (k := k) (W := W) (by rw [hbk]; decide)
          obtain ⟨d3, d4⟩ := dw_down (base := base) (l := bd_ kd) (by rw [hbk]; decide) (by rw [hbk]; decide) a2 ht
          have d5 := dw_4 a1
          rw [← hbk] at d5
          have z0 : ([] : List Bool).length = 0 := rfl
          refine pf_bnv (joinBy_v hq g (by omega) a5 a6 m29 a7 (by omega) (by rw [d2, d4, d5.2]; omega) hlt15 (by rw [d1, d3, d5.1]; omega)) (fun v hv => pf_bv (fun y1 e1 => pf_some ?_))
          obtain ⟨v1, v2, v3, v4, m', v5, v6, v7⟩ := hv
          rw [← hQ]
          have f4 : ∀ j, j ≠ 2 → j ≠ 6 → j ≠ 9 → j ≠ 11 → gi y1 4 j = gi u 4 j := fun j b1 b2 b3 b5 => by rw [e1, gsi_ne b5]; exact v3 j b1 b2 b3
          have ly : LF_ q u y1 := by rw [e1]; exact v1.si4 q48
          refine ⟨ly, by rw [e1, gsi_f (by decide)]; exact v2, ?_⟩
          rw [l_, if_neg nb, if_neg nc, if_pos ⟨by omega, by omega, eas, rfl, rfl⟩]
          have ba : Ba_ (kd :: base) true nots := by
            obtain ⟨R, ao, e, hR, ha⟩ := a1
            rcases hR with ⟨_, rfl⟩ | ⟨e', _⟩
            · exact ⟨[kd], ao, by rw [e]; rfl, Or.inr ⟨rfl, kd, by omega, by omega, rfl⟩, ha⟩
            · exact nomatch e'
          refine CL_.mk (by rw [LFgr_ ly]; exact g) (by rw [f4 4 (by decide) (by decide) (by decide) (by decide)]; exact c4) (by rw [f4 12 (by decide) (by decide) (by decide) (by decide)]; exact c12) (by rw [f4 8 (by decide) (by decide) (by decide) (by decide)]; exact c8) (by rw [e1, gsi_eq]) (by rw [f4 10 (by decide) (by decide) (by decide) (by decide)]; exact c10) (by rw [e1, gsi_ne (by decide)]; exact v4) (by rw [f4 7 (by decide) (by decide) (by decide) (by decide)]; exact c7) ba (W := kd :: base) (k := 0) (m := m') (t := 0) (Sh_base (Ba_mem ba)) (fun _ => rfl) (fun e => nomatch e) ?_ (by rw [e1, gsi_ne (by decide)]; exact v6) ?_ (by show 0 + 0 + nots ≤ 8; omega) (fun e => by dsimp only at e; rw [abf] at e; exact nomatch e)
          · rw [e1, gsi_f (by decide)]
            rw [d1, d3, d5.1] at v5
            exact v5
          · rw [e1, gsi_ne (by decide), v7, d2, d4, d5.2]
            congr 1
            show 0 + k + nots - (k + 0) = 0 + 0 + nots
            omega
        · have : rel = false := e.2.2.2.2
          subst this
          exact yrel (fun e => nomatch e)
    · rw [c7]
      refine pf_ifi (show nI kd = 15 ↔ kd = 15 from nI_eqi (b := 15) (by omega) (by omega)) (fun e15 => ?_) (fun n15 => hk3 (fun e => n15 e.1))
      refine pf_ifi (show nI (S.count true) ≤ 0 ↔ S.count true ≤ 0 from nI_lei (b := 0) (by omega) (by omega)) (fun hle => hk3 (fun e => e.2 (n0.mp (by omega)))) (fun hgt => ?_)
      have hne : S ≠ [] := fun e => hgt (by rw [n0.mpr e]; exact Nat.le_refl _)
      obtain ⟨S', rfl⟩ := nT hne
      unfold fX2_closeBracket
      obtain ⟨d1, d2⟩ := dw_rep (l := 1) (k := k) (W := W) (by decide)
      obtain ⟨W', t', d3, d4, d5⟩ := dw_close a2 ht
      rw [List.length_cons] at a7 a8
      refine pf_bnv (P := fun z => LF_ q u z ∧ gi z 3 = gi u 3 ∧ CL_ asks rel ab false (popN_ S') nots q z) ?_ (fun z hz => pf_some ?_)
      · refine pf_bnv (settle9_v (l := 1) hq g (by decide) a5 a6 m29 a7 (by omega) (by rw [d2, d5]; omega) hlt15) (fun v hv => ?_)
        obtain ⟨v1, v2, v3, m', v4, v5, v6⟩ := hv
        rw [d1, d3] at v4
        obtain ⟨m'', rfl, _, v4'⟩ := v4
        have hm'' := Wl_len v4'
        have hdl := dw_len 1 W
        rw [d3, List.length_cons] at hdl
        refine pf_jn (fun kk => pf_ (kk (gi v 4 2) true) (fun z => LF_ q u z ∧ gi z 3 = gi u 3 ∧ CL_ asks rel ab false (popN_ S') nots q z)) ?_ (fun k4 hk4 => ?_)
        · try dsimp only
          refine pf_bv (fun y1 e1 => pf_bv (fun y2 e2 => pf_bv (fun y3 e3 => pf_some ?_)))
          rw [v5, show nI (m'' + 1) - b2i true = nI m'' from nI_pr (b := m'' + 1) (by omega)] at e1
          have ly : LF_ q u y3 := by rw [e3, e2, e1]; exact ((v1.si4 q48).si4 q48).si4 q48
          have f4 : ∀ j, j ≠ 2 → j ≠ 6 → j ≠ 7 → gi y3 4 j = gi u 4 j := fun j b1 b2 b3 => by rw [e3, gsi_ne b2, e2, gsi_ne b3, e1, gsi_ne b1]; exact v3 j b1 b2
          obtain ⟨k1, W1, t1, w1, w2, w3, w4, w5⟩ := Sh_due d4
          refine ⟨ly, by rw [e3, gsi_f (by decide), e2, gsi_f (by decide), e1, gsi_f (by decide)]; exact v2, ?_⟩
          refine CL_.mk (by rw [LFgr_ ly]; exact g) (by rw [f4 4 (by decide) (by decide) (by decide)]; exact c4) (by rw [f4 12 (by decide) (by decide) (by decide)]; exact c12) (by rw [f4 8 (by decide) (by decide) (by decide)]; exact c8) (by rw [f4 11 (by decide) (by decide) (by decide)]; exact c11) (by rw [f4 10 (by decide) (by decide) (by decide)]; exact c10) (by rw [f4 9 (by decide) (by decide) (by decide)]; exact c9) ?_ a1 (W := W1) (k := k1) (m := m'') (t := t1) w2 (fun e => nomatch e) (fun _ => w3) ?_ (by rw [e3, gsi_ne (by decide), e2, gsi_ne (by decide), e1, gsi_eq]) ?_ (by omega) (fun e => by rw [abf] at e; exact nomatch e)
          · rw [e3, gsi_ne (by decide), e2, gsi_eq, e1, gsi_ne (by decide), v3 7 (by decide) (by decide), c7, List.count_cons_self, ← w5]
            exact nI_pr (by omega)
          · rw [e3, gsi_f (by decide), e2, gsi_f (by decide), e1, gsi_f (by decide), ← w1]; exact v4'
          · rw [e3, gsi_eq, e2, gsi_ne (by decide), e1, gsi_ne (by decide), v6, d2, d5, show nI (S'.length + 1 + k + nots - (k + 0)) - 1 = nI (S'.length + 1 + k + nots - (k + 0) - 1) from nI_pr (by omega)]
            congr 1
            omega
        · rw [v5]
          rw [v5] at hk4
          refine pf_ifi (show nI (m'' + 1) ≤ 0 ↔ m'' + 1 ≤ 0 from nI_lei (b := 0) (by omega) (by omega)) (fun e => by omega) (fun _ => hk4)
      · rw [← hQ]
        refine ⟨hz.1, hz.2.1, ?_⟩
        rw [l_, if_neg nb, if_pos ⟨e15, hne⟩]
        exact hz.2.2
  · refine pf_ifi (show nI kd < 10 ↔ kd < 10 from nI_lti (b := 10) (by omega) (by omega)) (fun hl => hk2 (by omega)) (fun hl => ?_)
    refine pf_ifi (show 13 < nI kd ↔ 13 < kd from nI_lti (a := 13) (by omega) (by omega)) (fun hg => hk2 (by omega)) (fun hg => ?_)
    have hb : bd_ kd = 5 ∨ bd_ kd = 6 := by
      have : ∀ c, c < 14 → 10 ≤ c → bd_ c = 5 ∨ bd_ c = 6 := by decide
      exact this kd (by omega) (by omega)
    obtain ⟨d1, d2⟩ := dw_rep (l := bd_ kd) (k := k) (W := W) (by omega)
    have dd : ∃ t', (t' = 2 ∨ t' = 3) ∧ Sh_ base (kd :: dw_ (bd_ kd) W) S t' ∧ nn_ (bd_ kd) W = 0 := by
      rcases hb with e | e
      · have hk10 : kd = 10 ∨ kd = 11 := by
          have : ∀ c, c < 14 → 10 ≤ c → bd_ c = 5 → c = 10 ∨ c = 11 := by decide
          exact this kd (by omega) (by omega) e
        obtain ⟨i1, i2⟩ := dw_5 a2 ht
        rw [e]
        exact ⟨2, Or.inl rfl, Or.inr (Or.inr (Or.inl ⟨hk10, rfl, i1⟩)), i2⟩
      · have hk12 : kd = 12 ∨ kd = 13 := by
          have : ∀ c, c < 14 → 10 ≤ c → bd_ c = 6 → c = 12 ∨ c = 13 := by decide
          exact this kd (by omega) (by omega) e
        obtain ⟨⟨t', i0, i1⟩, i2⟩ := dw_6 a2 ht
        rw [e]
        exact ⟨3, Or.inr rfl, Or.inr (Or.inr (Or.inr (Or.inl ⟨hk12, rfl, t', i0, i1⟩))), i2⟩
    obtain ⟨t', ht', sh', nn0⟩ := dd
    have hr2 := Sh_room sh'
    rw [List.length_cons] at hr2
    refine pf_bnv (joinBy_v hq g (by omega) a5 a6 m29 a7 (by omega) (by rw [d2, nn0]; omega) hlt15 (by
      rw [d1]
      have : (dw_ (bd_ kd) W).length + 1 ≤ base.length + S.length + 2 * (S.count true + 1) := by omega
      omega)) (fun v hv => pf_some ?_)
    obtain ⟨v1, v2, v3, v4, m', v5, v6, v7⟩ := hv
    rw [← hQ]
    refine ⟨v1, v2, ?_⟩
    rw [l_, if_pos ⟨by omega, by omega⟩]
    rw [d1] at v5
    refine CL_.mk (by rw [LFgr_ v1]; exact g) (by rw [v3 4 (by decide) (by decide) (by decide)]; exact c4) (by rw [v3 12 (by decide) (by decide) (by decide)]; exact c12) (by rw [v3 8 (by decide) (by decide) (by decide)]; exact c8) (by rw [v3 11 (by decide) (by decide) (by decide)]; exact c11) (by rw [v3 10 (by decide) (by decide) (by decide)]; exact c10) v4 (by rw [v3 7 (by decide) (by decide) (by decide)]; exact c7) a1 (W := kd :: dw_ (bd_ kd) W) (k := 0) (m := m') (t := t') sh' (fun _ => rfl) (fun e => nomatch e) v5 v6 ?_ (by dsimp only; omega) (fun e => by dsimp only at e; rw [abf] at e; exact nomatch e)
    rw [v7, d2, nn0]
    congr 1
    dsimp only
    omega
