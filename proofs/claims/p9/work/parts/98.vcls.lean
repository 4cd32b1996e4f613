/-- the class's state, while a law is read -/
def CL_ (asks rel ab due : Bool) (S : List Bool) (nots q : Nat) (u : Sg) : Prop := gr u 4 3 = q ∧ gi u 4 4 = 0 ∧ gi u 4 12 = 0 ∧ gi u 4 8 = b2i asks ∧ gi u 4 11 = b2i rel ∧ gi u 4 10 = b2i ab ∧ gi u 4 9 = b2i due ∧ gi u 4 7 = nI (S.count true) ∧ ∃ base W k m t, Ba_ base rel nots ∧ Sh_ base W S t ∧ (due = true → k = 0) ∧ (due = false → t ≠ 1) ∧ Wl_ (gi u 18) (List.replicate k 14 ++ W) m ∧ gi u 4 2 = nI m ∧ gi u 4 6 = nI (S.length + k + nots) ∧ S.length + k + nots ≤ 8 ∧ (ab = true → W = base ∧ S = [] ∧ rel = false ∧ due = true)
theorem Sh_lt {base : List Nat} (hb : ∀ x, x ∈ base → 1 ≤ x ∧ x ≤ 9) : ∀ {W : List Nat} {S : List Bool} {t : Nat}, Sh_ base W S t → ∀ x, x ∈ W → x < 15 := by
  intro W
  induction W with
  | nil => intro S t _ x hx; exact absurd hx (by simp)
  | cons y W ih =>
    intro S t h x hx
    have tail : ∀ {S' t'}, Sh_ base W S' t' → y < 15 → x < 15 := fun h' hy => by
      rcases List.mem_cons.mp hx with e | e
      · rw [e]; exact hy
      · exact ih h' x e
    rcases h with ⟨e, _, S', t', _, h'⟩ | ⟨e, _, S', t', _, h'⟩ | ⟨e, _, h'⟩ | ⟨e, _, t', _, h'⟩ | ⟨_, e, _⟩
    · exact tail h' (by omega)
    · exact tail h' (by omega)
    · exact tail h' (by omega)
    · exact tail h' (by omega)
    · rw [e] at hx
      have := hb x hx
      omega
/-- what waits, all of it, fits -/
theorem W_room {base W : List Nat} {S : List Bool} {rel : Bool} {nots k m t : Nat} {f : Nat → Int32} (hB : Ba_ base rel nots) (hS : Sh_ base W S t) (ht : t ≠ 1 ∨ k = 0) (hW : Wl_ f (List.replicate k 14 ++ W) m) (h8 : S.length + k + nots ≤ 8) : m ≤ 29 ∧ ∀ x, x ∈ List.replicate k 14 ++ W → x < 15 := by
  have e := Wl_len hW
  rw [List.length_append, List.length_replicate] at e
  have h1 := Sh_room hS
  have h2 := Ba_len hB
  have h3 := cnt_le S
  refine ⟨?_, fun x hx => ?_⟩
  · by_cases h0 : t = 0
    · rw [if_pos h0] at h1; omega
    · by_cases hk : k = 0
      · rw [if_neg h0] at h1
        split at h1 <;> omega
      · rw [if_neg h0] at h1
        split at h1 <;> omega
  · rcases List.mem_append.mp hx with hx | hx
    · rw [(List.mem_replicate.mp hx).2]; decide
    · exact Sh_lt (Ba_mem hB) hS x hx
/-- fields of the reader that a step keeps -/
theorem CL_.mk {asks rel ab due : Bool} {S : List Bool} {nots q : Nat} {u : Sg} (h1 : gr u 4 3 = q) (h2 : gi u 4 4 = 0) (h3 : gi u 4 12 = 0) (h4 : gi u 4 8 = b2i asks) (h5 : gi u 4 11 = b2i rel) (h6 : gi u 4 10 = b2i ab) (h7 : gi u 4 9 = b2i due) (h8 : gi u 4 7 = nI (S.count true)) {base W : List Nat} {k m t : Nat} (a1 : Ba_ base rel nots) (a2 : Sh_ base W S t) (a3 : due = true → k = 0) (a4 : due = false → t ≠ 1) (a5 : Wl_ (gi u 18) (List.replicate k 14 ++ W) m) (a6 : gi u 4 2 = nI m) (a7 : gi u 4 6 = nI (S.length + k + nots)) (a8 : S.length + k + nots ≤ 8) (a9 : ab = true → W = base ∧ S = [] ∧ rel = false ∧ due = true) : CL_ asks rel ab due S nots q u := ⟨h1, h2, h3, h4, h5, h6, h7, h8, base, W, k, m, t, a1, a2, a3, a4, a5, a6, a7, a8, a9⟩
theorem count_cons_b (b : Bool) (S : List Bool) : (b :: S).count true = S.count true + (if b = true then 1 else 0) := by
  cases b with
  | true => rw [List.count_cons_self]; rfl
  | false => rw [List.count_cons_of_ne (by decide)]; rfl
/-- an opener: ( - or not -/
theorem open9_v {asks rel ab : Bool} {S : List Bool} {nots q x st : Nat} {u : Sg} (hq : isScr q = true) (h : CL_ asks rel ab true S nots q u) (h33 : gi u 3 3 = nI st) (hx : x = 0 ∨ x = 14 ∨ (x = 3 ∧ ab = true)) : pf_ (fX2_openOne (nI x) u) (fun v => LF_ q u v ∧ gi v 3 = gi u 3 ∧ (S.length + nots = 8 → gi v 4 4 = nI 3 ∧ gi v 4 5 = nI st) ∧ (S.length + nots ≠ 8 → (x ≠ 3 → CL_ asks rel false true (decide (x = 0) :: S) nots q v) ∧ (x = 3 → CL_ asks rel true true S (nots + 1) q v))) := by
  have q48 : 48 ≤ q := by rcases scr_cases hq with h | h | h | h <;> omega
  obtain ⟨g, c4, c12, c8, c11, c10, c9, c7, base, W, k, m, t, a1, a2, a3, a4, a5, a6, a7, a8, a9⟩ := h
  have hk := a3 rfl
  subst hk
  obtain ⟨m29, _⟩ := W_room a1 a2 (Or.inr rfl) a5 a8
  have hWl := Wl_len a5
  rw [List.length_append, List.length_replicate, Nat.zero_add] at hWl
  have a5' : Wl_ (gi u 18) W m := a5
  generalize hQ : (fun v : Sg => LF_ q u v ∧ gi v 3 = gi u 3 ∧ (S.length + nots = 8 → gi v 4 4 = nI 3 ∧ gi v 4 5 = nI st) ∧ (S.length + nots ≠ 8 → (x ≠ 3 → CL_ asks rel false true (decide (x = 0) :: S) nots q v) ∧ (x = 3 → CL_ asks rel true true S (nots + 1) q v))) = Q
  unfold fX2_openOne
  rw [a7]
  refine pf_ifi (show nI (S.length + 0 + nots) < 8 ↔ S.length + nots < 8 from nI_lti (b := 8) (by omega) (by omega)) (fun hlt => ?_) (fun hge => ?_)
  · have room : m < 29 := by
      have h1 := Sh_room a2
      have h2 := Ba_len a1
      have h3 := cnt_le S
      by_cases h0 : t = 0
      · rw [if_pos h0] at h1; omega
      · rw [if_neg h0] at h1
        split at h1 <;> omega
    refine pf_bv (fun s1 e1 => ?_)
    rw [nI_1] at e1
    refine pf_jn (fun kk => ∀ b : Bool, (b = true ↔ x = 0) → pf_ (kk (gi s1 4 7) b) Q) ?_ (fun k4 hk4 => pf_ifi (show nI x = 0 ↔ x = 0 from nI_eqi (b := 0) (by omega) (by omega)) (fun e => hk4 true ⟨fun _ => e, fun _ => rfl⟩) (fun e => hk4 false ⟨fun e' => (nomatch e'), fun e' => absurd e' e⟩))
    intro b hb
    try dsimp only
    refine pf_bv (fun s5 e5 => ?_)
    have s17 : gi s1 4 7 = nI (S.count true) := by rw [e1, gsi_ne (by decide)]; exact c7
    have e5' : gi s1 4 7 + b2i b = nI ((S.count true) + (if x = 0 then 1 else 0)) := by
      rw [s17]
      cases b with
      | true => rw [if_pos (hb.mp rfl)]; exact nI_1 _
      | false => rw [if_neg (fun e => nomatch hb.mpr e)]; show _ + 0 = _; rw [Int32.add_zero]; rfl
    rw [e5'] at e5
    refine pf_jn (fun kk => ∀ b2 : Bool, (b2 = true ↔ x = 3) → pf_ (kk b2) Q) ?_ (fun k7 hk7 => pf_ifi (show nI x = 3 ↔ x = 3 from nI_eqi (b := 3) (by omega) (by omega)) (fun e => hk7 true ⟨fun _ => e, fun _ => rfl⟩) (fun e => hk7 false ⟨fun e' => (nomatch e'), fun e' => absurd e' e⟩))
    intro b2 hb2
    try dsimp only
    refine pf_bv (fun s8 e8 => ?_)
    have s82 : gi s8 4 2 = nI m := by rw [e8, gsi_ne (by decide), e5, gsi_ne (by decide), e1, gsi_ne (by decide)]; exact a6
    refine pf_bnv (P := fun z => z = si (si s8 18 m (nI x)) 4 2 (nI (m + 1))) (fun o ho => by rw [keepW_e s82 room] at ho; injection ho with ho; exact ho.symm) (fun z ez => pf_some ?_)
    have f4 : ∀ j, j ≠ 2 → j ≠ 6 → j ≠ 7 → j ≠ 10 → gi z 4 j = gi u 4 j := fun j b1 b2 b3 b4 => by rw [ez, gsi_ne b1, gsi_k (by decide), e8, gsi_ne b4, e5, gsi_ne b3, e1, gsi_ne b2]
    have z10 : gi z 4 10 = b2i b2 := by rw [ez, gsi_ne (by decide), gsi_k (by decide), e8, gsi_eq]
    have z7 : gi z 4 7 = nI (S.count true + (if x = 0 then 1 else 0)) := by rw [ez, gsi_ne (by decide), gsi_k (by decide), e8, gsi_ne (by decide), e5, gsi_eq]
    have z6 : gi z 4 6 = nI (S.length + 0 + nots + 1) := by rw [ez, gsi_ne (by decide), gsi_k (by decide), e8, gsi_ne (by decide), e5, gsi_ne (by decide), e1, gsi_eq]
    have z2 : gi z 4 2 = nI (m + 1) := by rw [ez, gsi_eq]
    have z18 : Wl_ (gi z 18) (x :: W) (m + 1) := by
      refine ⟨m, rfl, by rw [ez, gsi_k (by decide), gsi_eq], Wl_fr a5' (fun i hi => ?_)⟩
      rw [ez, gsi_k (by decide), gsi_ne (by omega), e8, gsi_k (by decide), e5, gsi_k (by decide), e1, gsi_k (by decide)]
    have lz : LF_ q u z := by rw [ez, e8, e5, e1]; exact ((((LF_.rf.si4 q48).si4 q48).si4 q48).si18 q48).si4 q48
    have z3 : gi z 3 = gi u 3 := by rw [ez, gsi_f (by decide), gsi_f (by decide), e8, gsi_f (by decide), e5, gsi_f (by decide), e1, gsi_f (by decide)]
    have zg : gr z 4 3 = q := by rw [LFgr_ lz]; exact g
    clear ez e8 e5 e1
    rw [← hQ]
    refine ⟨lz, z3, fun e => by omega, fun _ => ⟨fun n3 => ?_, fun e3 => ?_⟩⟩
    · have hb2' : b2 = false := by
        cases b2 with
        | false => rfl
        | true => exact absurd (hb2.mp rfl) n3
      refine CL_.mk zg (by rw [f4 4 (by decide) (by decide) (by decide) (by decide)]; exact c4) (by rw [f4 12 (by decide) (by decide) (by decide) (by decide)]; exact c12) (by rw [f4 8 (by decide) (by decide) (by decide) (by decide)]; exact c8) (by rw [f4 11 (by decide) (by decide) (by decide) (by decide)]; exact c11) (by rw [z10, hb2']) (by rw [f4 9 (by decide) (by decide) (by decide) (by decide)]; exact c9) ?_ a1 (W := x :: W) (k := 0) (m := m + 1) (t := if x = 0 then 0 else 1) ?_ (fun _ => rfl) (fun e => nomatch e) z18 z2 ?_ ?_ ?_
      · rw [z7, count_cons_b]
        by_cases e : x = 0
        · simp [e]
        · simp [e]
      · rcases hx with rfl | rfl | ⟨e, _⟩
        · exact Or.inl ⟨rfl, rfl, S, t, rfl, a2⟩
        · exact Or.inr (Or.inl ⟨rfl, rfl, S, t, rfl, a2⟩)
        · exact absurd e n3
      · rw [z6, List.length_cons]; congr 1; omega
      · rw [List.length_cons]; omega
      · exact fun e => nomatch e
    · have hb2' : b2 = true := hb2.mpr e3
      subst e3
      have hab : ab = true := by
        rcases hx with e | e | ⟨_, e⟩
        · omega
        · omega
        · exact e
      obtain ⟨rfl, rfl, rfl, _⟩ := a9 hab
      have a1' : Ba_ (3 :: W) false (nots + 1) := by
        obtain ⟨R, ao, e, hR, ha⟩ := a1
        rcases hR with ⟨_, rfl⟩ | ⟨e', _⟩
        · exact ⟨[], ao, by rw [e]; rfl, Or.inl ⟨rfl, rfl⟩, ha⟩
        · exact nomatch e'
      refine CL_.mk zg (by rw [f4 4 (by decide) (by decide) (by decide) (by decide)]; exact c4) (by rw [f4 12 (by decide) (by decide) (by decide) (by decide)]; exact c12) (by rw [f4 8 (by decide) (by decide) (by decide) (by decide)]; exact c8) (by rw [f4 11 (by decide) (by decide) (by decide) (by decide)]; exact c11) (by rw [z10, hb2']) (by rw [f4 9 (by decide) (by decide) (by decide) (by decide)]; exact c9) ?_ a1' (W := 3 :: W) (k := 0) (m := m + 1) (t := 0) (Sh_base (Ba_mem a1')) (fun _ => rfl) (fun e => nomatch e) z18 z2 ?_ ?_ (fun _ => ⟨rfl, rfl, rfl, rfl⟩)
      · rw [z7]; rfl
      · rw [z6]; congr 1
      · have : ([] : List Bool).length = 0 := rfl
        omega
  · have e8 : S.length + nots = 8 := by omega
    refine pf_bnv (P := fun z => z = si (si u 4 4 3) 4 5 (gi u 3 3)) (fun o ho => by rw [fail_e c4] at ho; injection ho with ho; exact ho.symm) (fun z ez => pf_some ?_)
    rw [← hQ]
    refine ⟨by rw [ez]; exact (LF_.rf.si4 q48).si4 q48, by rw [ez, gsi_f (by decide), gsi_f (by decide)], fun _ => ⟨by rw [ez, gsi_ne (by decide), gsi_eq]; rfl, by rw [ez, gsi_eq, h33]⟩, fun e => absurd e8 e⟩
