/-! feed, end, text, fault, by, image, back on both sides -/
theorem sy_3 (a1 a2 a3 a4 a5 : Int32) {σ : Sg} (h : U_ σ) : Sy_ (fX9_feed a1 a2 a3 a4 a5 σ) (fun s => fX10_feed a1 a2 a3 a4 a5 s) := by
  obtain ⟨hM, ⟨B, n, b1, b2⟩, c1, c2, c3, c4⟩ := id h
  refine ⟨_, pf_wp (h9_g (tX9_feed a1 a2 a3 a4 a5 σ hM.1)) (feed9_v b1), fun r s hs => ?_⟩
  obtain ⟨g, w1, w2⟩ := hs
  dsimp only at g w1 w2
  have ms : M_ s := hM.c g
  have bs : TPm_ B n s := b2.of (by rw [g.2 27 (by decide) (by decide)]) (fun k => by rw [g.2 31 (by decide) (by decide)])
  refine wp_mono (pf_wp (c10_3 a1 a2 a3 a4 a5 ms) (feed10_v bs)) (fun q hq => ?_)
  obtain ⟨mq, v1, v2⟩ := hq
  by_cases hn : 280 < n
  · have e1 := w1 hn
    have e2 := v1 hn
    injection e1 with er es
    rw [e2, er, es]
    exact ⟨rfl, h⟩
  · obtain ⟨x1, x2, x3⟩ := w2 (by omega)
    obtain ⟨y1, y2, y3, y4⟩ := v2 (by omega)
    refine ⟨by rw [x1, y1], mq, ⟨_, _, x2.of (by rw [y3 3 (by decide) (by decide)]) (fun k => by rw [y3 17 (by decide) (by decide)]), y2⟩, ?_, ?_, ?_, ?_⟩
    · rw [y3 1 (by decide) (by decide), x3 1 (by decide) (by decide), y3 28 (by decide) (by decide), g.2 28 (by decide) (by decide)]; exact c1
    · rw [y3 2 (by decide) (by decide), x3 2 (by decide) (by decide), y3 29 (by decide) (by decide), g.2 29 (by decide) (by decide)]; exact c2
    · rw [y3 4 (by decide) (by decide), x3 4 (by decide) (by decide), y4 5 (by decide), g.2 27 (by decide) (by decide)]; exact c3
    · rw [y3 4 (by decide) (by decide), x3 4 (by decide) (by decide), y4 6 (by decide), g.2 27 (by decide) (by decide)]; exact c4
def cut_ (B : Nat → Int) (m : Nat) : Nat → Int := fun k => if k < m then B k else -1
theorem end9_v (a : Int32) (s : Sg) : pf_ (fX9_end a s) (fun q => (inR a 0 (gi s 3 1) = false → q = (-1, s)) ∧ (inR a 0 (gi s 3 1) = true → q = (a, si s 3 1 a))) := by
  unfold fX9_end
  rw [within_eq]
  cases e : inR a 0 (gi s 3 1) with
  | false => exact pf_some ⟨fun _ => rfl, fun e => nomatch e⟩
  | true => exact pf_some ⟨fun e => (nomatch e), fun _ => rfl⟩
theorem end10_v (a : Int32) (s : Sg) : pf_ (fX10_end a s) (fun q => (inR a 0 (gi s 27 4) = false → q = (-1, s)) ∧ (inR a 0 (gi s 27 4) = true → q = (a, si s 27 4 a))) := by
  unfold fX10_end
  rw [isIn_eq]
  cases e : inR a 0 (gi s 27 4) with
  | false => exact pf_some ⟨fun _ => rfl, fun e => nomatch e⟩
  | true => exact pf_some ⟨fun e => (nomatch e), fun _ => rfl⟩
theorem sy_4 (a : Int32) {σ : Sg} (h : U_ σ) : Sy_ (fX9_end a σ) (fun s => fX10_end a s) := by
  obtain ⟨hM, ⟨B, n, b1, b2⟩, c1, c2, c3, c4⟩ := id h
  have hn := b1.2.1
  refine ⟨_, pf_wp (h9_g (tX9_end a σ hM.1)) (end9_v a σ), fun r s hs => ?_⟩
  obtain ⟨g, w1, w2⟩ := hs
  dsimp only at g w1 w2
  have ms : M_ s := hM.c g
  refine wp_mono (pf_wp (c10_4 a ms) (end10_v a s)) (fun q hq => ?_)
  obtain ⟨mq, v1, v2⟩ := hq
  rw [g.2 27 (by decide) (by decide), b2.1] at v1 v2
  rw [b1.1] at w1 w2
  cases e : inR a 0 (nI n) with
  | false =>
    have e1 := w1 e
    have e2 := v1 e
    injection e1 with er es
    rw [e2, er, es]
    exact ⟨rfl, h⟩
  | true =>
    have e1 := w2 e
    have e2 := v2 e
    injection e1 with er es
    rw [e2] at mq ⊢
    refine ⟨er.symm, mq, ?_⟩
    show TR_ (si s 27 4 a)
    obtain ⟨i1, i2⟩ := inR_iff.mp e
    rw [nI_toInt (show n < 2 ^ 31 by omega)] at i2
    have i1 : 0 ≤ a.toInt := i1
    have ea : a = nI a.toInt.toNat := ti_nI (by omega) (by omega)
    have hm : a.toInt.toNat ≤ n := by omega
    generalize a.toInt.toNat = m at ea hm
    subst ea
    rw [es]
    refine ⟨⟨cut_ B m, m, ⟨?_, by omega, fun k hk => ?_, fun k hk => ?_⟩, ⟨?_, by omega, fun k hk => ?_, fun k hk => ?_⟩⟩, ?_, ?_, ?_, ?_⟩
    · rw [gsi_k (by decide), gsi_eq]
    · unfold cut_
      rw [if_pos hk, gsi_k (by decide), gsi_k (by decide)]
      exact b1.2.2.1 k (by omega)
    · unfold cut_
      rw [if_neg (by omega)]
    · rw [gsi_eq]
    · unfold cut_
      rw [if_pos hk, gsi_k (by decide), gsi_k (by decide)]
      exact b2.2.2.1 k (by omega)
    · unfold cut_
      rw [if_neg (by omega)]
    · rw [gsi_k (by decide), gsi_k (by decide), gsi_k (by decide), gsi_k (by decide)]; exact c1
    · rw [gsi_k (by decide), gsi_k (by decide), gsi_k (by decide), gsi_k (by decide)]; exact c2
    · rw [gsi_k (by decide), gsi_k (by decide), gsi_ne (by decide), gsi_k (by decide)]; exact c3
    · rw [gsi_k (by decide), gsi_k (by decide), gsi_ne (by decide), gsi_k (by decide)]; exact c4
theorem sy_5 {σ : Sg} (h : U_ σ) : Sy_ (fX9_text σ) (fun s => fX10_text s) := by
  obtain ⟨hM, ⟨B, n, b1, b2⟩, c1, c2, c3, c4⟩ := id h
  have k7 : 0 ≤ (gi σ 28 7).toInt ∧ (gi σ 28 7).toInt ≤ 4 := (hM.2.1 28 7).2.1 rfl
  refine ⟨_, pf_wp (pf_wp (tX9_text σ hM.1) (text9_v hM.1 b1)) (ya_fX9_text σ), fun r s hs => ?_⟩
  obtain ⟨⟨g, w1, w2⟩, fa⟩ := hs
  dsimp only at g w1 w2 fa
  have ms : M_ s := hM.c g
  have bs : TPm_ B n s := b2.of (by rw [g.2 27 (by decide) (by decide)]) (fun k => by rw [g.2 31 (by decide) (by decide)])
  refine wp_mono (pf_wp (pf_wp (wp_and (c10_5 ms) (text_ok ms.2.1 ms.2.2)) (text10_v ms.2.1 bs)) (ym_fX10_text s)) (fun q hq => ?_)
  obtain ⟨⟨⟨mq, xq⟩, v1, v2⟩, fm⟩ := hq
  rw [g.2 28 (by decide) (by decide)] at v1 v2
  by_cases h4 : gi σ 28 7 = 4
  · have e1 := w1 (by rw [c1, h4]; decide +kernel)
    have e2 := v1 h4
    injection e1 with er es
    rw [e2, er, es]
    exact ⟨rfl, h⟩
  · have l4 : gi σ 1 11 < 4 := by
      rw [c1, Int32.lt_iff_toInt_lt]
      have := ne_ti h4
      have L4 : (4 : Int32).toInt = 4 := rfl
      omega
    obtain ⟨x, ⟨rx, r0, r1, r10⟩, d1, d2, d3, d4⟩ := w2 l4
    obtain ⟨y, ry, e5, y0, y1, e4⟩ := v2 h4
    obtain ⟨f, hf⟩ := rx
    obtain ⟨f', hf'⟩ := ry
    have exy : x = y := RunT_det f f' _ _ _ _ hf hf'
    subst exy
    have q29 : gi q.2 29 7 = gi σ 29 7 := by rw [fm 29 7 rfl, g.2 29 (by decide) (by decide)]
    have qc : ∀ k, k < 27 → gi q.2 k = gi s k := fun k hk => xq.2.1 k (Or.inl hk)
    have s2 : gi s 2 11 = gi σ 2 11 := fa 2 11 rfl
    have tc : ∃ B n, TPc_ B n q.2 ∧ TPm_ B n q.2 := ⟨fun _ => -1, 0, ⟨by rw [qc 3 (by decide), d1]; rfl, by decide, fun k hk => absurd hk (by omega), fun _ _ => rfl⟩, ⟨by rw [e4]; rfl, by decide, fun k hk => absurd hk (by omega), fun _ _ => rfl⟩⟩
    by_cases x0 : x.1 = 0
    · obtain ⟨p1, p2⟩ := r0 x0
      obtain ⟨p3, p4⟩ := d2 x0
      obtain ⟨z1, z2, z3⟩ := y0 x0
      refine ⟨by rw [z3, p4, z2, p3, c1], mq, tc, ?_, ?_, ?_, ?_⟩
      · rw [qc 1 (by decide), p3, z2, c1]
      · rw [qc 2 (by decide), s2, q29]; exact c2
      · rw [qc 4 (by decide), p1, e5, x0]; rfl
      · rw [qc 4 (by decide), p2, z1]
    · obtain ⟨p1, p2⟩ := r1 x0
      obtain ⟨p3, p4⟩ := d3 x0
      obtain ⟨z1, z2, z3⟩ := y1 x0
      refine ⟨by rw [z3, p4], mq, tc, ?_, ?_, ?_, ?_⟩
      · rw [qc 1 (by decide), p3, z2, c1]
      · rw [qc 2 (by decide), s2, q29]; exact c2
      · rw [qc 4 (by decide), p1, e5]
      · rw [qc 4 (by decide), p2, z1]
theorem sy_6 (a : Int32) {σ : Sg} (h : U_ σ) : Sy_ (fX9_fault a σ) (fun s => fX10_fault a s) := by
  obtain ⟨hM, _, c1, c2, c3, c4⟩ := id h
  refine ⟨fun q => q.2 = σ ∧ q.1 = (if a = 0 then gi σ 4 4 else if a = 1 then gi σ 4 5 else -1), ?_, fun r s hs => ?_⟩
  · unfold fX9_fault
    refine wp_if_i (fun e => wp_some_i ⟨rfl, by rw [if_pos e]⟩) (fun e => wp_if_i (fun e1 => wp_some_i ⟨rfl, by rw [if_neg e, if_pos e1]⟩) (fun e1 => wp_some_i ⟨rfl, by rw [if_neg e, if_neg e1]⟩))
  · obtain ⟨es, er⟩ := hs
    dsimp only at es er
    rw [es, er]
    unfold fX10_fault
    refine wp_if_i (fun e => wp_some_i ⟨by rw [if_pos e]; exact c3.symm, h⟩) (fun e => wp_if_i (fun e1 => wp_some_i ⟨by rw [if_neg e, if_pos e1]; exact c4.symm, h⟩) (fun e1 => wp_some_i ⟨by rw [if_neg e, if_neg e1], h⟩))
def byr_ (a x : Int32) : Bool := if a = -1 then true else inR a 0 (x - 1)
theorem byr_e {a x : Int32} (hx : 0 ≤ x.toInt ∧ x.toInt ≤ 4) : inR a (-1) (x - 1) = byr_ a x := by
  have L1 : (1 : Int32).toInt = 1 := rfl
  have L0 : (0 : Int32).toInt = 0 := rfl
  have Lm : (-1 : Int32).toInt = -1 := rfl
  have es := ti_sub (x := x) (y := 1) (by omega) (by omega)
  have key : ∀ b : Bool, (b = true ↔ (-1 : Int) ≤ a.toInt ∧ a.toInt ≤ (x - 1).toInt) → inR a (-1) (x - 1) = b := by
    intro b hb
    have := inR_iff (a := a) (lo := -1) (hi := x - 1)
    rw [Lm] at this
    cases e : inR a (-1) (x - 1) with
    | true => exact (hb.mpr (this.mp e)).symm
    | false =>
      cases b with
      | false => rfl
      | true => rw [this.mpr (hb.mp rfl)] at e; exact nomatch e
  apply key
  unfold byr_
  by_cases e : a = -1
  · rw [if_pos e]
    refine ⟨fun _ => ?_, fun _ => rfl⟩
    rw [e, Lm]
    omega
  · rw [if_neg e, inR_iff, L0]
    have := ne_ti e
    rw [Lm] at this
    omega
theorem by9_v (a : Int32) (s : Sg) : pf_ (fX9_by a s) (fun q => q.1 = byr_ a (gi s 1 11)) := by
  generalize hQ : (fun q : Bool × Sg => q.1 = byr_ a (gi s 1 11)) = Q
  unfold fX9_by
  refine pf_jn (fun kk => byr_ a (gi s 1 11) = true → ∀ z, pf_ (kk z) Q) ?_ (fun k2 hk2 => ?_)
  · intro hb z
    try dsimp only
    refine pf_bv (fun s3 _ => pf_jn (fun kk => ∀ y, pf_ (kk y) Q) ?_ (fun k5 hk5 => ?_))
    · intro y
      try dsimp only
      exact pf_bv (fun s6 _ => pf_some (by rw [← hQ]; exact hb.symm))
    · exact pf_if (hk5 _) (pf_chk (fun _ => pf_bv (fun q8 _ => pf_chk (fun _ => hk5 _))))
  · refine pf_ifc (fun e => hk2 (by unfold byr_; rw [if_pos e]) _) (fun e => ?_)
    have et : fX9_isText a s = some (inR a 0 (gi s 1 11 - 1), s) := by
      unfold fX9_isText
      rw [within_eq]
      rfl
    have eb : byr_ a (gi s 1 11) = inR a 0 (gi s 1 11 - 1) := by unfold byr_; rw [if_neg e]
    refine pf_bnde et ?_
    cases er : inR a 0 (gi s 1 11 - 1) with
    | false => exact pf_some (by rw [← hQ]; show false = _; rw [eb, er])
    | true => exact hk2 (by rw [eb, er]) _
theorem by10_v (a : Int32) (s : Sg) : pf_ (fX10_by a s) (fun q => q.1 = inR a (-1) (gi s 28 7 - 1)) := by
  unfold fX10_by
  rw [isIn_eq, ixl_7, ixl_8]
  cases e : inR a (-1) (gi s 28 7 - 1) with
  | false => exact pf_some rfl
  | true => exact pf_bv (fun s3 _ => pf_some rfl)
theorem sy_7 (a : Int32) {σ : Sg} (h : U_ σ) : Sy_ (fX9_by a σ) (fun s => fX10_by a s) := by
  have k7 : 0 ≤ (gi σ 28 7).toInt ∧ (gi σ 28 7).toInt ≤ 4 := (h.1.2.1 28 7).2.1 rfl
  refine ⟨_, pf_wp (wp_and (u9_7 a h) (tX9_by a σ h.1.1)) (by9_v a σ), fun r s hs => ?_⟩
  obtain ⟨⟨us, g⟩, er⟩ := hs
  dsimp only at us g er
  refine wp_mono (pf_wp (u10_7 a us) (by10_v a s)) (fun q hq => ⟨?_, hq.1⟩)
  rw [hq.2, g.2 28 (by decide) (by decide), er, h.2.2.1]
  exact byr_e k7
set_option maxRecDepth 100000 in
theorem u9_24 {σ : Sg} (h : U_ σ) : wp_ (fX9_image σ) (fun q => H9_ σ q.2 ∧ (gi q.2 2 11 = gi σ 1 11 ∧ gi q.2 1 11 = gi σ 1 11) ∧ FW_ σ q.2) := wp_mono (pf_wp (pf_wp (tX9_image σ h.1.1) (image9_w σ)) (yw_fX9_image σ)) (fun _ g => ⟨g.1.1, g.1.2, g.2⟩)
set_option maxRecDepth 100000 in
theorem u10_24 {σ : Sg} (h : U_ σ) {s : Sg} (hs : H9_ σ s ∧ (gi s 2 11 = gi σ 1 11 ∧ gi s 1 11 = gi σ 1 11) ∧ FW_ σ s) : wp_ (fX10_image s) (fun q => U_ q.2) := by
  obtain ⟨hM, ⟨B, n, b1, b2⟩, c1, c2, c3, c4⟩ := id h
  obtain ⟨g, ⟨x2, x1⟩, fw⟩ := hs
  refine wp_mono (pf_wp (wp_and (c10_24 (hM.c g)) (image10_v s)) (yt_fX10_image s)) (fun q hq => ?_)
  obtain ⟨⟨mq, _, d2, d3, d4⟩, ft⟩ := hq
  refine ⟨mq, ⟨B, n, b1.of (by rw [d3 3 (by decide)]; exact fw 3 1 rfl) (fun k => by rw [d3 17 (by decide)]; exact fw 17 k rfl), b2.of (by rw [ft 27 4 rfl, g.2 27 (by decide) (by decide)]) (fun k => by rw [ft 31 k rfl, g.2 31 (by decide) (by decide)])⟩, ?_, ?_, ?_, ?_⟩
  · rw [d3 1 (by decide), x1, d2, g.2 28 (by decide) (by decide)]; exact c1
  · rw [d3 2 (by decide), x2, d4 7 (by decide), g.2 28 (by decide) (by decide)]; exact c1
  · rw [d3 4 (by decide), fw 4 4 rfl, ft 27 5 rfl, g.2 27 (by decide) (by decide)]; exact c3
  · rw [d3 4 (by decide), fw 4 5 rfl, ft 27 6 rfl, g.2 27 (by decide) (by decide)]; exact c4
set_option maxRecDepth 100000 in
theorem u9_25 {σ : Sg} (h : U_ σ) : wp_ (fX9_back σ) (fun q => H9_ σ q.2 ∧ (gi q.2 1 11 = gi σ 2 11 ∧ gi q.2 2 11 = gi σ 2 11) ∧ FW_ σ q.2) := wp_mono (pf_wp (pf_wp (tX9_back σ h.1.1) (back9_w σ)) (yw_fX9_back σ)) (fun _ g => ⟨g.1.1, g.1.2, g.2⟩)
set_option maxRecDepth 100000 in
theorem u10_25 {σ : Sg} (h : U_ σ) {s : Sg} (hs : H9_ σ s ∧ (gi s 1 11 = gi σ 2 11 ∧ gi s 2 11 = gi σ 2 11) ∧ FW_ σ s) : wp_ (fX10_back s) (fun q => U_ q.2) := by
  obtain ⟨hM, ⟨B, n, b1, b2⟩, c1, c2, c3, c4⟩ := id h
  obtain ⟨g, ⟨x1, x2⟩, fw⟩ := hs
  refine wp_mono (pf_wp (wp_and (c10_25 (hM.c g)) (back10_v s)) (yt_fX10_back s)) (fun q hq => ?_)
  obtain ⟨⟨mq, _, d2, d3, d4⟩, ft⟩ := hq
  refine ⟨mq, ⟨B, n, b1.of (by rw [d3 3 (by decide)]; exact fw 3 1 rfl) (fun k => by rw [d3 17 (by decide)]; exact fw 17 k rfl), b2.of (by rw [ft 27 4 rfl, g.2 27 (by decide) (by decide)]) (fun k => by rw [ft 31 k rfl, g.2 31 (by decide) (by decide)])⟩, ?_, ?_, ?_, ?_⟩
  · rw [d3 1 (by decide), x1, d4 7 (by decide), g.2 29 (by decide) (by decide)]; exact c2
  · rw [d3 2 (by decide), x2, d2, g.2 29 (by decide) (by decide)]; exact c2
  · rw [d3 4 (by decide), fw 4 4 rfl, ft 27 5 rfl, g.2 27 (by decide) (by decide)]; exact c3
  · rw [d3 4 (by decide), fw 4 5 rfl, ft 27 6 rfl, g.2 27 (by decide) (by decide)]; exact c4
