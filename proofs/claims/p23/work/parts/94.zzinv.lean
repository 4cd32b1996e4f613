/-! weights within their limits, the empty sum 0: of the class's cells alone -/
def E_ (σ : Sg) : Prop := (∀ i, i < 12 → 0 ≤ (gi σ 9 i).toInt ∧ (gi σ 9 i).toInt ≤ 999) ∧ (∀ i, i < 12 → 0 ≤ (gi σ 13 i).toInt ∧ (gi σ 13 i).toInt ≤ 999) ∧ gi σ 26 0 = 0
theorem E_0 : E_ s0_ := by
  refine ⟨fun i _ => ?_, fun i _ => ?_, rfl⟩
  · show 0 ≤ (z_all 9 i).toInt ∧ (z_all 9 i).toInt ≤ 999
    exact show 0 ≤ (0 : Int32).toInt ∧ (0 : Int32).toInt ≤ 999 by decide +kernel
  · show 0 ≤ (z_all 13 i).toInt ∧ (z_all 13 i).toInt ≤ 999
    exact show 0 ≤ (0 : Int32).toInt ∧ (0 : Int32).toInt ≤ 999 by decide +kernel
theorem E_.m {s t : Sg} (h : E_ s) (e : ∀ k, k < 27 → gi t k = gi s k) : E_ t := by
  unfold E_
  rw [e 9 (by decide), e 13 (by decide), e 26 (by decide)]
  exact h
theorem E_.f {s t : Sg} (h : E_ s) (a : FA_ s t) (c : gi t 26 0 = gi s 26 0) : E_ t := by
  refine ⟨fun i hi => ?_, fun i hi => ?_, by rw [c]; exact h.2.2⟩
  · rw [a 9 i rfl]; exact h.1 i hi
  · rw [a 13 i rfl]; exact h.2.1 i hi
theorem wp_pf {β : Type} {f : Option β} {P : β → Prop} (h : wp_ f P) : pf_ f P := fun o e => by rw [e] at h; exact h
theorem pf_and {β : Type} {f : Option β} {P Q : β → Prop} (h1 : pf_ f P) (h2 : pf_ f Q) : pf_ f (fun o => P o ∧ Q o) := fun o e => ⟨h1 o e, h2 o e⟩
theorem pf_mono {β : Type} {f : Option β} {P Q : β → Prop} (h : pf_ f P) (hq : ∀ o, P o → Q o) : pf_ f Q := fun o e => hq o (h o e)
theorem wp_of {β : Type} {f : Option β} {P : β → Prop} {x : β} (h : f = some x) (p : pf_ f P) : P x := p x h
set_option maxRecDepth 100000 in
theorem cm10_0 (a1 a2 a3 : Int32) {s : Sg} (h : M_ s) : wp_ (fX10_beam a1 a2 a3 s) (fun q => ∀ k, k < 27 → gi q.2 k = gi s k) := wp_mono (tX10_beam a1 a2 a3 s h.2.1) (fun _ g k hk => g.2.1 k (Or.inl hk))
set_option maxRecDepth 100000 in
theorem cm10_1 (a1 a2 : Int32) {s : Sg} (h : M_ s) : wp_ (fX10_thing a1 a2 s) (fun q => ∀ k, k < 27 → gi q.2 k = gi s k) := wp_mono (tX10_thing a1 a2 s h.2.1) (fun _ g k hk => g.2.1 k (Or.inl hk))
set_option maxRecDepth 100000 in
theorem cm10_2 (a1 a2 a3 : Int32) {s : Sg} (h : M_ s) : wp_ (fX10_weather a1 a2 a3 s) (fun q => ∀ k, k < 27 → gi q.2 k = gi s k) := wp_mono (tX10_weather a1 a2 a3 s h.2.1) (fun _ g k hk => g.2.1 k (Or.inl hk))
set_option maxRecDepth 100000 in
theorem cm10_3 (a1 a2 a3 a4 a5 : Int32) {s : Sg} (h : M_ s) : wp_ (fX10_feed a1 a2 a3 a4 a5 s) (fun q => ∀ k, k < 27 → gi q.2 k = gi s k) := wp_mono (tX10_feed a1 a2 a3 a4 a5 s h.2.1) (fun _ g k hk => g.2.1 k (Or.inl hk))
set_option maxRecDepth 100000 in
theorem cm10_4 (a1 : Int32) {s : Sg} (h : M_ s) : wp_ (fX10_end a1 s) (fun q => ∀ k, k < 27 → gi q.2 k = gi s k) := wp_mono (tX10_end a1 s h.2.1) (fun _ g k hk => g.2.1 k (Or.inl hk))
set_option maxRecDepth 100000 in
theorem cm10_5 {s : Sg} (h : M_ s) : wp_ (fX10_text  s) (fun q => ∀ k, k < 27 → gi q.2 k = gi s k) := wp_mono (text_ok h.2.1 h.2.2) (fun _ g k hk => g.2.1 k (Or.inl hk))
set_option maxRecDepth 100000 in
theorem cm10_6 (a1 : Int32) {s : Sg} (h : M_ s) : wp_ (fX10_fault a1 s) (fun q => ∀ k, k < 27 → gi q.2 k = gi s k) := wp_mono (tX10_fault a1 s h.2.1) (fun _ g k hk => by rw [g])
set_option maxRecDepth 100000 in
theorem cm10_7 (a1 : Int32) {s : Sg} (h : M_ s) : wp_ (fX10_by a1 s) (fun q => ∀ k, k < 27 → gi q.2 k = gi s k) := wp_mono (tX10_by a1 s h.2.1) (fun _ g k hk => g.2.1 k (Or.inl hk))
set_option maxRecDepth 100000 in
theorem cm10_8 (a1 a2 : Int32) {s : Sg} (h : M_ s) : wp_ (fX10_put a1 a2 s) (fun q => ∀ k, k < 27 → gi q.2 k = gi s k) := wp_mono (put_ok h.2.1 h.2.2) (fun _ g k hk => g.2.1 k (Or.inl hk))
set_option maxRecDepth 100000 in
theorem cm10_9 (a1 : Int32) {s : Sg} (h : M_ s) : wp_ (fX10_take a1 s) (fun q => ∀ k, k < 27 → gi q.2 k = gi s k) := wp_mono (take_ok h.2.1 h.2.2) (fun _ g k hk => g.2.1 k (Or.inl hk))
set_option maxRecDepth 100000 in
theorem cm10_10 (a1 : Int32) {s : Sg} (h : M_ s) : wp_ (fX10_pass a1 s) (fun q => ∀ k, k < 27 → gi q.2 k = gi s k) := wp_mono (tX10_pass a1 s h.2.1) (fun _ g k hk => g.2.1 k (Or.inl hk))
set_option maxRecDepth 100000 in
theorem cm10_11 (a1 : Int32) {s : Sg} (h : M_ s) : wp_ (fX10_played a1 s) (fun q => ∀ k, k < 27 → gi q.2 k = gi s k) := wp_mono (played_ok h.2.1 h.2.2) (fun _ g k hk => g.2.1 k (Or.inl hk))
set_option maxRecDepth 100000 in
theorem cm10_12 {s : Sg} (h : M_ s) : wp_ (fX10_undo  s) (fun q => ∀ k, k < 27 → gi q.2 k = gi s k) := wp_mono (tX10_undo  s h.2.1) (fun _ g k hk => g.2.1 k (Or.inl hk))
set_option maxRecDepth 100000 in
theorem cm10_13 (a1 a2 : Int32) {s : Sg} (h : M_ s) : wp_ (fX10_of a1 a2 s) (fun q => ∀ k, k < 27 → gi q.2 k = gi s k) := wp_mono (of_ok h.2.1 h.2.2) (fun _ g k hk => g.1.2.1 k (Or.inl hk))
set_option maxRecDepth 100000 in
theorem cm10_14 (a1 : Int32) {s : Sg} (h : M_ s) : wp_ (fX10_now a1 s) (fun q => ∀ k, k < 27 → gi q.2 k = gi s k) := wp_mono (now_ok h.2.1 h.2.2) (fun _ g k hk => g.1.2.1 k (Or.inl hk))
set_option maxRecDepth 100000 in
theorem cm10_15 (a1 a2 : Int32) {s : Sg} (h : M_ s) : wp_ (fX10_loadings a1 a2 s) (fun q => ∀ k, k < 27 → gi q.2 k = gi s k) := wp_mono (loadings_ok h.2.1 h.2.2) (fun _ g k hk => g.1.2.1 k (Or.inl hk))
set_option maxRecDepth 100000 in
theorem cm10_16 (a1 a2 a3 : Int32) {s : Sg} (h : M_ s) : wp_ (fX10_gentle a1 a2 a3 s) (fun q => ∀ k, k < 27 → gi q.2 k = gi s k) := wp_mono (gentle_ok h.2.1 h.2.2) (fun _ g k hk => g.1.2.1 k (Or.inl hk))
set_option maxRecDepth 100000 in
theorem cm10_17 (a1 a2 : Int32) {s : Sg} (h : M_ s) : wp_ (fX10_reading a1 a2 s) (fun q => ∀ k, k < 27 → gi q.2 k = gi s k) := wp_mono (reading_ok h.2.1 h.2.2) (fun _ g k hk => g.1.1.2.1 k (Or.inl hk))
set_option maxRecDepth 100000 in
theorem cm10_18 {s : Sg} (h : M_ s) : wp_ (fX10_forget  s) (fun q => ∀ k, k < 27 → gi q.2 k = gi s k) := wp_mono (tX10_forget  s h.2.1) (fun _ g k hk => g.2.1 k (Or.inl hk))
set_option maxRecDepth 100000 in
theorem cm10_19 (a1 : Int32) {s : Sg} (h : M_ s) : wp_ (fX10_span a1 s) (fun q => ∀ k, k < 27 → gi q.2 k = gi s k) := wp_mono (span_ok h.2.1 h.2.2) (fun _ g k hk => g.1.2.1 k (Or.inl hk))
set_option maxRecDepth 100000 in
theorem cm10_20 (a1 a2 : Int32) {s : Sg} (h : M_ s) : wp_ (fX10_bent a1 a2 s) (fun q => ∀ k, k < 27 → gi q.2 k = gi s k) := wp_mono (bent_ok h.2.1 h.2.2) (fun _ g k hk => g.1.2.1 k (Or.inl hk))
set_option maxRecDepth 100000 in
theorem cm10_21 (a1 a2 : Int32) {s : Sg} (h : M_ s) : wp_ (fX10_balanced a1 a2 s) (fun q => ∀ k, k < 27 → gi q.2 k = gi s k) := wp_mono (tX10_balanced a1 a2 s h.2.1) (fun _ g k hk => g.2.1 k (Or.inl hk))
set_option maxRecDepth 100000 in
theorem cm10_22 (a1 a2 : Int32) {s : Sg} (h : M_ s) : wp_ (fX10_weights a1 a2 s) (fun q => ∀ k, k < 27 → gi q.2 k = gi s k) := wp_mono (weights_ok h.2.1) (fun _ g k hk => g.1.2.1 k (Or.inl hk))
set_option maxRecDepth 100000 in
theorem cm10_23 (a1 a2 a3 : Int32) {s : Sg} (h : M_ s) : wp_ (fX10_rest a1 a2 a3 s) (fun q => ∀ k, k < 27 → gi q.2 k = gi s k) := wp_mono (rest_ok h.2.1 h.2.2) (fun _ g k hk => g.1.2.1 k (Or.inl hk))
set_option maxRecDepth 100000 in
theorem cm10_24 {s : Sg} (h : M_ s) : wp_ (fX10_image  s) (fun q => ∀ k, k < 27 → gi q.2 k = gi s k) := wp_mono (tX10_image  s h.2.1) (fun _ g k hk => g.2.1 k (Or.inl hk))
set_option maxRecDepth 100000 in
theorem cm10_25 {s : Sg} (h : M_ s) : wp_ (fX10_back  s) (fun q => ∀ k, k < 27 → gi q.2 k = gi s k) := wp_mono (tX10_back  s h.2.1) (fun _ g k hk => g.2.1 k (Or.inl hk))
set_option maxRecDepth 100000 in
theorem cm10_26 (a1 : Int32) {s : Sg} (h : M_ s) : wp_ (fX10_about a1 s) (fun q => ∀ k, k < 27 → gi q.2 k = gi s k) := wp_mono (tX10_about a1 s h.2.1) (fun _ g k hk => by rw [g])
set_option maxRecDepth 100000 in
theorem ce9_0 (a1 a2 a3 : Int32) {s : Sg} (h : E_ s) : pf_ (fX9_beam a1 a2 a3 s) (fun q => E_ q.2) := pf_mono (pf_and (ya_fX9_beam a1 a2 a3 s) (yc_fX9_beam a1 a2 a3 s)) (fun _ g => h.f g.1 g.2.z)
set_option maxRecDepth 100000 in
theorem ce9_2 (a1 a2 a3 : Int32) {s : Sg} (h : E_ s) : pf_ (fX9_weather a1 a2 a3 s) (fun q => E_ q.2) := pf_mono (pf_and (ya_fX9_weather a1 a2 a3 s) (yc_fX9_weather a1 a2 a3 s)) (fun _ g => h.f g.1 g.2.z)
set_option maxRecDepth 100000 in
theorem ce9_3 (a1 a2 a3 a4 a5 : Int32) {s : Sg} (h : E_ s) : pf_ (fX9_feed a1 a2 a3 a4 a5 s) (fun q => E_ q.2) := pf_mono (pf_and (ya_fX9_feed a1 a2 a3 a4 a5 s) (yc_fX9_feed a1 a2 a3 a4 a5 s)) (fun _ g => h.f g.1 g.2.z)
set_option maxRecDepth 100000 in
theorem ce9_4 (a1 : Int32) {s : Sg} (h : E_ s) : pf_ (fX9_end a1 s) (fun q => E_ q.2) := pf_mono (pf_and (ya_fX9_end a1 s) (yc_fX9_end a1 s)) (fun _ g => h.f g.1 g.2.z)
set_option maxRecDepth 100000 in
theorem ce9_5 {s : Sg} (h : E_ s) : pf_ (fX9_text  s) (fun q => E_ q.2) := pf_mono (pf_and (ya_fX9_text  s) (yc_fX9_text  s)) (fun _ g => h.f g.1 g.2.z)
set_option maxRecDepth 100000 in
theorem ce9_6 (a1 : Int32) {s : Sg} (h : E_ s) : pf_ (fX9_fault a1 s) (fun q => E_ q.2) := pf_mono (pf_and (ya_fX9_fault a1 s) (yc_fX9_fault a1 s)) (fun _ g => h.f g.1 g.2.z)
set_option maxRecDepth 100000 in
theorem ce9_7 (a1 : Int32) {s : Sg} (h : E_ s) : pf_ (fX9_by a1 s) (fun q => E_ q.2) := pf_mono (pf_and (ya_fX9_by a1 s) (yc_fX9_by a1 s)) (fun _ g => h.f g.1 g.2.z)
set_option maxRecDepth 100000 in
theorem ce9_8 (a1 a2 : Int32) {s : Sg} (h : E_ s) : pf_ (fX9_put a1 a2 s) (fun q => E_ q.2) := pf_mono (pf_and (ya_fX9_put a1 a2 s) (yc_fX9_put a1 a2 s)) (fun _ g => h.f g.1 g.2.z)
set_option maxRecDepth 100000 in
theorem ce9_9 (a1 : Int32) {s : Sg} (h : E_ s) : pf_ (fX9_take a1 s) (fun q => E_ q.2) := pf_mono (pf_and (ya_fX9_take a1 s) (yc_fX9_take a1 s)) (fun _ g => h.f g.1 g.2.z)
set_option maxRecDepth 100000 in
theorem ce9_10 (a1 : Int32) {s : Sg} (h : E_ s) : pf_ (fX9_pass a1 s) (fun q => E_ q.2) := pf_mono (pf_and (ya_fX9_pass a1 s) (yc_fX9_pass a1 s)) (fun _ g => h.f g.1 g.2.z)
set_option maxRecDepth 100000 in
theorem ce9_11 (a1 : Int32) {s : Sg} (h : E_ s) : pf_ (fX9_played a1 s) (fun q => E_ q.2) := pf_mono (pf_and (ya_fX9_played a1 s) (yc_fX9_played a1 s)) (fun _ g => h.f g.1 g.2.z)
set_option maxRecDepth 100000 in
theorem ce9_12 {s : Sg} (h : E_ s) : pf_ (fX9_undo  s) (fun q => E_ q.2) := pf_mono (pf_and (ya_fX9_undo  s) (yc_fX9_undo  s)) (fun _ g => h.f g.1 g.2.z)
set_option maxRecDepth 100000 in
theorem ce9_13 (a1 a2 : Int32) {s : Sg} (h : E_ s) : pf_ (fX9_of a1 a2 s) (fun q => E_ q.2) := pf_mono (pf_and (ya_fX9_of a1 a2 s) (yc_fX9_of a1 a2 s)) (fun _ g => h.f g.1 g.2.z)
set_option maxRecDepth 100000 in
theorem ce9_14 (a1 : Int32) {s : Sg} (h : E_ s) : pf_ (fX9_now a1 s) (fun q => E_ q.2) := pf_mono (pf_and (ya_fX9_now a1 s) (yc_fX9_now a1 s)) (fun _ g => h.f g.1 g.2.z)
set_option maxRecDepth 100000 in
theorem ce9_15 (a1 a2 : Int32) {s : Sg} (h : E_ s) : pf_ (fX9_loadings a1 a2 s) (fun q => E_ q.2) := pf_mono (pf_and (ya_fX9_loadings a1 a2 s) (yc_fX9_loadings a1 a2 s)) (fun _ g => h.f g.1 g.2.z)
set_option maxRecDepth 100000 in
theorem ce9_16 (a1 a2 a3 : Int32) {s : Sg} (h : E_ s) : pf_ (fX9_gentle a1 a2 a3 s) (fun q => E_ q.2) := pf_mono (pf_and (ya_fX9_gentle a1 a2 a3 s) (yc_fX9_gentle a1 a2 a3 s)) (fun _ g => h.f g.1 g.2.z)
set_option maxRecDepth 100000 in
theorem ce9_19 (a1 : Int32) {s : Sg} (h : E_ s) : pf_ (fX9_span a1 s) (fun q => E_ q.2) := pf_mono (pf_and (ya_fX9_span a1 s) (yc_fX9_span a1 s)) (fun _ g => h.f g.1 g.2.z)
set_option maxRecDepth 100000 in
theorem ce9_20 (a1 a2 : Int32) {s : Sg} (h : E_ s) : pf_ (fX9_bent a1 a2 s) (fun q => E_ q.2) := pf_mono (pf_and (ya_fX9_bent a1 a2 s) (yc_fX9_bent a1 a2 s)) (fun _ g => h.f g.1 g.2.z)
set_option maxRecDepth 100000 in
theorem ce9_22 (a1 a2 : Int32) {s : Sg} (h : E_ s) : pf_ (fX9_weights a1 a2 s) (fun q => E_ q.2) := pf_mono (pf_and (ya_fX9_weights a1 a2 s) (yc_fX9_weights a1 a2 s)) (fun _ g => h.f g.1 g.2.z)
set_option maxRecDepth 100000 in
theorem ce9_23 (a1 a2 a3 : Int32) {s : Sg} (h : E_ s) : pf_ (fX9_rest a1 a2 a3 s) (fun q => E_ q.2) := pf_mono (pf_and (ya_fX9_rest a1 a2 a3 s) (yc_fX9_rest a1 a2 a3 s)) (fun _ g => h.f g.1 g.2.z)
set_option maxRecDepth 100000 in
theorem ce9_26 (a1 : Int32) {s : Sg} (h : E_ s) : pf_ (fX9_about a1 s) (fun q => E_ q.2) := pf_mono (pf_and (ya_fX9_about a1 s) (yc_fX9_about a1 s)) (fun _ g => h.f g.1 g.2.z)
theorem ce9_1 (a1 a2 : Int32) {s : Sg} (hm : M_ s) (h : E_ s) : pf_ (fX9_thing a1 a2 s) (fun q => E_ q.2) := by
  refine pf_mono (pf_and (thing9_v (a := a1) (b := a2) hm.1) (yc_fX9_thing a1 a2 s)) (fun q g => ?_)
  obtain ⟨g, c⟩ := g
  rcases g with ⟨ok, _, _, b9, b9', _, _, b13⟩ | ⟨_, e⟩
  · refine ⟨fun i hi => ?_, fun i hi => ?_, by rw [c.z]; exact h.2.2⟩
    · by_cases e : i = (gi s 1 6).toInt.toNat
      · subst e
        rw [b9]
        unfold thok_ at ok
        rw [Bool.and_eq_true] at ok
        have := inR_iff.mp ok.1
        have L1 : (1 : Int32).toInt = 1 := rfl
        have L9 : (999 : Int32).toInt = 999 := rfl
        omega
      · rw [b9' i e]; exact h.1 i hi
    · rw [b13]; exact h.2.1 i hi
  · rw [e]; exact h
theorem ce9_17 (a1 a2 : Int32) {s : Sg} (hm : M_ s) (h : E_ s) : pf_ (fX9_reading a1 a2 s) (fun q => E_ q.2) := by
  refine pf_mono (pf_and (reading9_v (a := a1) (b := a2) hm.1) (yc_fX9_reading a1 a2 s)) (fun q g => ?_)
  obtain ⟨g, c⟩ := g
  rcases g with ⟨_, _, _, _, b9, _, b13⟩ | ⟨_, e⟩
  · exact ⟨fun i hi => by rw [b9]; exact h.1 i hi, fun i hi => by rw [b13]; exact h.2.1 i hi, by rw [c.z]; exact h.2.2⟩
  · rw [e]; exact h
theorem ce9_18 {s : Sg} (h : E_ s) : pf_ (fX9_forget s) (fun q => E_ q.2) := by
  unfold fX9_forget
  refine pf_bv (fun v _ => pf_bv (fun t et => pf_some ?_))
  show E_ t
  rw [et]
  exact ⟨fun i hi => by rw [gsi_k (by decide)]; exact h.1 i hi, fun i hi => by rw [gsi_k (by decide)]; exact h.2.1 i hi, by rw [gsi_k (by decide)]; exact h.2.2⟩
theorem ce9_24 {s : Sg} (h : E_ s) : pf_ (fX9_image s) (fun q => E_ q.2) := pf_mono (pf_and (image9_v s) (yc_fX9_image s)) (fun q g => ⟨fun i hi => by rw [g.1.2.2.2.2.2.2 i hi]; exact h.1 i hi, fun i hi => by rw [g.1.2.2.2.1 i hi]; exact h.1 i hi, by rw [g.2.z]; exact h.2.2⟩)
theorem ce9_25 {s : Sg} (h : E_ s) : pf_ (fX9_back s) (fun q => E_ q.2) := pf_mono (pf_and (back9_v s) (yc_fX9_back s)) (fun q g => ⟨fun i hi => by rw [g.1.2.2.2.1 i hi]; exact h.2.1 i hi, fun i hi => by rw [g.1.2.2.2.2.2.2 i hi]; exact h.2.1 i hi, by rw [g.2.z]; exact h.2.2⟩)
/-! balanced: the answer, by what lies in the class's cells -/
def wt_ (σ : Sg) (i : Nat) : Nat := (gi σ 9 i).toInt.toNat
def nt_ (σ : Sg) : Nat := (gi σ 1 6).toInt.toNat
theorem CW_ok {σ : Sg} (h : J_ σ) (e : E_ σ) : CW_ (wt_ σ) (nt_ σ) σ := by
  have b6 : 0 ≤ (gi σ 1 6).toInt ∧ (gi σ 1 6).toInt ≤ 12 := h.1.1.1 1 6
  refine ⟨nI_ot _ b6.1, by unfold nt_; omega, fun i hi => nI_ot _ (e.1 i hi).1, fun i hi => ?_⟩
  have := e.1 i hi
  unfold wt_
  omega
theorem MW_ok {σ s : Sg} (h : J_ σ) (e : E_ σ) (g : gi s 28 = gi σ 28) : MW_ (wt_ σ) (nt_ σ) s := by
  obtain ⟨c1, c2, c3, c4⟩ := CW_ok h e
  obtain ⟨⟨a1, a2, a3⟩, _⟩ := h.2
  exact ⟨by rw [g, ← a1]; exact c1, c2, fun i hi => by rw [g, ← a3 i hi]; exact c3 i hi, c4⟩
/-- the answer that balanced gives -/
def BV_ (σ : Sg) (a1 a2 r : Int32) : Prop := ((inR a1 1 999 && inR a2 0 2) = false → r = -1) ∧ ∀ L, a1 = nI L → 1 ≤ L → L ≤ 999 → inR a2 0 2 = true → (r = -1 ∧ ∀ u b, ¬ Vl_ (wt_ σ) (nt_ σ) L u b) ∨ (∃ u b, Vl_ (wt_ σ) (nt_ σ) L u b ∧ (∀ u' b', Vl_ (wt_ σ) (nt_ σ) L u' b' → lx_ u b u' b') ∧ r = (if a2 = 0 then nI (pn_ u 12) else if a2 = 1 then nI u else nI b))
theorem in_L {a : Int32} (h : inR a 1 999 = true) : ∃ L, a = nI L ∧ 1 ≤ L ∧ L ≤ 999 := by
  have := inR_iff.mp h
  have L1 : (1 : Int32).toInt = 1 := rfl
  have L9 : (999 : Int32).toInt = 999 := rfl
  exact ⟨a.toInt.toNat, nI_ot _ (by omega), by omega, by omega⟩
theorem BV_un {σ : Sg} {a1 a2 r r' : Int32} (h : BV_ σ a1 a2 r) (h' : BV_ σ a1 a2 r') : r = r' := by
  cases hi : (inR a1 1 999 && inR a2 0 2) with
  | false => rw [h.1 hi, h'.1 hi]
  | true =>
    rw [Bool.and_eq_true] at hi
    obtain ⟨L, e, l1, l2⟩ := in_L hi.1
    rcases h.2 L e l1 l2 hi.2 with ⟨e1, n1⟩ | ⟨u, b, v1, x1, e1⟩
    · rcases h'.2 L e l1 l2 hi.2 with ⟨e2, _⟩ | ⟨u', b', v2, _, _⟩
      · rw [e1, e2]
      · exact absurd v2 (n1 u' b')
    · rcases h'.2 L e l1 l2 hi.2 with ⟨_, n2⟩ | ⟨u', b', v2, x2, e2⟩
      · exact absurd v1 (n2 u b)
      · obtain ⟨rfl, rfl⟩ := lx_anti (x1 u' b' v2) (x2 u b v1)
        rw [e1, e2]
theorem inR_nI {L : Nat} (h1 : 1 ≤ L) (h2 : L ≤ 999) : inR (nI L) 1 999 = true := by
  rw [inR_iff, nI_toInt (by omega)]
  have L1 : (1 : Int32).toInt = 1 := rfl
  have L9 : (999 : Int32).toInt = 999 := rfl
  omega
theorem bal9_no (a1 a2 : Int32) (s : Sg) (h : (inR a1 1 999 && inR a2 0 2) = false) : fX9_balanced a1 a2 s = some (-1, s) := by
  unfold fX9_balanced
  rw [within_eq]
  cases h1 : inR a1 1 999 with
  | false => rfl
  | true =>
    rw [h1, Bool.true_and] at h
    simp only [bnd]
    rw [if_neg (show ¬ b2i true = 0 by decide +kernel), within_eq, h]
    rfl
theorem bal10_no (a1 a2 : Int32) (s : Sg) (h : (inR a1 1 999 && inR a2 0 2) = false) : fX10_balanced a1 a2 s = some (-1, s) := by
  unfold fX10_balanced
  rw [isIn_eq]
  cases h1 : inR a1 1 999 with
  | false => rfl
  | true =>
    rw [h1, Bool.true_and] at h
    simp only [bnd]
    rw [if_neg (show ¬ b2i true = 0 by decide +kernel), isIn_eq, h]
    rfl
theorem bal9_v (a1 a2 : Int32) {σ : Sg} (h : J_ σ) (e : E_ σ) : pf_ (fX9_balanced a1 a2 σ) (fun q => BV_ σ a1 a2 q.1 ∧ E_ q.2) := by
  cases hi : (inR a1 1 999 && inR a2 0 2) with
  | false =>
    rw [bal9_no a1 a2 σ hi]
    refine pf_some ⟨⟨fun _ => rfl, fun L eL l1 l2 ha => ?_⟩, e⟩
    rw [eL, inR_nI l1 l2, ha] at hi
    exact nomatch hi
  | true =>
    have hi' := hi
    rw [Bool.and_eq_true] at hi'
    obtain ⟨L, eL, l1, l2⟩ := in_L hi'.1
    subst eL
    refine pf_mono (pf_and (balanced9_v (CW_ok h e) e.2.2 hi'.1 l2 a2 hi'.2) (ya_fX9_balanced (nI L) a2 σ)) (fun q g => ?_)
    obtain ⟨⟨fr, z0, g⟩, a⟩ := g
    refine ⟨⟨fun e' => (by rw [hi] at e'; exact nomatch e'), fun L' eL' l1' l2' ha => ?_⟩, e.f a (by rw [z0, e.2.2])⟩
    have : L = L' := (nI_eqi (by omega) (by omega)).mp eL'
    subst this
    exact g
theorem bal10_v (a1 a2 : Int32) {σ s : Sg} (h : J_ σ) (e : E_ σ) (g : gi s 28 = gi σ 28) : pf_ (fX10_balanced a1 a2 s) (fun q => BV_ σ a1 a2 q.1) := by
  cases hi : (inR a1 1 999 && inR a2 0 2) with
  | false =>
    rw [bal10_no a1 a2 s hi]
    refine pf_some ⟨fun _ => rfl, fun L eL l1 l2 ha => ?_⟩
    rw [eL, inR_nI l1 l2, ha] at hi
    exact nomatch hi
  | true =>
    have hi' := hi
    rw [Bool.and_eq_true] at hi'
    obtain ⟨L, eL, l1, l2⟩ := in_L hi'.1
    subst eL
    refine pf_mono (balanced10_v (MW_ok h e g) hi'.1 l1 l2 a2 hi'.2) (fun q g => ?_)
    refine ⟨fun e' => (by rw [hi] at e'; exact nomatch e'), fun L' eL' l1' l2' ha => ?_⟩
    have : L = L' := (nI_eqi (by omega) (by omega)).mp eL'
    subst this
    exact g
def JE_ (σ : Sg) : Prop := J_ σ ∧ E_ σ
