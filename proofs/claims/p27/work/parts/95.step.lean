set_option maxRecDepth 100000 in
theorem su_0 (a1 a2 a3 a4 a5 : Int32) {σ : Sg} (h : J_ σ) : ∃ t, sp_0 a1 a2 a3 a4 a5 σ = some t ∧ J_ t := by
  unfold sp_0
  exact step_u (f := fX9_beam a1 a2 a3 σ) (g := fun s => fX10_beam a1 a2 a3 s) (J1 := J_) (J := J_) (n9_0 a1 a2 a3 h) (fun s hs => n10_0 a1 a2 a3 hs)
set_option maxRecDepth 100000 in
theorem su_1 (a1 a2 a3 a4 a5 : Int32) {σ : Sg} (h : J_ σ) : ∃ t, sp_1 a1 a2 a3 a4 a5 σ = some t ∧ J_ t := by
  unfold sp_1
  obtain ⟨t, e, b, r, _, j⟩ := step_cu (f := fX9_thing a1 a2 σ) (g := fun s => fX10_thing a1 a2 s) (J1 := T1_ σ a1 a2) (J := fun q r t => q = r ∧ J_ t) (e9_1 a1 a2 h) (fun r s hs => e10_1 a1 a2 h r s hs)
  exact ⟨t, e, j⟩
set_option maxRecDepth 100000 in
theorem su_2 (a1 a2 a3 a4 a5 : Int32) {σ : Sg} (h : J_ σ) : ∃ t, sp_2 a1 a2 a3 a4 a5 σ = some t ∧ J_ t := by
  unfold sp_2
  exact step_u (f := fX9_weather a1 a2 a3 σ) (g := fun s => fX10_weather a1 a2 a3 s) (J1 := J_) (J := J_) (n9_2 a1 a2 a3 h) (fun s hs => n10_2 a1 a2 a3 hs)
set_option maxRecDepth 100000 in
theorem su_3 (a1 a2 a3 a4 a5 : Int32) {σ : Sg} (h : J_ σ) : ∃ t, sp_3 a1 a2 a3 a4 a5 σ = some t ∧ J_ t := by
  unfold sp_3
  exact step_u (f := fX9_feed a1 a2 a3 a4 a5 σ) (g := fun s => fX10_feed a1 a2 a3 a4 a5 s) (J1 := J_) (J := J_) (n9_3 a1 a2 a3 a4 a5 h) (fun s hs => n10_3 a1 a2 a3 a4 a5 hs)
set_option maxRecDepth 100000 in
theorem su_4 (a1 a2 a3 a4 a5 : Int32) {σ : Sg} (h : J_ σ) : ∃ t, sp_4 a1 a2 a3 a4 a5 σ = some t ∧ J_ t := by
  unfold sp_4
  exact step_u (f := fX9_end a1 σ) (g := fun s => fX10_end a1 s) (J1 := J_) (J := J_) (n9_4 a1 h) (fun s hs => n10_4 a1 hs)
set_option maxRecDepth 100000 in
theorem su_5 (a1 a2 a3 a4 a5 : Int32) {σ : Sg} (h : J_ σ) : ∃ t, sp_5 a1 a2 a3 a4 a5 σ = some t ∧ J_ t := by
  unfold sp_5
  exact step_u (f := fX9_text  σ) (g := fun s => fX10_text  s) (J1 := J_) (J := J_) (n9_5  h) (fun s hs => n10_5  hs)
set_option maxRecDepth 100000 in
theorem su_6 (a1 a2 a3 a4 a5 : Int32) {σ : Sg} (h : J_ σ) : ∃ t, sp_6 a1 a2 a3 a4 a5 σ = some t ∧ J_ t := by
  unfold sp_6
  exact step_u (f := fX9_fault a1 σ) (g := fun s => fX10_fault a1 s) (J1 := J_) (J := J_) (n9_6 a1 h) (fun s hs => n10_6 a1 hs)
set_option maxRecDepth 100000 in
theorem su_7 (a1 a2 a3 a4 a5 : Int32) {σ : Sg} (h : J_ σ) : ∃ t, sp_7 a1 a2 a3 a4 a5 σ = some t ∧ J_ t := by
  unfold sp_7
  exact step_u (f := fX9_by a1 σ) (g := fun s => fX10_by a1 s) (J1 := J_) (J := J_) (n9_7 a1 h) (fun s hs => n10_7 a1 hs)
set_option maxRecDepth 100000 in
theorem su_8 (a1 a2 a3 a4 a5 : Int32) {σ : Sg} (h : J_ σ) : ∃ t, sp_8 a1 a2 a3 a4 a5 σ = some t ∧ J_ t := by
  unfold sp_8
  exact step_u (f := fX9_put a1 a2 σ) (g := fun s => fX10_put a1 a2 s) (J1 := J_) (J := J_) (n9_8 a1 a2 h) (fun s hs => n10_8 a1 a2 hs)
set_option maxRecDepth 100000 in
theorem su_9 (a1 a2 a3 a4 a5 : Int32) {σ : Sg} (h : J_ σ) : ∃ t, sp_9 a1 a2 a3 a4 a5 σ = some t ∧ J_ t := by
  unfold sp_9
  exact step_u (f := fX9_take a1 σ) (g := fun s => fX10_take a1 s) (J1 := J_) (J := J_) (n9_9 a1 h) (fun s hs => n10_9 a1 hs)
set_option maxRecDepth 100000 in
theorem su_10 (a1 a2 a3 a4 a5 : Int32) {σ : Sg} (h : J_ σ) : ∃ t, sp_10 a1 a2 a3 a4 a5 σ = some t ∧ J_ t := by
  unfold sp_10
  exact step_u (f := fX9_pass a1 σ) (g := fun s => fX10_pass a1 s) (J1 := J_) (J := J_) (n9_10 a1 h) (fun s hs => n10_10 a1 hs)
set_option maxRecDepth 100000 in
theorem su_11 (a1 a2 a3 a4 a5 : Int32) {σ : Sg} (h : J_ σ) : ∃ t, sp_11 a1 a2 a3 a4 a5 σ = some t ∧ J_ t := by
  unfold sp_11
  exact step_u (f := fX9_played a1 σ) (g := fun s => fX10_played a1 s) (J1 := J_) (J := J_) (n9_11 a1 h) (fun s hs => n10_11 a1 hs)
set_option maxRecDepth 100000 in
theorem su_12 (a1 a2 a3 a4 a5 : Int32) {σ : Sg} (h : J_ σ) : ∃ t, sp_12 a1 a2 a3 a4 a5 σ = some t ∧ J_ t := by
  unfold sp_12
  exact step_u (f := fX9_undo  σ) (g := fun s => fX10_undo  s) (J1 := J_) (J := J_) (n9_12  h) (fun s hs => n10_12  hs)
set_option maxRecDepth 100000 in
theorem su_13 (a1 a2 a3 a4 a5 : Int32) {σ : Sg} (h : J_ σ) : ∃ t, sp_13 a1 a2 a3 a4 a5 σ = some t ∧ J_ t := by
  unfold sp_13
  exact step_u (f := fX9_of a1 a2 σ) (g := fun s => fX10_of a1 a2 s) (J1 := J_) (J := J_) (n9_13 a1 a2 h) (fun s hs => n10_13 a1 a2 hs)
set_option maxRecDepth 100000 in
theorem su_14 (a1 a2 a3 a4 a5 : Int32) {σ : Sg} (h : J_ σ) : ∃ t, sp_14 a1 a2 a3 a4 a5 σ = some t ∧ J_ t := by
  unfold sp_14
  exact step_u (f := fX9_now a1 σ) (g := fun s => fX10_now a1 s) (J1 := J_) (J := J_) (n9_14 a1 h) (fun s hs => n10_14 a1 hs)
set_option maxRecDepth 100000 in
theorem su_15 (a1 a2 a3 a4 a5 : Int32) {σ : Sg} (h : J_ σ) : ∃ t, sp_15 a1 a2 a3 a4 a5 σ = some t ∧ J_ t := by
  unfold sp_15
  exact step_u (f := fX9_loadings a1 a2 σ) (g := fun s => fX10_loadings a1 a2 s) (J1 := J_) (J := J_) (n9_15 a1 a2 h) (fun s hs => n10_15 a1 a2 hs)
set_option maxRecDepth 100000 in
theorem su_16 (a1 a2 a3 a4 a5 : Int32) {σ : Sg} (h : J_ σ) : ∃ t, sp_16 a1 a2 a3 a4 a5 σ = some t ∧ J_ t := by
  unfold sp_16
  exact step_u (f := fX9_gentle a1 a2 a3 σ) (g := fun s => fX10_gentle a1 a2 a3 s) (J1 := J_) (J := J_) (n9_16 a1 a2 a3 h) (fun s hs => n10_16 a1 a2 a3 hs)
set_option maxRecDepth 100000 in
theorem su_17 (a1 a2 a3 a4 a5 : Int32) {σ : Sg} (h : J_ σ) : ∃ t, sp_17 a1 a2 a3 a4 a5 σ = some t ∧ J_ t := by
  unfold sp_17
  obtain ⟨t, e, b, r, _, j⟩ := step_cu (f := fX9_reading a1 a2 σ) (g := fun s => fX10_reading a1 a2 s) (J1 := T17_ σ a1 a2) (J := fun q r t => q = r ∧ J_ t) (e9_17 a1 a2 h) (fun r s hs => e10_17 a1 a2 h r s hs)
  exact ⟨t, e, j⟩
set_option maxRecDepth 100000 in
theorem su_18 (a1 a2 a3 a4 a5 : Int32) {σ : Sg} (h : J_ σ) : ∃ t, sp_18 a1 a2 a3 a4 a5 σ = some t ∧ J_ t := by
  unfold sp_18
  obtain ⟨t, e, b, r, _, j⟩ := step_cu (f := fX9_forget  σ) (g := fun s => fX10_forget  s) (J1 := T18_ σ ) (J := fun q r t => q = r ∧ J_ t) (e9_18  h) (fun r s hs => e10_18  h r s hs)
  exact ⟨t, e, j⟩
set_option maxRecDepth 100000 in
theorem su_19 (a1 a2 a3 a4 a5 : Int32) {σ : Sg} (h : J_ σ) : ∃ t, sp_19 a1 a2 a3 a4 a5 σ = some t ∧ J_ t := by
  unfold sp_19
  exact step_u (f := fX9_span a1 σ) (g := fun s => fX10_span a1 s) (J1 := J_) (J := J_) (n9_19 a1 h) (fun s hs => n10_19 a1 hs)
set_option maxRecDepth 100000 in
theorem su_20 (a1 a2 a3 a4 a5 : Int32) {σ : Sg} (h : J_ σ) : ∃ t, sp_20 a1 a2 a3 a4 a5 σ = some t ∧ J_ t := by
  unfold sp_20
  exact step_u (f := fX9_bent a1 a2 σ) (g := fun s => fX10_bent a1 a2 s) (J1 := J_) (J := J_) (n9_20 a1 a2 h) (fun s hs => n10_20 a1 a2 hs)
set_option maxRecDepth 100000 in
theorem su_21 (a1 a2 a3 a4 a5 : Int32) {σ : Sg} (h : J_ σ) : ∃ t, sp_21 a1 a2 a3 a4 a5 σ = some t ∧ J_ t := by
  unfold sp_21
  exact step_u (f := fX9_balanced a1 a2 σ) (g := fun s => fX10_balanced a1 a2 s) (J1 := J_) (J := J_) (n9_21 a1 a2 h) (fun s hs => n10_21 a1 a2 hs)
set_option maxRecDepth 100000 in
theorem su_22 (a1 a2 a3 a4 a5 : Int32) {σ : Sg} (h : J_ σ) : ∃ t, sp_22 a1 a2 a3 a4 a5 σ = some t ∧ J_ t := by
  unfold sp_22
  exact step_u (f := fX9_weights a1 a2 σ) (g := fun s => fX10_weights a1 a2 s) (J1 := J_) (J := J_) (n9_22 a1 a2 h) (fun s hs => n10_22 a1 a2 hs)
set_option maxRecDepth 100000 in
theorem su_23 (a1 a2 a3 a4 a5 : Int32) {σ : Sg} (h : J_ σ) : ∃ t, sp_23 a1 a2 a3 a4 a5 σ = some t ∧ J_ t := by
  unfold sp_23
  exact step_u (f := fX9_rest a1 a2 a3 σ) (g := fun s => fX10_rest a1 a2 a3 s) (J1 := J_) (J := J_) (n9_23 a1 a2 a3 h) (fun s hs => n10_23 a1 a2 a3 hs)
set_option maxRecDepth 100000 in
theorem su_24 (a1 a2 a3 a4 a5 : Int32) {σ : Sg} (h : J_ σ) : ∃ t, sp_24 a1 a2 a3 a4 a5 σ = some t ∧ J_ t := by
  unfold sp_24
  obtain ⟨t, e, b, r, _, j⟩ := step_cu (f := fX9_image  σ) (g := fun s => fX10_image  s) (J1 := T24_ σ ) (J := fun q r t => q = r ∧ J_ t) (e9_24  h) (fun r s hs => e10_24  h r s hs)
  exact ⟨t, e, j⟩
set_option maxRecDepth 100000 in
theorem su_25 (a1 a2 a3 a4 a5 : Int32) {σ : Sg} (h : J_ σ) : ∃ t, sp_25 a1 a2 a3 a4 a5 σ = some t ∧ J_ t := by
  unfold sp_25
  exact step_c (f := fX9_back  σ) (g := fun s => fX10_back  s) (J1 := T25_ σ ) (J := J_) (e9_25  h) (fun r s hs => e10_25  h r s hs)
set_option maxRecDepth 100000 in
theorem su_26 (a1 a2 a3 a4 a5 : Int32) {σ : Sg} (h : J_ σ) : ∃ t, sp_26 a1 a2 a3 a4 a5 σ = some t ∧ J_ t := by
  unfold sp_26
  exact step_u (f := fX9_about a1 σ) (g := fun s => fX10_about a1 s) (J1 := J_) (J := J_) (n9_26 a1 h) (fun s hs => n10_26 a1 hs)
theorem stepM (w a1 a2 a3 a4 a5 : Int32) {σ : Sg} (h : J_ σ) : ∃ t, stp_ w a1 a2 a3 a4 a5 σ = some t ∧ J_ t := by
  unfold stp_
  generalize (w &&& 31).toInt.toNat = k
  match k with
  | 0 => exact su_0 a1 a2 a3 a4 a5 h
  | 1 => exact su_1 a1 a2 a3 a4 a5 h
  | 2 => exact su_2 a1 a2 a3 a4 a5 h
  | 3 => exact su_3 a1 a2 a3 a4 a5 h
  | 4 => exact su_4 a1 a2 a3 a4 a5 h
  | 5 => exact su_5 a1 a2 a3 a4 a5 h
  | 6 => exact su_6 a1 a2 a3 a4 a5 h
  | 7 => exact su_7 a1 a2 a3 a4 a5 h
  | 8 => exact su_8 a1 a2 a3 a4 a5 h
  | 9 => exact su_9 a1 a2 a3 a4 a5 h
  | 10 => exact su_10 a1 a2 a3 a4 a5 h
  | 11 => exact su_11 a1 a2 a3 a4 a5 h
  | 12 => exact su_12 a1 a2 a3 a4 a5 h
  | 13 => exact su_13 a1 a2 a3 a4 a5 h
  | 14 => exact su_14 a1 a2 a3 a4 a5 h
  | 15 => exact su_15 a1 a2 a3 a4 a5 h
  | 16 => exact su_16 a1 a2 a3 a4 a5 h
  | 17 => exact su_17 a1 a2 a3 a4 a5 h
  | 18 => exact su_18 a1 a2 a3 a4 a5 h
  | 19 => exact su_19 a1 a2 a3 a4 a5 h
  | 20 => exact su_20 a1 a2 a3 a4 a5 h
  | 21 => exact su_21 a1 a2 a3 a4 a5 h
  | 22 => exact su_22 a1 a2 a3 a4 a5 h
  | 23 => exact su_23 a1 a2 a3 a4 a5 h
  | 24 => exact su_24 a1 a2 a3 a4 a5 h
  | 25 => exact su_25 a1 a2 a3 a4 a5 h
  | 26 => exact su_26 a1 a2 a3 a4 a5 h
  | k + 27 => exact ⟨σ, rfl, h⟩
/-- the law from its entry -/
theorem whole_start {p : Program} {e : Env} {s : State} {m : MethodId} {below : List Frame} {meth : Method} {c : Code} (l : Launch) {b L : Nat} {xs : Nat → Int32} (hL : L ≤ 3072) (C0 : lw_At p s m meth c b L xs) : W p l e room_1 s m #[Value.ref b] below meth c s.heap [] 0 0 (lw_Z below #[Value.ref b] s) (entryFrame m ([Value.ref b] : List Value).toArray 4) :=
  whole_gen l hL C0 (fun _ σ => J_ σ) J_0 (fun i σ h _ => stepM (xs i) (xs (i + 1)) (xs (i + 2)) (xs (i + 3)) (xs (i + 4)) (xs (i + 5)) h)
