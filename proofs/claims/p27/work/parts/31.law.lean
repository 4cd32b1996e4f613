/-- what the law's walk stands on -/
def L_x (p : Program) (s : State) (m : MethodId) (meth : Method) (c : Code) (b L : Nat) (xs : Nat → Int32) (D : va_G) (ct : Nat → ClassId) (A : Nat → Nat) : Prop := lw_At p s m meth c b L xs ∧ L ≤ 3072 ∧ FX D ct A s ∧ ∀ k, k < NC → s.heap.size ≤ A k
abbrev N_Ws (s : State) : Nat → Prop := fun q => s.heap.size ≤ q
abbrev L_W (p : Program) (l : Launch) (e : Env) (s : State) (m : MethodId) (b : Nat) (below : List Frame) (meth : Method) (c : Code) (H : Heap) (locs : List Loc) (pc : Nat) (ls : Array Slot) (st : List Value) : Prop := W p l e room_1 s m #[Value.ref b] below meth c H locs 88 30117 (lw_Z below #[Value.ref b] s) (F0 m pc ls st)
abbrev L_ls (A : Nat → Nat) (b i : Nat) : List (Nat × Value) := [(0, .ref b), (1, .ref (A 0)), (2, .ref (A 27)), (3, .int (nI i))]
theorem l_arg {p : Program} {l : Launch} {e : Env} {s : State} {m : MethodId} {below : List Frame} {meth : Method} {c : Code} {D : va_G} {ct : Nat → ClassId} {A : Nat → Nat} {b L : Nat} {xs : Nat → Int32} (C : L_x p s m meth c b L xs D ct A) {i k : Nat} (hk : i + k < L) {H : Heap} {locs : List Loc} {ls : Array Slot} {pc : Nat} {rest : List Value} {z : Int} (hz : Int32.ofInt z = nI k) (hS : va_S (N_Ws s) s.heap H locs) (hl : lv_has ls 4 (L_ls A b i)) (d0 : decode cL_law pc = .ok (.aload_n 0, 1)) (d1 : decode cL_law (pc + 1) = .ok (.iload_n 3, 1)) (d2 : decode cL_law (pc + 2) = .ok (.iconst z, 1)) (d3 : decode cL_law (pc + 3) = .ok (.iadd, 1)) (d4 : decode cL_law (pc + 4) = .ok (.iaload, 1)) (kk : L_W p l e s m b below meth c H locs (pc + 5) ls (.int (xs (i + k)) :: rest)) : L_W p l e s m b below meth c H locs pc ls rest := by
  obtain ⟨⟨hx, hb, hr, hml, hown, hts, hX, hbl, hlocks, hgv⟩, hL, hF, hA⟩ := C
  have hbA : ¬ N_Ws s b := Nat.not_le.mpr hbl
  refine lv_aload_n hx hb d0 rfl (lv_at hl 0 rfl) ?_
  refine lv_iload_n hx hb d1 rfl (lv_at hl 3 rfl) ?_
  refine lv_iconst hx hb d2 hz ?_
  refine lv_iadd hx hb d3 ?_
  rw [nI_add]
  refine va_sld hx hb hX hbl hbA hS (vp_in_nI hk (by omega)) d4 ?_
  rw [nI_clamp (by omega)]
  exact kk
theorem l_call {p : Program} {l : Launch} {e : Env} {s : State} {m : MethodId} {below : List Frame} {meth : Method} {c : Code} {D : va_G} {ct : Nat → ClassId} {A : Nat → Nat} {b L : Nat} {xs : Nat → Int32} (C : L_x p s m meth c b L xs D ct A) {idx n na d ci nf q : Nat} {Cn : String} {T0 : u_T} {N : Nat} {y : MethodName} {bb : ByteArray} {rt : Option FieldType} (ml : MLv RL idx Cn y bb n rt na) (hR : d + 1 ≤ room_1.frames ∧ 8 + (n + 11) + 37 * d ≤ room_1.locals) (hk : lay q = (0, ci, nf)) (hc : vwCl[ci]? = some (Cn, T0, N)) {st0 : List Value} (As rest : List Value) (hst : st0 = As.reverse ++ .ref (A q) :: rest) (hna : As.length = na) (hro : (rest.map fun v => v.category).sum ≤ 8) {pc : Nat} (hd : decode cL_law pc = .ok (.invokevirtual idx, 3)) {σ : Sg} {o : Option Value × Sg} (K : Con l y bb n rt d D ct A (.ref (A q) :: As) σ o) {H : Heap} {locs : List Loc} {ls : Array Slot} (hP : va_P D vwCl (wl ct A σ) H) (hS : va_S (N_Ws s) s.heap H locs) (hsz : ls.size = 4)
    (kk : ∀ (H1 : Heap) (locs1 : List Loc), va_P D vwCl (wl ct A o.2) H1 → va_S (N_Ws s) s.heap H1 locs1 → L_W p l e s m b below meth c H1 locs1 (pc + 3) ls (o.1.toList ++ rest)) : L_W p l e s m b below meth c H locs pc ls st0 := by
  obtain ⟨⟨hx, hb, hr, hml, hown, hts0, hX, hbl, hlocks, hgv⟩, hL, hF, hA⟩ := C
  have hts : ∀ w ∈ AL, w.before #[Value.ref b] s = true := fun w hw => hts0 w (List.mem_filter.mp hw).1
  have hcw : CallW room_1 s #[Value.ref b] RL Cn idx y bb n rt (Cond.code y bb n rt :: AL) (rmD d) 0 0 na := cwV na hts (good_V ml) rfl rfl rfl ml.1 hR
  have hrun := va_runV (p := p) (l := l) (e := e) (R := room_1) (below := below) (meth := meth) (locs := locs) (cells := 88) (slots := 30117) (H := H) (g := F0 m pc ls st0) (As := As) (rest := rest) (⟨hx, hb, hml, hown, hts⟩ : CallFix p m c cL_law 4 s #[Value.ref b] AL RL) K hcw ⟨pc_blind, va_recv hF.1 hP (ci := ci) (q0 := q) hc (by rw [wl_at (lay_lt hk (by omega)), ent_o hk]), fun U hU hW => ⟨rfl, by rw [hU]; exact hP, FX.go hF (fun a ha _ => hS.2.1 a ha (Nat.not_le.mpr ha)) hW hU⟩⟩ rfl hna hsz hst (lv_room hro) hd ⟨Nat.le_of_ble_eq_true rfl, Nat.le_of_ble_eq_true rfl⟩
  intro T hT X
  obtain ⟨v, st₀, t, T', L', h0, X', hL', e1, e2, ⟨⟨hv, hP1⟩, hz, hk1⟩, st⟩ := hrun T hT X
  cases hv
  rw [h0] at hz hk1
  obtain ⟨t2, a1, b1⟩ := kk T'.heap (locs ++ L') (by rw [e1]; exact hP1)
    ⟨Nat.le_trans hS.1 (by rw [e1]; exact hz), fun q h1 h2 => by rw [e1, hk1 q (Nat.lt_of_lt_of_le h1 hS.1) (fun ⟨k, hk', e'⟩ => h2 (by rw [e']; exact hA k hk'))]; exact hS.2.1 q h1 h2, fun q hq => by
      rcases List.mem_append.mp hq with h | h
      · exact hS.2.2 q h
      · obtain ⟨k, hk', e'⟩ := hL' q h
        rw [e']
        exact hA k hk'⟩ T' rfl X'
  exact ⟨t2, st t2 a1, b1⟩
theorem bnd_so {α β : Type} {f : Option (α × Sg)} {k : α → Sg → Option β} {x : β} (h : bnd f k = some x) : ∃ r s1, f = some (r, s1) ∧ k r s1 = some x := by
  cases f with
  | none => cases h
  | some q => exact ⟨q.1, q.2, rfl, h⟩
theorem chk_so {α : Type} {b : Bool} {f : Option α} {x : α} (h : chk b f = some x) : b = true ∧ f = some x := by
  cases b with
  | true => exact ⟨rfl, h⟩
  | false => cases h
theorem lcmp_rf (r : Int64) : lg_cmp r r = 0 := by simp [lg_cmp]
theorem and31_ (w : Int32) : 0 ≤ (w &&& 31).toInt ∧ (w &&& 31).toInt ≤ 31 := by
  have h : (w &&& 31).toBitVec.toNat ≤ 31 := by
    rw [Int32.toBitVec_and, BitVec.toNat_and]
    exact Nat.and_le_right
  have e : (w &&& 31).toInt = ((w &&& 31).toBitVec.toNat : Int) := by
    rw [← Int32.toInt_toBitVec]
    exact BitVec.toInt_eq_toNat_of_lt (by omega)
  omega
theorem lim6_ {L : Nat} (h : L ≤ 3072) : (Int32.ofNat L - 6).toInt = (L : Int) - 6 := by
  rw [Int32.toInt_sub, show (Int32.ofNat L).toInt = (L : Int) from nI_toInt (by omega), show (6 : Int32).toInt = 6 from rfl]
  exact Int.bmod_eq_of_le (by omega) (by omega)
def sp_0 (a1 a2 a3 a4 a5 : Int32) (σ : Sg) : Option Sg :=
  bnd (fX9_beam a1 a2 a3 σ) fun r_1 s_1 =>
  bnd (fX10_beam a1 a2 a3 s_1) fun r_2 s_2 =>
  some s_2
def sp_1 (a1 a2 a3 a4 a5 : Int32) (σ : Sg) : Option Sg :=
  bnd (fX9_thing a1 a2 σ) fun r_1 s_1 =>
  bnd (fX10_thing a1 a2 s_1) fun r_2 s_2 =>
  some s_2
def sp_2 (a1 a2 a3 a4 a5 : Int32) (σ : Sg) : Option Sg :=
  bnd (fX9_weather a1 a2 a3 σ) fun r_1 s_1 =>
  bnd (fX10_weather a1 a2 a3 s_1) fun r_2 s_2 =>
  some s_2
def sp_3 (a1 a2 a3 a4 a5 : Int32) (σ : Sg) : Option Sg :=
  bnd (fX9_feed a1 a2 a3 a4 a5 σ) fun r_1 s_1 =>
  bnd (fX10_feed a1 a2 a3 a4 a5 s_1) fun r_2 s_2 =>
  some s_2
def sp_4 (a1 a2 a3 a4 a5 : Int32) (σ : Sg) : Option Sg :=
  bnd (fX9_end a1 σ) fun r_1 s_1 =>
  bnd (fX10_end a1 s_1) fun r_2 s_2 =>
  some s_2
def sp_5 (a1 a2 a3 a4 a5 : Int32) (σ : Sg) : Option Sg :=
  bnd (fX9_text σ) fun r_1 s_1 =>
  bnd (fX10_text s_1) fun r_2 s_2 =>
  some s_2
def sp_6 (a1 a2 a3 a4 a5 : Int32) (σ : Sg) : Option Sg :=
  bnd (fX9_fault a1 σ) fun r_1 s_1 =>
  bnd (fX10_fault a1 s_1) fun r_2 s_2 =>
  some s_2
def sp_7 (a1 a2 a3 a4 a5 : Int32) (σ : Sg) : Option Sg :=
  bnd (fX9_by a1 σ) fun r_1 s_1 =>
  bnd (fX10_by a1 s_1) fun r_2 s_2 =>
  some s_2
def sp_8 (a1 a2 a3 a4 a5 : Int32) (σ : Sg) : Option Sg :=
  bnd (fX9_put a1 a2 σ) fun r_1 s_1 =>
  bnd (fX10_put a1 a2 s_1) fun r_2 s_2 =>
  some s_2
def sp_9 (a1 a2 a3 a4 a5 : Int32) (σ : Sg) : Option Sg :=
  bnd (fX9_take a1 σ) fun r_1 s_1 =>
  bnd (fX10_take a1 s_1) fun r_2 s_2 =>
  some s_2
def sp_10 (a1 a2 a3 a4 a5 : Int32) (σ : Sg) : Option Sg :=
  bnd (fX9_pass a1 σ) fun r_1 s_1 =>
  bnd (fX10_pass a1 s_1) fun r_2 s_2 =>
  some s_2
def sp_11 (a1 a2 a3 a4 a5 : Int32) (σ : Sg) : Option Sg :=
  bnd (fX9_played a1 σ) fun r_1 s_1 =>
  bnd (fX10_played a1 s_1) fun r_2 s_2 =>
  some s_2
def sp_12 (a1 a2 a3 a4 a5 : Int32) (σ : Sg) : Option Sg :=
  bnd (fX9_undo σ) fun r_1 s_1 =>
  bnd (fX10_undo s_1) fun r_2 s_2 =>
  some s_2
def sp_13 (a1 a2 a3 a4 a5 : Int32) (σ : Sg) : Option Sg :=
  bnd (fX9_of a1 a2 σ) fun r_1 s_1 =>
  bnd (fX10_of a1 a2 s_1) fun r_2 s_2 =>
  some s_2
def sp_14 (a1 a2 a3 a4 a5 : Int32) (σ : Sg) : Option Sg :=
  bnd (fX9_now a1 σ) fun r_1 s_1 =>
  bnd (fX10_now a1 s_1) fun r_2 s_2 =>
  some s_2
def sp_15 (a1 a2 a3 a4 a5 : Int32) (σ : Sg) : Option Sg :=
  bnd (fX9_loadings a1 a2 σ) fun r_1 s_1 =>
  bnd (fX10_loadings a1 a2 s_1) fun r_2 s_2 =>
  some s_2
def sp_16 (a1 a2 a3 a4 a5 : Int32) (σ : Sg) : Option Sg :=
  bnd (fX9_gentle a1 a2 a3 σ) fun r_1 s_1 =>
  bnd (fX10_gentle a1 a2 a3 s_1) fun r_2 s_2 =>
  some s_2
def sp_17 (a1 a2 a3 a4 a5 : Int32) (σ : Sg) : Option Sg :=
  bnd (fX9_reading a1 a2 σ) fun r_1 s_1 =>
  bnd (fX10_reading a1 a2 s_1) fun r_2 s_2 =>
  some s_2
def sp_18 (a1 a2 a3 a4 a5 : Int32) (σ : Sg) : Option Sg :=
  bnd (fX9_forget σ) fun r_1 s_1 =>
  bnd (fX10_forget s_1) fun r_2 s_2 =>
  some s_2
def sp_19 (a1 a2 a3 a4 a5 : Int32) (σ : Sg) : Option Sg :=
  bnd (fX9_span a1 σ) fun r_1 s_1 =>
  bnd (fX10_span a1 s_1) fun r_2 s_2 =>
  some s_2
def sp_20 (a1 a2 a3 a4 a5 : Int32) (σ : Sg) : Option Sg :=
  bnd (fX9_bent a1 a2 σ) fun r_1 s_1 =>
  bnd (fX10_bent a1 a2 s_1) fun r_2 s_2 =>
  some s_2
def sp_21 (a1 a2 a3 a4 a5 : Int32) (σ : Sg) : Option Sg :=
  bnd (fX9_balanced a1 a2 σ) fun r_1 s_1 =>
  bnd (fX10_balanced a1 a2 s_1) fun r_2 s_2 =>
  some s_2
def sp_22 (a1 a2 a3 a4 a5 : Int32) (σ : Sg) : Option Sg :=
  bnd (fX9_weights a1 a2 σ) fun r_1 s_1 =>
  bnd (fX10_weights a1 a2 s_1) fun r_2 s_2 =>
  some s_2
def sp_23 (a1 a2 a3 a4 a5 : Int32) (σ : Sg) : Option Sg :=
  bnd (fX9_rest a1 a2 a3 σ) fun r_1 s_1 =>
  bnd (fX10_rest a1 a2 a3 s_1) fun r_2 s_2 =>
  some s_2
def sp_24 (a1 a2 a3 a4 a5 : Int32) (σ : Sg) : Option Sg :=
  bnd (fX9_image σ) fun r_1 s_1 =>
  bnd (fX10_image s_1) fun r_2 s_2 =>
  some s_2
def sp_25 (a1 a2 a3 a4 a5 : Int32) (σ : Sg) : Option Sg :=
  bnd (fX9_back σ) fun r_1 s_1 =>
  bnd (fX10_back s_1) fun r_2 s_2 =>
  chk (decide (r_1 = r_2)) (some s_2)
def sp_26 (a1 a2 a3 a4 a5 : Int32) (σ : Sg) : Option Sg :=
  bnd (fX9_about a1 σ) fun r_1 s_1 =>
  bnd (fX10_about a1 s_1) fun r_2 s_2 =>
  some s_2
def stp_ (w a1 a2 a3 a4 a5 : Int32) (σ : Sg) : Option Sg := match (w &&& 31).toInt.toNat with
  | 0 => sp_0 a1 a2 a3 a4 a5 σ
  | 1 => sp_1 a1 a2 a3 a4 a5 σ
  | 2 => sp_2 a1 a2 a3 a4 a5 σ
  | 3 => sp_3 a1 a2 a3 a4 a5 σ
  | 4 => sp_4 a1 a2 a3 a4 a5 σ
  | 5 => sp_5 a1 a2 a3 a4 a5 σ
  | 6 => sp_6 a1 a2 a3 a4 a5 σ
  | 7 => sp_7 a1 a2 a3 a4 a5 σ
  | 8 => sp_8 a1 a2 a3 a4 a5 σ
  | 9 => sp_9 a1 a2 a3 a4 a5 σ
  | 10 => sp_10 a1 a2 a3 a4 a5 σ
  | 11 => sp_11 a1 a2 a3 a4 a5 σ
  | 12 => sp_12 a1 a2 a3 a4 a5 σ
  | 13 => sp_13 a1 a2 a3 a4 a5 σ
  | 14 => sp_14 a1 a2 a3 a4 a5 σ
  | 15 => sp_15 a1 a2 a3 a4 a5 σ
  | 16 => sp_16 a1 a2 a3 a4 a5 σ
  | 17 => sp_17 a1 a2 a3 a4 a5 σ
  | 18 => sp_18 a1 a2 a3 a4 a5 σ
  | 19 => sp_19 a1 a2 a3 a4 a5 σ
  | 20 => sp_20 a1 a2 a3 a4 a5 σ
  | 21 => sp_21 a1 a2 a3 a4 a5 σ
  | 22 => sp_22 a1 a2 a3 a4 a5 σ
  | 23 => sp_23 a1 a2 a3 a4 a5 σ
  | 24 => sp_24 a1 a2 a3 a4 a5 σ
  | 25 => sp_25 a1 a2 a3 a4 a5 σ
  | 26 => sp_26 a1 a2 a3 a4 a5 σ
  | _ => some σ
set_option maxHeartbeats 4000000 in
theorem lop_0 {p : Program} {l : Launch} {e : Env} {s : State} {m : MethodId} {below : List Frame} {meth : Method} {c : Code} {D : va_G} {ct : Nat → ClassId} {A : Nat → Nat} {b L : Nat} {xs : Nat → Int32} (C : L_x p s m meth c b L xs D ct A) {i : Nat} (hi : i + 6 ≤ L) {σ σ2 : Sg} (hf : sp_0 (xs (i + 1)) (xs (i + 2)) (xs (i + 3)) (xs (i + 4)) (xs (i + 5)) σ = some σ2) {H : Heap} {locs : List Loc} {ls : Array Slot} (hP : va_P D vwCl (wl ct A σ) H) (hS : va_S (N_Ws s) s.heap H locs) (hl : lv_has ls 4 (L_ls A b i)) (kk : ∀ (H1 : Heap) (locs1 : List Loc), va_P D vwCl (wl ct A σ2) H1 → va_S (N_Ws s) s.heap H1 locs1 → L_W p l e s m b below meth c H1 locs1 927 ls []) : L_W p l e s m b below meth c H locs 156 ls [] := by
  have hx := C.1.1
  have hb := C.1.2.1
  unfold sp_0 at hf
  obtain ⟨r_1, s_1, h_1, hf⟩ := bnd_so hf
  obtain ⟨r_2, s_2, h_2, hf⟩ := bnd_so hf
  cases hf
  refine lv_aload_n hx hb dL_law_156 rfl (lv_at hl 1 rfl) ?_
  refine l_arg C (i := i) (k := 1) (by omega) ci_1 hS hl dL_law_157 dL_law_158 dL_law_159 dL_law_160 dL_law_161 ?_
  refine l_arg C (i := i) (k := 2) (by omega) ci_2 hS hl dL_law_162 dL_law_163 dL_law_164 dL_law_165 dL_law_166 ?_
  refine l_arg C (i := i) (k := 3) (by omega) ci_3 hS hl dL_law_167 dL_law_168 dL_law_169 dL_law_170 dL_law_171 ?_
  refine l_call C (q := 0) (ci := 8) ml_L_13 ⟨Nat.le_of_ble_eq_true rfl, Nat.le_of_ble_eq_true rfl⟩ rfl rfl [.int (xs (i + 1)), .int (xs (i + 2)), .int (xs (i + 3))] [] rfl rfl (Nat.le_of_ble_eq_true rfl) dL_law_172 (kX9_beam l D ct A (xs (i + 1)) (xs (i + 2)) (xs (i + 3)) σ (r_1, s_1) h_1) hP hS hl.1 (fun H locs hP hS => ?_)
  refine lv_pop hx hb dL_law_175 rfl ?_
  refine lv_aload_n hx hb dL_law_176 rfl (lv_at hl 2 rfl) ?_
  refine l_arg C (i := i) (k := 1) (by omega) ci_1 hS hl dL_law_177 dL_law_178 dL_law_179 dL_law_180 dL_law_181 ?_
  refine l_arg C (i := i) (k := 2) (by omega) ci_2 hS hl dL_law_182 dL_law_183 dL_law_184 dL_law_185 dL_law_186 ?_
  refine l_arg C (i := i) (k := 3) (by omega) ci_3 hS hl dL_law_187 dL_law_188 dL_law_189 dL_law_190 dL_law_191 ?_
  refine l_call C (q := 27) (ci := 9) ml_L_17 ⟨Nat.le_of_ble_eq_true rfl, Nat.le_of_ble_eq_true rfl⟩ rfl rfl [.int (xs (i + 1)), .int (xs (i + 2)), .int (xs (i + 3))] [] rfl rfl (Nat.le_of_ble_eq_true rfl) dL_law_192 (kX10_beam l D ct A (xs (i + 1)) (xs (i + 2)) (xs (i + 3)) s_1 (r_2, σ2) h_2) hP hS hl.1 (fun H locs hP hS => ?_)
  refine lv_pop hx hb dL_law_195 rfl ?_
  refine lv_goto (tgt := 927) hx hb dL_law_196 (by decide) ?_
  exact kk H locs hP hS
set_option maxHeartbeats 4000000 in
theorem lop_1 {p : Program} {l : Launch} {e : Env} {s : State} {m : MethodId} {below : List Frame} {meth : Method} {c : Code} {D : va_G} {ct : Nat → ClassId} {A : Nat → Nat} {b L : Nat} {xs : Nat → Int32} (C : L_x p s m meth c b L xs D ct A) {i : Nat} (hi : i + 6 ≤ L) {σ σ2 : Sg} (hf : sp_1 (xs (i + 1)) (xs (i + 2)) (xs (i + 3)) (xs (i + 4)) (xs (i + 5)) σ = some σ2) {H : Heap} {locs : List Loc} {ls : Array Slot} (hP : va_P D vwCl (wl ct A σ) H) (hS : va_S (N_Ws s) s.heap H locs) (hl : lv_has ls 4 (L_ls A b i)) (kk : ∀ (H1 : Heap) (locs1 : List Loc), va_P D vwCl (wl ct A σ2) H1 → va_S (N_Ws s) s.heap H1 locs1 → L_W p l e s m b below meth c H1 locs1 927 ls []) : L_W p l e s m b below meth c H locs 199 ls [] := by
  have hx := C.1.1
  have hb := C.1.2.1
  unfold sp_1 at hf
  obtain ⟨r_1, s_1, h_1, hf⟩ := bnd_so hf
  obtain ⟨r_2, s_2, h_2, hf⟩ := bnd_so hf
  cases hf
  refine lv_aload_n hx hb dL_law_199 rfl (lv_at hl 1 rfl) ?_
  refine l_arg C (i := i) (k := 1) (by omega) ci_1 hS hl dL_law_200 dL_law_201 dL_law_202 dL_law_203 dL_law_204 ?_
  refine l_arg C (i := i) (k := 2) (by omega) ci_2 hS hl dL_law_205 dL_law_206 dL_law_207 dL_law_208 dL_law_209 ?_
  refine l_call C (q := 0) (ci := 8) ml_L_18 ⟨Nat.le_of_ble_eq_true rfl, Nat.le_of_ble_eq_true rfl⟩ rfl rfl [.int (xs (i + 1)), .int (xs (i + 2))] [] rfl rfl (Nat.le_of_ble_eq_true rfl) dL_law_210 (kX9_thing l D ct A (xs (i + 1)) (xs (i + 2)) σ (r_1, s_1) h_1) hP hS hl.1 (fun H locs hP hS => ?_)
  refine lv_pop hx hb dL_law_213 rfl ?_
  refine lv_aload_n hx hb dL_law_214 rfl (lv_at hl 2 rfl) ?_
  refine l_arg C (i := i) (k := 1) (by omega) ci_1 hS hl dL_law_215 dL_law_216 dL_law_217 dL_law_218 dL_law_219 ?_
  refine l_arg C (i := i) (k := 2) (by omega) ci_2 hS hl dL_law_220 dL_law_221 dL_law_222 dL_law_223 dL_law_224 ?_
  refine l_call C (q := 27) (ci := 9) ml_L_22 ⟨Nat.le_of_ble_eq_true rfl, Nat.le_of_ble_eq_true rfl⟩ rfl rfl [.int (xs (i + 1)), .int (xs (i + 2))] [] rfl rfl (Nat.le_of_ble_eq_true rfl) dL_law_225 (kX10_thing l D ct A (xs (i + 1)) (xs (i + 2)) s_1 (r_2, σ2) h_2) hP hS hl.1 (fun H locs hP hS => ?_)
  refine lv_pop hx hb dL_law_228 rfl ?_
  refine lv_goto (tgt := 927) hx hb dL_law_229 (by decide) ?_
  exact kk H locs hP hS
set_option maxHeartbeats 4000000 in
theorem lop_2 {p : Program} {l : Launch} {e : Env} {s : State} {m : MethodId} {below : List Frame} {meth : Method} {c : Code} {D : va_G} {ct : Nat → ClassId} {A : Nat → Nat} {b L : Nat} {xs : Nat → Int32} (C : L_x p s m meth c b L xs D ct A) {i : Nat} (hi : i + 6 ≤ L) {σ σ2 : Sg} (hf : sp_2 (xs (i + 1)) (xs (i + 2)) (xs (i + 3)) (xs (i + 4)) (xs (i + 5)) σ = some σ2) {H : Heap} {locs : List Loc} {ls : Array Slot} (hP : va_P D vwCl (wl ct A σ) H) (hS : va_S (N_Ws s) s.heap H locs) (hl : lv_has ls 4 (L_ls A b i)) (kk : ∀ (H1 : Heap) (locs1 : List Loc), va_P D vwCl (wl ct A σ2) H1 → va_S (N_Ws s) s.heap H1 locs1 → L_W p l e s m b below meth c H1 locs1 927 ls []) : L_W p l e s m b below meth c H locs 232 ls [] := by
  have hx := C.1.1
  have hb := C.1.2.1
  unfold sp_2 at hf
  obtain ⟨r_1, s_1, h_1, hf⟩ := bnd_so hf
  obtain ⟨r_2, s_2, h_2, hf⟩ := bnd_so hf
  cases hf
  refine lv_aload_n hx hb dL_law_232 rfl (lv_at hl 1 rfl) ?_
  refine l_arg C (i := i) (k := 1) (by omega) ci_1 hS hl dL_law_233 dL_law_234 dL_law_235 dL_law_236 dL_law_237 ?_
  refine l_arg C (i := i) (k := 2) (by omega) ci_2 hS hl dL_law_238 dL_law_239 dL_law_240 dL_law_241 dL_law_242 ?_
  refine l_arg C (i := i) (k := 3) (by omega) ci_3 hS hl dL_law_243 dL_law_244 dL_law_245 dL_law_246 dL_law_247 ?_
  refine l_call C (q := 0) (ci := 8) ml_L_23 ⟨Nat.le_of_ble_eq_true rfl, Nat.le_of_ble_eq_true rfl⟩ rfl rfl [.int (xs (i + 1)), .int (xs (i + 2)), .int (xs (i + 3))] [] rfl rfl (Nat.le_of_ble_eq_true rfl) dL_law_248 (kX9_weather l D ct A (xs (i + 1)) (xs (i + 2)) (xs (i + 3)) σ (r_1, s_1) h_1) hP hS hl.1 (fun H locs hP hS => ?_)
  refine lv_pop hx hb dL_law_251 rfl ?_
  refine lv_aload_n hx hb dL_law_252 rfl (lv_at hl 2 rfl) ?_
  refine l_arg C (i := i) (k := 1) (by omega) ci_1 hS hl dL_law_253 dL_law_254 dL_law_255 dL_law_256 dL_law_257 ?_
  refine l_arg C (i := i) (k := 2) (by omega) ci_2 hS hl dL_law_258 dL_law_259 dL_law_260 dL_law_261 dL_law_262 ?_
  refine l_arg C (i := i) (k := 3) (by omega) ci_3 hS hl dL_law_263 dL_law_264 dL_law_265 dL_law_266 dL_law_267 ?_
  refine l_call C (q := 27) (ci := 9) ml_L_26 ⟨Nat.le_of_ble_eq_true rfl, Nat.le_of_ble_eq_true rfl⟩ rfl rfl [.int (xs (i + 1)), .int (xs (i + 2)), .int (xs (i + 3))] [] rfl rfl (Nat.le_of_ble_eq_true rfl) dL_law_268 (kX10_weather l D ct A (xs (i + 1)) (xs (i + 2)) (xs (i + 3)) s_1 (r_2, σ2) h_2) hP hS hl.1 (fun H locs hP hS => ?_)
  refine lv_pop hx hb dL_law_271 rfl ?_
  refine lv_goto (tgt := 927) hx hb dL_law_272 (by decide) ?_
  exact kk H locs hP hS
set_option maxHeartbeats 4000000 in
theorem lop_3 {p : Program} {l : Launch} {e : Env} {s : State} {m : MethodId} {below : List Frame} {meth : Method} {c : Code} {D : va_G} {ct : Nat → ClassId} {A : Nat → Nat} {b L : Nat} {xs : Nat → Int32} (C : L_x p s m meth c b L xs D ct A) {i : Nat} (hi : i + 6 ≤ L) {σ σ2 : Sg} (hf : sp_3 (xs (i + 1)) (xs (i + 2)) (xs (i + 3)) (xs (i + 4)) (xs (i + 5)) σ = some σ2) {H : Heap} {locs : List Loc} {ls : Array Slot} (hP : va_P D vwCl (wl ct A σ) H) (hS : va_S (N_Ws s) s.heap H locs) (hl : lv_has ls 4 (L_ls A b i)) (kk : ∀ (H1 : Heap) (locs1 : List Loc), va_P D vwCl (wl ct A σ2) H1 → va_S (N_Ws s) s.heap H1 locs1 → L_W p l e s m b below meth c H1 locs1 927 ls []) : L_W p l e s m b below meth c H locs 275 ls [] := by
  have hx := C.1.1
  have hb := C.1.2.1
  unfold sp_3 at hf
  obtain ⟨r_1, s_1, h_1, hf⟩ := bnd_so hf
  obtain ⟨r_2, s_2, h_2, hf⟩ := bnd_so hf
  cases hf
  refine lv_aload_n hx hb dL_law_275 rfl (lv_at hl 1 rfl) ?_
  refine l_arg C (i := i) (k := 1) (by omega) ci_1 hS hl dL_law_276 dL_law_277 dL_law_278 dL_law_279 dL_law_280 ?_
  refine l_arg C (i := i) (k := 2) (by omega) ci_2 hS hl dL_law_281 dL_law_282 dL_law_283 dL_law_284 dL_law_285 ?_
  refine l_arg C (i := i) (k := 3) (by omega) ci_3 hS hl dL_law_286 dL_law_287 dL_law_288 dL_law_289 dL_law_290 ?_
  refine l_arg C (i := i) (k := 4) (by omega) ci_4 hS hl dL_law_291 dL_law_292 dL_law_293 dL_law_294 dL_law_295 ?_
  refine l_arg C (i := i) (k := 5) (by omega) ci_5 hS hl dL_law_296 dL_law_297 dL_law_298 dL_law_299 dL_law_300 ?_
  refine l_call C (q := 0) (ci := 8) ml_L_27 ⟨Nat.le_of_ble_eq_true rfl, Nat.le_of_ble_eq_true rfl⟩ rfl rfl [.int (xs (i + 1)), .int (xs (i + 2)), .int (xs (i + 3)), .int (xs (i + 4)), .int (xs (i + 5))] [] rfl rfl (Nat.le_of_ble_eq_true rfl) dL_law_301 (kX9_feed l D ct A (xs (i + 1)) (xs (i + 2)) (xs (i + 3)) (xs (i + 4)) (xs (i + 5)) σ (r_1, s_1) h_1) hP hS hl.1 (fun H locs hP hS => ?_)
  refine lv_pop hx hb dL_law_304 rfl ?_
  refine lv_aload_n hx hb dL_law_305 rfl (lv_at hl 2 rfl) ?_
  refine l_arg C (i := i) (k := 1) (by omega) ci_1 hS hl dL_law_306 dL_law_307 dL_law_308 dL_law_309 dL_law_310 ?_
  refine l_arg C (i := i) (k := 2) (by omega) ci_2 hS hl dL_law_311 dL_law_312 dL_law_313 dL_law_314 dL_law_315 ?_
  refine l_arg C (i := i) (k := 3) (by omega) ci_3 hS hl dL_law_316 dL_law_317 dL_law_318 dL_law_319 dL_law_320 ?_
  refine l_arg C (i := i) (k := 4) (by omega) ci_4 hS hl dL_law_321 dL_law_322 dL_law_323 dL_law_324 dL_law_325 ?_
  refine l_arg C (i := i) (k := 5) (by omega) ci_5 hS hl dL_law_326 dL_law_327 dL_law_328 dL_law_329 dL_law_330 ?_
  refine l_call C (q := 27) (ci := 9) ml_L_31 ⟨Nat.le_of_ble_eq_true rfl, Nat.le_of_ble_eq_true rfl⟩ rfl rfl [.int (xs (i + 1)), .int (xs (i + 2)), .int (xs (i + 3)), .int (xs (i + 4)), .int (xs (i + 5))] [] rfl rfl (Nat.le_of_ble_eq_true rfl) dL_law_331 (kX10_feed l D ct A (xs (i + 1)) (xs (i + 2)) (xs (i + 3)) (xs (i + 4)) (xs (i + 5)) s_1 (r_2, σ2) h_2) hP hS hl.1 (fun H locs hP hS => ?_)
  refine lv_pop hx hb dL_law_334 rfl ?_
  refine lv_goto (tgt := 927) hx hb dL_law_335 (by decide) ?_
  exact kk H locs hP hS
set_option maxHeartbeats 4000000 in
theorem lop_4 {p : Program} {l : Launch} {e : Env} {s : State} {m : MethodId} {below : List Frame} {meth : Method} {c : Code} {D : va_G} {ct : Nat → ClassId} {A : Nat → Nat} {b L : Nat} {xs : Nat → Int32} (C : L_x p s m meth c b L xs D ct A) {i : Nat} (hi : i + 6 ≤ L) {σ σ2 : Sg} (hf : sp_4 (xs (i + 1)) (xs (i + 2)) (xs (i + 3)) (xs (i + 4)) (xs (i + 5)) σ = some σ2) {H : Heap} {locs : List Loc} {ls : Array Slot} (hP : va_P D vwCl (wl ct A σ) H) (hS : va_S (N_Ws s) s.heap H locs) (hl : lv_has ls 4 (L_ls A b i)) (kk : ∀ (H1 : Heap) (locs1 : List Loc), va_P D vwCl (wl ct A σ2) H1 → va_S (N_Ws s) s.heap H1 locs1 → L_W p l e s m b below meth c H1 locs1 927 ls []) : L_W p l e s m b below meth c H locs 338 ls [] := by
  have hx := C.1.1
  have hb := C.1.2.1
  unfold sp_4 at hf
  obtain ⟨r_1, s_1, h_1, hf⟩ := bnd_so hf
  obtain ⟨r_2, s_2, h_2, hf⟩ := bnd_so hf
  cases hf
  refine lv_aload_n hx hb dL_law_338 rfl (lv_at hl 1 rfl) ?_
  refine l_arg C (i := i) (k := 1) (by omega) ci_1 hS hl dL_law_339 dL_law_340 dL_law_341 dL_law_342 dL_law_343 ?_
  refine l_call C (q := 0) (ci := 8) ml_L_32 ⟨Nat.le_of_ble_eq_true rfl, Nat.le_of_ble_eq_true rfl⟩ rfl rfl [.int (xs (i + 1))] [] rfl rfl (Nat.le_of_ble_eq_true rfl) dL_law_344 (kX9_end l D ct A (xs (i + 1)) σ (r_1, s_1) h_1) hP hS hl.1 (fun H locs hP hS => ?_)
  refine lv_pop hx hb dL_law_347 rfl ?_
  refine lv_aload_n hx hb dL_law_348 rfl (lv_at hl 2 rfl) ?_
  refine l_arg C (i := i) (k := 1) (by omega) ci_1 hS hl dL_law_349 dL_law_350 dL_law_351 dL_law_352 dL_law_353 ?_
  refine l_call C (q := 27) (ci := 9) ml_L_36 ⟨Nat.le_of_ble_eq_true rfl, Nat.le_of_ble_eq_true rfl⟩ rfl rfl [.int (xs (i + 1))] [] rfl rfl (Nat.le_of_ble_eq_true rfl) dL_law_354 (kX10_end l D ct A (xs (i + 1)) s_1 (r_2, σ2) h_2) hP hS hl.1 (fun H locs hP hS => ?_)
  refine lv_pop hx hb dL_law_357 rfl ?_
  refine lv_goto (tgt := 927) hx hb dL_law_358 (by decide) ?_
  exact kk H locs hP hS
set_option maxHeartbeats 4000000 in
theorem lop_5 {p : Program} {l : Launch} {e : Env} {s : State} {m : MethodId} {below : List Frame} {meth : Method} {c : Code} {D : va_G} {ct : Nat → ClassId} {A : Nat → Nat} {b L : Nat} {xs : Nat → Int32} (C : L_x p s m meth c b L xs D ct A) {i : Nat} (hi : i + 6 ≤ L) {σ σ2 : Sg} (hf : sp_5 (xs (i + 1)) (xs (i + 2)) (xs (i + 3)) (xs (i + 4)) (xs (i + 5)) σ = some σ2) {H : Heap} {locs : List Loc} {ls : Array Slot} (hP : va_P D vwCl (wl ct A σ) H) (hS : va_S (N_Ws s) s.heap H locs) (hl : lv_has ls 4 (L_ls A b i)) (kk : ∀ (H1 : Heap) (locs1 : List Loc), va_P D vwCl (wl ct A σ2) H1 → va_S (N_Ws s) s.heap H1 locs1 → L_W p l e s m b below meth c H1 locs1 927 ls []) : L_W p l e s m b below meth c H locs 361 ls [] := by
  have hx := C.1.1
  have hb := C.1.2.1
  unfold sp_5 at hf
  obtain ⟨r_1, s_1, h_1, hf⟩ := bnd_so hf
  obtain ⟨r_2, s_2, h_2, hf⟩ := bnd_so hf
  cases hf
  refine lv_aload_n hx hb dL_law_361 rfl (lv_at hl 1 rfl) ?_
  refine l_call C (q := 0) (ci := 8) ml_L_37 ⟨Nat.le_of_ble_eq_true rfl, Nat.le_of_ble_eq_true rfl⟩ rfl rfl [] [] rfl rfl (Nat.le_of_ble_eq_true rfl) dL_law_362 (kX9_text l D ct A σ (r_1, s_1) h_1) hP hS hl.1 (fun H locs hP hS => ?_)
  refine lv_pop hx hb dL_law_365 rfl ?_
  refine lv_aload_n hx hb dL_law_366 rfl (lv_at hl 2 rfl) ?_
  refine l_call C (q := 27) (ci := 9) ml_L_41 ⟨Nat.le_of_ble_eq_true rfl, Nat.le_of_ble_eq_true rfl⟩ rfl rfl [] [] rfl rfl (Nat.le_of_ble_eq_true rfl) dL_law_367 (kX10_text l D ct A s_1 (r_2, σ2) h_2) hP hS hl.1 (fun H locs hP hS => ?_)
  refine lv_pop hx hb dL_law_370 rfl ?_
  refine lv_goto (tgt := 927) hx hb dL_law_371 (by decide) ?_
  exact kk H locs hP hS
set_option maxHeartbeats 4000000 in
theorem lop_6 {p : Program} {l : Launch} {e : Env} {s : State} {m : MethodId} {below : List Frame} {meth : Method} {c : Code} {D : va_G} {ct : Nat → ClassId} {A : Nat → Nat} {b L : Nat} {xs : Nat → Int32} (C : L_x p s m meth c b L xs D ct A) {i : Nat} (hi : i + 6 ≤ L) {σ σ2 : Sg} (hf : sp_6 (xs (i + 1)) (xs (i + 2)) (xs (i + 3)) (xs (i + 4)) (xs (i + 5)) σ = some σ2) {H : Heap} {locs : List Loc} {ls : Array Slot} (hP : va_P D vwCl (wl ct A σ) H) (hS : va_S (N_Ws s) s.heap H locs) (hl : lv_has ls 4 (L_ls A b i)) (kk : ∀ (H1 : Heap) (locs1 : List Loc), va_P D vwCl (wl ct A σ2) H1 → va_S (N_Ws s) s.heap H1 locs1 → L_W p l e s m b below meth c H1 locs1 927 ls []) : L_W p l e s m b below meth c H locs 374 ls [] := by
  have hx := C.1.1
  have hb := C.1.2.1
  unfold sp_6 at hf
  obtain ⟨r_1, s_1, h_1, hf⟩ := bnd_so hf
  obtain ⟨r_2, s_2, h_2, hf⟩ := bnd_so hf
  cases hf
  refine lv_aload_n hx hb dL_law_374 rfl (lv_at hl 1 rfl) ?_
  refine l_arg C (i := i) (k := 1) (by omega) ci_1 hS hl dL_law_375 dL_law_376 dL_law_377 dL_law_378 dL_law_379 ?_
  refine l_call C (q := 0) (ci := 8) ml_L_42 ⟨Nat.le_of_ble_eq_true rfl, Nat.le_of_ble_eq_true rfl⟩ rfl rfl [.int (xs (i + 1))] [] rfl rfl (Nat.le_of_ble_eq_true rfl) dL_law_380 (kX9_fault l D ct A (xs (i + 1)) σ (r_1, s_1) h_1) hP hS hl.1 (fun H locs hP hS => ?_)
  refine lv_pop hx hb dL_law_383 rfl ?_
  refine lv_aload_n hx hb dL_law_384 rfl (lv_at hl 2 rfl) ?_
  refine l_arg C (i := i) (k := 1) (by omega) ci_1 hS hl dL_law_385 dL_law_386 dL_law_387 dL_law_388 dL_law_389 ?_
  refine l_call C (q := 27) (ci := 9) ml_L_45 ⟨Nat.le_of_ble_eq_true rfl, Nat.le_of_ble_eq_true rfl⟩ rfl rfl [.int (xs (i + 1))] [] rfl rfl (Nat.le_of_ble_eq_true rfl) dL_law_390 (kX10_fault l D ct A (xs (i + 1)) s_1 (r_2, σ2) h_2) hP hS hl.1 (fun H locs hP hS => ?_)
  refine lv_pop hx hb dL_law_393 rfl ?_
  refine lv_goto (tgt := 927) hx hb dL_law_394 (by decide) ?_
  exact kk H locs hP hS
set_option maxHeartbeats 4000000 in
theorem lop_7 {p : Program} {l : Launch} {e : Env} {s : State} {m : MethodId} {below : List Frame} {meth : Method} {c : Code} {D : va_G} {ct : Nat → ClassId} {A : Nat → Nat} {b L : Nat} {xs : Nat → Int32} (C : L_x p s m meth c b L xs D ct A) {i : Nat} (hi : i + 6 ≤ L) {σ σ2 : Sg} (hf : sp_7 (xs (i + 1)) (xs (i + 2)) (xs (i + 3)) (xs (i + 4)) (xs (i + 5)) σ = some σ2) {H : Heap} {locs : List Loc} {ls : Array Slot} (hP : va_P D vwCl (wl ct A σ) H) (hS : va_S (N_Ws s) s.heap H locs) (hl : lv_has ls 4 (L_ls A b i)) (kk : ∀ (H1 : Heap) (locs1 : List Loc), va_P D vwCl (wl ct A σ2) H1 → va_S (N_Ws s) s.heap H1 locs1 → L_W p l e s m b below meth c H1 locs1 927 ls []) : L_W p l e s m b below meth c H locs 397 ls [] := by
  have hx := C.1.1
  have hb := C.1.2.1
  unfold sp_7 at hf
  obtain ⟨r_1, s_1, h_1, hf⟩ := bnd_so hf
  obtain ⟨r_2, s_2, h_2, hf⟩ := bnd_so hf
  cases hf
  refine lv_aload_n hx hb dL_law_397 rfl (lv_at hl 1 rfl) ?_
  refine l_arg C (i := i) (k := 1) (by omega) ci_1 hS hl dL_law_398 dL_law_399 dL_law_400 dL_law_401 dL_law_402 ?_
  refine l_call C (q := 0) (ci := 8) ml_L_46 ⟨Nat.le_of_ble_eq_true rfl, Nat.le_of_ble_eq_true rfl⟩ rfl rfl [.int (xs (i + 1))] [] rfl rfl (Nat.le_of_ble_eq_true rfl) dL_law_403 (kX9_by l D ct A (xs (i + 1)) σ (r_1, s_1) h_1) hP hS hl.1 (fun H locs hP hS => ?_)
  refine lv_pop hx hb dL_law_406 rfl ?_
  refine lv_aload_n hx hb dL_law_407 rfl (lv_at hl 2 rfl) ?_
  refine l_arg C (i := i) (k := 1) (by omega) ci_1 hS hl dL_law_408 dL_law_409 dL_law_410 dL_law_411 dL_law_412 ?_
  refine l_call C (q := 27) (ci := 9) ml_L_50 ⟨Nat.le_of_ble_eq_true rfl, Nat.le_of_ble_eq_true rfl⟩ rfl rfl [.int (xs (i + 1))] [] rfl rfl (Nat.le_of_ble_eq_true rfl) dL_law_413 (kX10_by l D ct A (xs (i + 1)) s_1 (r_2, σ2) h_2) hP hS hl.1 (fun H locs hP hS => ?_)
  refine lv_pop hx hb dL_law_416 rfl ?_
  refine lv_goto (tgt := 927) hx hb dL_law_417 (by decide) ?_
  exact kk H locs hP hS
set_option maxHeartbeats 4000000 in
theorem lop_8 {p : Program} {l : Launch} {e : Env} {s : State} {m : MethodId} {below : List Frame} {meth : Method} {c : Code} {D : va_G} {ct : Nat → ClassId} {A : Nat → Nat} {b L : Nat} {xs : Nat → Int32} (C : L_x p s m meth c b L xs D ct A) {i : Nat} (hi : i + 6 ≤ L) {σ σ2 : Sg} (hf : sp_8 (xs (i + 1)) (xs (i + 2)) (xs (i + 3)) (xs (i + 4)) (xs (i + 5)) σ = some σ2) {H : Heap} {locs : List Loc} {ls : Array Slot} (hP : va_P D vwCl (wl ct A σ) H) (hS : va_S (N_Ws s) s.heap H locs) (hl : lv_has ls 4 (L_ls A b i)) (kk : ∀ (H1 : Heap) (locs1 : List Loc), va_P D vwCl (wl ct A σ2) H1 → va_S (N_Ws s) s.heap H1 locs1 → L_W p l e s m b below meth c H1 locs1 927 ls []) : L_W p l e s m b below meth c H locs 420 ls [] := by
  have hx := C.1.1
  have hb := C.1.2.1
  unfold sp_8 at hf
  obtain ⟨r_1, s_1, h_1, hf⟩ := bnd_so hf
  obtain ⟨r_2, s_2, h_2, hf⟩ := bnd_so hf
  cases hf
  refine lv_aload_n hx hb dL_law_420 rfl (lv_at hl 1 rfl) ?_
  refine l_arg C (i := i) (k := 1) (by omega) ci_1 hS hl dL_law_421 dL_law_422 dL_law_423 dL_law_424 dL_law_425 ?_
  refine l_arg C (i := i) (k := 2) (by omega) ci_2 hS hl dL_law_426 dL_law_427 dL_law_428 dL_law_429 dL_law_430 ?_
  refine l_call C (q := 0) (ci := 8) ml_L_51 ⟨Nat.le_of_ble_eq_true rfl, Nat.le_of_ble_eq_true rfl⟩ rfl rfl [.int (xs (i + 1)), .int (xs (i + 2))] [] rfl rfl (Nat.le_of_ble_eq_true rfl) dL_law_431 (kX9_put l D ct A (xs (i + 1)) (xs (i + 2)) σ (r_1, s_1) h_1) hP hS hl.1 (fun H locs hP hS => ?_)
  refine lv_pop hx hb dL_law_434 rfl ?_
  refine lv_aload_n hx hb dL_law_435 rfl (lv_at hl 2 rfl) ?_
  refine l_arg C (i := i) (k := 1) (by omega) ci_1 hS hl dL_law_436 dL_law_437 dL_law_438 dL_law_439 dL_law_440 ?_
  refine l_arg C (i := i) (k := 2) (by omega) ci_2 hS hl dL_law_441 dL_law_442 dL_law_443 dL_law_444 dL_law_445 ?_
  refine l_call C (q := 27) (ci := 9) ml_L_54 ⟨Nat.le_of_ble_eq_true rfl, Nat.le_of_ble_eq_true rfl⟩ rfl rfl [.int (xs (i + 1)), .int (xs (i + 2))] [] rfl rfl (Nat.le_of_ble_eq_true rfl) dL_law_446 (kX10_put l D ct A (xs (i + 1)) (xs (i + 2)) s_1 (r_2, σ2) h_2) hP hS hl.1 (fun H locs hP hS => ?_)
  refine lv_pop hx hb dL_law_449 rfl ?_
  refine lv_goto (tgt := 927) hx hb dL_law_450 (by decide) ?_
  exact kk H locs hP hS
set_option maxHeartbeats 4000000 in
theorem lop_9 {p : Program} {l : Launch} {e : Env} {s : State} {m : MethodId} {below : List Frame} {meth : Method} {c : Code} {D : va_G} {ct : Nat → ClassId} {A : Nat → Nat} {b L : Nat} {xs : Nat → Int32} (C : L_x p s m meth c b L xs D ct A) {i : Nat} (hi : i + 6 ≤ L) {σ σ2 : Sg} (hf : sp_9 (xs (i + 1)) (xs (i + 2)) (xs (i + 3)) (xs (i + 4)) (xs (i + 5)) σ = some σ2) {H : Heap} {locs : List Loc} {ls : Array Slot} (hP : va_P D vwCl (wl ct A σ) H) (hS : va_S (N_Ws s) s.heap H locs) (hl : lv_has ls 4 (L_ls A b i)) (kk : ∀ (H1 : Heap) (locs1 : List Loc), va_P D vwCl (wl ct A σ2) H1 → va_S (N_Ws s) s.heap H1 locs1 → L_W p l e s m b below meth c H1 locs1 927 ls []) : L_W p l e s m b below meth c H locs 453 ls [] := by
  have hx := C.1.1
  have hb := C.1.2.1
  unfold sp_9 at hf
  obtain ⟨r_1, s_1, h_1, hf⟩ := bnd_so hf
  obtain ⟨r_2, s_2, h_2, hf⟩ := bnd_so hf
  cases hf
  refine lv_aload_n hx hb dL_law_453 rfl (lv_at hl 1 rfl) ?_
  refine l_arg C (i := i) (k := 1) (by omega) ci_1 hS hl dL_law_454 dL_law_455 dL_law_456 dL_law_457 dL_law_458 ?_
  refine l_call C (q := 0) (ci := 8) ml_L_55 ⟨Nat.le_of_ble_eq_true rfl, Nat.le_of_ble_eq_true rfl⟩ rfl rfl [.int (xs (i + 1))] [] rfl rfl (Nat.le_of_ble_eq_true rfl) dL_law_459 (kX9_take l D ct A (xs (i + 1)) σ (r_1, s_1) h_1) hP hS hl.1 (fun H locs hP hS => ?_)
  refine lv_pop hx hb dL_law_462 rfl ?_
  refine lv_aload_n hx hb dL_law_463 rfl (lv_at hl 2 rfl) ?_
  refine l_arg C (i := i) (k := 1) (by omega) ci_1 hS hl dL_law_464 dL_law_465 dL_law_466 dL_law_467 dL_law_468 ?_
  refine l_call C (q := 27) (ci := 9) ml_L_58 ⟨Nat.le_of_ble_eq_true rfl, Nat.le_of_ble_eq_true rfl⟩ rfl rfl [.int (xs (i + 1))] [] rfl rfl (Nat.le_of_ble_eq_true rfl) dL_law_469 (kX10_take l D ct A (xs (i + 1)) s_1 (r_2, σ2) h_2) hP hS hl.1 (fun H locs hP hS => ?_)
  refine lv_pop hx hb dL_law_472 rfl ?_
  refine lv_goto (tgt := 927) hx hb dL_law_473 (by decide) ?_
  exact kk H locs hP hS
set_option maxHeartbeats 4000000 in
theorem lop_10 {p : Program} {l : Launch} {e : Env} {s : State} {m : MethodId} {below : List Frame} {meth : Method} {c : Code} {D : va_G} {ct : Nat → ClassId} {A : Nat → Nat} {b L : Nat} {xs : Nat → Int32} (C : L_x p s m meth c b L xs D ct A) {i : Nat} (hi : i + 6 ≤ L) {σ σ2 : Sg} (hf : sp_10 (xs (i + 1)) (xs (i + 2)) (xs (i + 3)) (xs (i + 4)) (xs (i + 5)) σ = some σ2) {H : Heap} {locs : List Loc} {ls : Array Slot} (hP : va_P D vwCl (wl ct A σ) H) (hS : va_S (N_Ws s) s.heap H locs) (hl : lv_has ls 4 (L_ls A b i)) (kk : ∀ (H1 : Heap) (locs1 : List Loc), va_P D vwCl (wl ct A σ2) H1 → va_S (N_Ws s) s.heap H1 locs1 → L_W p l e s m b below meth c H1 locs1 927 ls []) : L_W p l e s m b below meth c H locs 476 ls [] := by
  have hx := C.1.1
  have hb := C.1.2.1
  unfold sp_10 at hf
  obtain ⟨r_1, s_1, h_1, hf⟩ := bnd_so hf
  obtain ⟨r_2, s_2, h_2, hf⟩ := bnd_so hf
  cases hf
  refine lv_aload_n hx hb dL_law_476 rfl (lv_at hl 1 rfl) ?_
  refine l_arg C (i := i) (k := 1) (by omega) ci_1 hS hl dL_law_477 dL_law_478 dL_law_479 dL_law_480 dL_law_481 ?_
  refine l_call C (q := 0) (ci := 8) ml_L_59 ⟨Nat.le_of_ble_eq_true rfl, Nat.le_of_ble_eq_true rfl⟩ rfl rfl [.int (xs (i + 1))] [] rfl rfl (Nat.le_of_ble_eq_true rfl) dL_law_482 (kX9_pass l D ct A (xs (i + 1)) σ (r_1, s_1) h_1) hP hS hl.1 (fun H locs hP hS => ?_)
  refine lv_pop hx hb dL_law_485 rfl ?_
  refine lv_aload_n hx hb dL_law_486 rfl (lv_at hl 2 rfl) ?_
  refine l_arg C (i := i) (k := 1) (by omega) ci_1 hS hl dL_law_487 dL_law_488 dL_law_489 dL_law_490 dL_law_491 ?_
  refine l_call C (q := 27) (ci := 9) ml_L_62 ⟨Nat.le_of_ble_eq_true rfl, Nat.le_of_ble_eq_true rfl⟩ rfl rfl [.int (xs (i + 1))] [] rfl rfl (Nat.le_of_ble_eq_true rfl) dL_law_492 (kX10_pass l D ct A (xs (i + 1)) s_1 (r_2, σ2) h_2) hP hS hl.1 (fun H locs hP hS => ?_)
  refine lv_pop hx hb dL_law_495 rfl ?_
  refine lv_goto (tgt := 927) hx hb dL_law_496 (by decide) ?_
  exact kk H locs hP hS
set_option maxHeartbeats 4000000 in
theorem lop_11 {p : Program} {l : Launch} {e : Env} {s : State} {m : MethodId} {below : List Frame} {meth : Method} {c : Code} {D : va_G} {ct : Nat → ClassId} {A : Nat → Nat} {b L : Nat} {xs : Nat → Int32} (C : L_x p s m meth c b L xs D ct A) {i : Nat} (hi : i + 6 ≤ L) {σ σ2 : Sg} (hf : sp_11 (xs (i + 1)) (xs (i + 2)) (xs (i + 3)) (xs (i + 4)) (xs (i + 5)) σ = some σ2) {H : Heap} {locs : List Loc} {ls : Array Slot} (hP : va_P D vwCl (wl ct A σ) H) (hS : va_S (N_Ws s) s.heap H locs) (hl : lv_has ls 4 (L_ls A b i)) (kk : ∀ (H1 : Heap) (locs1 : List Loc), va_P D vwCl (wl ct A σ2) H1 → va_S (N_Ws s) s.heap H1 locs1 → L_W p l e s m b below meth c H1 locs1 927 ls []) : L_W p l e s m b below meth c H locs 499 ls [] := by
  have hx := C.1.1
  have hb := C.1.2.1
  unfold sp_11 at hf
  obtain ⟨r_1, s_1, h_1, hf⟩ := bnd_so hf
  obtain ⟨r_2, s_2, h_2, hf⟩ := bnd_so hf
  cases hf
  refine lv_aload_n hx hb dL_law_499 rfl (lv_at hl 1 rfl) ?_
  refine l_arg C (i := i) (k := 1) (by omega) ci_1 hS hl dL_law_500 dL_law_501 dL_law_502 dL_law_503 dL_law_504 ?_
  refine l_call C (q := 0) (ci := 8) ml_L_63 ⟨Nat.le_of_ble_eq_true rfl, Nat.le_of_ble_eq_true rfl⟩ rfl rfl [.int (xs (i + 1))] [] rfl rfl (Nat.le_of_ble_eq_true rfl) dL_law_505 (kX9_played l D ct A (xs (i + 1)) σ (r_1, s_1) h_1) hP hS hl.1 (fun H locs hP hS => ?_)
  refine lv_pop hx hb dL_law_508 rfl ?_
  refine lv_aload_n hx hb dL_law_509 rfl (lv_at hl 2 rfl) ?_
  refine l_arg C (i := i) (k := 1) (by omega) ci_1 hS hl dL_law_510 dL_law_511 dL_law_512 dL_law_513 dL_law_514 ?_
  refine l_call C (q := 27) (ci := 9) ml_L_66 ⟨Nat.le_of_ble_eq_true rfl, Nat.le_of_ble_eq_true rfl⟩ rfl rfl [.int (xs (i + 1))] [] rfl rfl (Nat.le_of_ble_eq_true rfl) dL_law_515 (kX10_played l D ct A (xs (i + 1)) s_1 (r_2, σ2) h_2) hP hS hl.1 (fun H locs hP hS => ?_)
  refine lv_pop hx hb dL_law_518 rfl ?_
  refine lv_goto (tgt := 927) hx hb dL_law_519 (by decide) ?_
  exact kk H locs hP hS
set_option maxHeartbeats 4000000 in
theorem lop_12 {p : Program} {l : Launch} {e : Env} {s : State} {m : MethodId} {below : List Frame} {meth : Method} {c : Code} {D : va_G} {ct : Nat → ClassId} {A : Nat → Nat} {b L : Nat} {xs : Nat → Int32} (C : L_x p s m meth c b L xs D ct A) {i : Nat} (hi : i + 6 ≤ L) {σ σ2 : Sg} (hf : sp_12 (xs (i + 1)) (xs (i + 2)) (xs (i + 3)) (xs (i + 4)) (xs (i + 5)) σ = some σ2) {H : Heap} {locs : List Loc} {ls : Array Slot} (hP : va_P D vwCl (wl ct A σ) H) (hS : va_S (N_Ws s) s.heap H locs) (hl : lv_has ls 4 (L_ls A b i)) (kk : ∀ (H1 : Heap) (locs1 : List Loc), va_P D vwCl (wl ct A σ2) H1 → va_S (N_Ws s) s.heap H1 locs1 → L_W p l e s m b below meth c H1 locs1 927 ls []) : L_W p l e s m b below meth c H locs 522 ls [] := by
  have hx := C.1.1
  have hb := C.1.2.1
  unfold sp_12 at hf
  obtain ⟨r_1, s_1, h_1, hf⟩ := bnd_so hf
  obtain ⟨r_2, s_2, h_2, hf⟩ := bnd_so hf
  cases hf
  refine lv_aload_n hx hb dL_law_522 rfl (lv_at hl 1 rfl) ?_
  refine l_call C (q := 0) (ci := 8) ml_L_67 ⟨Nat.le_of_ble_eq_true rfl, Nat.le_of_ble_eq_true rfl⟩ rfl rfl [] [] rfl rfl (Nat.le_of_ble_eq_true rfl) dL_law_523 (kX9_undo l D ct A σ (r_1, s_1) h_1) hP hS hl.1 (fun H locs hP hS => ?_)
  refine lv_pop hx hb dL_law_526 rfl ?_
  refine lv_aload_n hx hb dL_law_527 rfl (lv_at hl 2 rfl) ?_
  refine l_call C (q := 27) (ci := 9) ml_L_70 ⟨Nat.le_of_ble_eq_true rfl, Nat.le_of_ble_eq_true rfl⟩ rfl rfl [] [] rfl rfl (Nat.le_of_ble_eq_true rfl) dL_law_528 (kX10_undo l D ct A s_1 (r_2, σ2) h_2) hP hS hl.1 (fun H locs hP hS => ?_)
  refine lv_pop hx hb dL_law_531 rfl ?_
  refine lv_goto (tgt := 927) hx hb dL_law_532 (by decide) ?_
  exact kk H locs hP hS
set_option maxHeartbeats 4000000 in
theorem lop_13 {p : Program} {l : Launch} {e : Env} {s : State} {m : MethodId} {below : List Frame} {meth : Method} {c : Code} {D : va_G} {ct : Nat → ClassId} {A : Nat → Nat} {b L : Nat} {xs : Nat → Int32} (C : L_x p s m meth c b L xs D ct A) {i : Nat} (hi : i + 6 ≤ L) {σ σ2 : Sg} (hf : sp_13 (xs (i + 1)) (xs (i + 2)) (xs (i + 3)) (xs (i + 4)) (xs (i + 5)) σ = some σ2) {H : Heap} {locs : List Loc} {ls : Array Slot} (hP : va_P D vwCl (wl ct A σ) H) (hS : va_S (N_Ws s) s.heap H locs) (hl : lv_has ls 4 (L_ls A b i)) (kk : ∀ (H1 : Heap) (locs1 : List Loc), va_P D vwCl (wl ct A σ2) H1 → va_S (N_Ws s) s.heap H1 locs1 → L_W p l e s m b below meth c H1 locs1 927 ls []) : L_W p l e s m b below meth c H locs 535 ls [] := by
  have hx := C.1.1
  have hb := C.1.2.1
  unfold sp_13 at hf
  obtain ⟨r_1, s_1, h_1, hf⟩ := bnd_so hf
  obtain ⟨r_2, s_2, h_2, hf⟩ := bnd_so hf
  cases hf
  refine lv_aload_n hx hb dL_law_535 rfl (lv_at hl 1 rfl) ?_
  refine l_arg C (i := i) (k := 1) (by omega) ci_1 hS hl dL_law_536 dL_law_537 dL_law_538 dL_law_539 dL_law_540 ?_
  refine l_arg C (i := i) (k := 2) (by omega) ci_2 hS hl dL_law_541 dL_law_542 dL_law_543 dL_law_544 dL_law_545 ?_
  refine l_call C (q := 0) (ci := 8) ml_L_71 ⟨Nat.le_of_ble_eq_true rfl, Nat.le_of_ble_eq_true rfl⟩ rfl rfl [.int (xs (i + 1)), .int (xs (i + 2))] [] rfl rfl (Nat.le_of_ble_eq_true rfl) dL_law_546 (kX9_of l D ct A (xs (i + 1)) (xs (i + 2)) σ (r_1, s_1) h_1) hP hS hl.1 (fun H locs hP hS => ?_)
  refine lv_pop hx hb dL_law_549 rfl ?_
  refine lv_aload_n hx hb dL_law_550 rfl (lv_at hl 2 rfl) ?_
  refine l_arg C (i := i) (k := 1) (by omega) ci_1 hS hl dL_law_551 dL_law_552 dL_law_553 dL_law_554 dL_law_555 ?_
  refine l_arg C (i := i) (k := 2) (by omega) ci_2 hS hl dL_law_556 dL_law_557 dL_law_558 dL_law_559 dL_law_560 ?_
  refine l_call C (q := 27) (ci := 9) ml_L_74 ⟨Nat.le_of_ble_eq_true rfl, Nat.le_of_ble_eq_true rfl⟩ rfl rfl [.int (xs (i + 1)), .int (xs (i + 2))] [] rfl rfl (Nat.le_of_ble_eq_true rfl) dL_law_561 (kX10_of l D ct A (xs (i + 1)) (xs (i + 2)) s_1 (r_2, σ2) h_2) hP hS hl.1 (fun H locs hP hS => ?_)
  refine lv_pop hx hb dL_law_564 rfl ?_
  refine lv_goto (tgt := 927) hx hb dL_law_565 (by decide) ?_
  exact kk H locs hP hS
set_option maxHeartbeats 4000000 in
theorem lop_14 {p : Program} {l : Launch} {e : Env} {s : State} {m : MethodId} {below : List Frame} {meth : Method} {c : Code} {D : va_G} {ct : Nat → ClassId} {A : Nat → Nat} {b L : Nat} {xs : Nat → Int32} (C : L_x p s m meth c b L xs D ct A) {i : Nat} (hi : i + 6 ≤ L) {σ σ2 : Sg} (hf : sp_14 (xs (i + 1)) (xs (i + 2)) (xs (i + 3)) (xs (i + 4)) (xs (i + 5)) σ = some σ2) {H : Heap} {locs : List Loc} {ls : Array Slot} (hP : va_P D vwCl (wl ct A σ) H) (hS : va_S (N_Ws s) s.heap H locs) (hl : lv_has ls 4 (L_ls A b i)) (kk : ∀ (H1 : Heap) (locs1 : List Loc), va_P D vwCl (wl ct A σ2) H1 → va_S (N_Ws s) s.heap H1 locs1 → L_W p l e s m b below meth c H1 locs1 927 ls []) : L_W p l e s m b below meth c H locs 568 ls [] := by
  have hx := C.1.1
  have hb := C.1.2.1
  unfold sp_14 at hf
  obtain ⟨r_1, s_1, h_1, hf⟩ := bnd_so hf
  obtain ⟨r_2, s_2, h_2, hf⟩ := bnd_so hf
  cases hf
  refine lv_aload_n hx hb dL_law_568 rfl (lv_at hl 1 rfl) ?_
  refine l_arg C (i := i) (k := 1) (by omega) ci_1 hS hl dL_law_569 dL_law_570 dL_law_571 dL_law_572 dL_law_573 ?_
  refine l_call C (q := 0) (ci := 8) ml_L_75 ⟨Nat.le_of_ble_eq_true rfl, Nat.le_of_ble_eq_true rfl⟩ rfl rfl [.int (xs (i + 1))] [] rfl rfl (Nat.le_of_ble_eq_true rfl) dL_law_574 (kX9_now l D ct A (xs (i + 1)) σ (r_1, s_1) h_1) hP hS hl.1 (fun H locs hP hS => ?_)
  refine lv_pop hx hb dL_law_577 rfl ?_
  refine lv_aload_n hx hb dL_law_578 rfl (lv_at hl 2 rfl) ?_
  refine l_arg C (i := i) (k := 1) (by omega) ci_1 hS hl dL_law_579 dL_law_580 dL_law_581 dL_law_582 dL_law_583 ?_
  refine l_call C (q := 27) (ci := 9) ml_L_78 ⟨Nat.le_of_ble_eq_true rfl, Nat.le_of_ble_eq_true rfl⟩ rfl rfl [.int (xs (i + 1))] [] rfl rfl (Nat.le_of_ble_eq_true rfl) dL_law_584 (kX10_now l D ct A (xs (i + 1)) s_1 (r_2, σ2) h_2) hP hS hl.1 (fun H locs hP hS => ?_)
  refine lv_pop hx hb dL_law_587 rfl ?_
  refine lv_goto (tgt := 927) hx hb dL_law_588 (by decide) ?_
  exact kk H locs hP hS
set_option maxHeartbeats 4000000 in
theorem lop_15 {p : Program} {l : Launch} {e : Env} {s : State} {m : MethodId} {below : List Frame} {meth : Method} {c : Code} {D : va_G} {ct : Nat → ClassId} {A : Nat → Nat} {b L : Nat} {xs : Nat → Int32} (C : L_x p s m meth c b L xs D ct A) {i : Nat} (hi : i + 6 ≤ L) {σ σ2 : Sg} (hf : sp_15 (xs (i + 1)) (xs (i + 2)) (xs (i + 3)) (xs (i + 4)) (xs (i + 5)) σ = some σ2) {H : Heap} {locs : List Loc} {ls : Array Slot} (hP : va_P D vwCl (wl ct A σ) H) (hS : va_S (N_Ws s) s.heap H locs) (hl : lv_has ls 4 (L_ls A b i)) (kk : ∀ (H1 : Heap) (locs1 : List Loc), va_P D vwCl (wl ct A σ2) H1 → va_S (N_Ws s) s.heap H1 locs1 → L_W p l e s m b below meth c H1 locs1 927 ls []) : L_W p l e s m b below meth c H locs 591 ls [] := by
  have hx := C.1.1
  have hb := C.1.2.1
  unfold sp_15 at hf
  obtain ⟨r_1, s_1, h_1, hf⟩ := bnd_so hf
  obtain ⟨r_2, s_2, h_2, hf⟩ := bnd_so hf
  cases hf
  refine lv_aload_n hx hb dL_law_591 rfl (lv_at hl 1 rfl) ?_
  refine l_arg C (i := i) (k := 1) (by omega) ci_1 hS hl dL_law_592 dL_law_593 dL_law_594 dL_law_595 dL_law_596 ?_
  refine l_arg C (i := i) (k := 2) (by omega) ci_2 hS hl dL_law_597 dL_law_598 dL_law_599 dL_law_600 dL_law_601 ?_
  refine l_call C (q := 0) (ci := 8) ml_L_79 ⟨Nat.le_of_ble_eq_true rfl, Nat.le_of_ble_eq_true rfl⟩ rfl rfl [.int (xs (i + 1)), .int (xs (i + 2))] [] rfl rfl (Nat.le_of_ble_eq_true rfl) dL_law_602 (kX9_loadings l D ct A (xs (i + 1)) (xs (i + 2)) σ (r_1, s_1) h_1) hP hS hl.1 (fun H locs hP hS => ?_)
  refine lv_pop2_ hx hb dL_law_605 rfl ?_
  refine lv_aload_n hx hb dL_law_606 rfl (lv_at hl 2 rfl) ?_
  refine l_arg C (i := i) (k := 1) (by omega) ci_1 hS hl dL_law_607 dL_law_608 dL_law_609 dL_law_610 dL_law_611 ?_
  refine l_arg C (i := i) (k := 2) (by omega) ci_2 hS hl dL_law_612 dL_law_613 dL_law_614 dL_law_615 dL_law_616 ?_
  refine l_call C (q := 27) (ci := 9) ml_L_83 ⟨Nat.le_of_ble_eq_true rfl, Nat.le_of_ble_eq_true rfl⟩ rfl rfl [.int (xs (i + 1)), .int (xs (i + 2))] [] rfl rfl (Nat.le_of_ble_eq_true rfl) dL_law_617 (kX10_loadings l D ct A (xs (i + 1)) (xs (i + 2)) s_1 (r_2, σ2) h_2) hP hS hl.1 (fun H locs hP hS => ?_)
  refine lv_pop2_ hx hb dL_law_620 rfl ?_
  refine lv_goto (tgt := 927) hx hb dL_law_621 (by decide) ?_
  exact kk H locs hP hS
set_option maxHeartbeats 4000000 in
theorem lop_16 {p : Program} {l : Launch} {e : Env} {s : State} {m : MethodId} {below : List Frame} {meth : Method} {c : Code} {D : va_G} {ct : Nat → ClassId} {A : Nat → Nat} {b L : Nat} {xs : Nat → Int32} (C : L_x p s m meth c b L xs D ct A) {i : Nat} (hi : i + 6 ≤ L) {σ σ2 : Sg} (hf : sp_16 (xs (i + 1)) (xs (i + 2)) (xs (i + 3)) (xs (i + 4)) (xs (i + 5)) σ = some σ2) {H : Heap} {locs : List Loc} {ls : Array Slot} (hP : va_P D vwCl (wl ct A σ) H) (hS : va_S (N_Ws s) s.heap H locs) (hl : lv_has ls 4 (L_ls A b i)) (kk : ∀ (H1 : Heap) (locs1 : List Loc), va_P D vwCl (wl ct A σ2) H1 → va_S (N_Ws s) s.heap H1 locs1 → L_W p l e s m b below meth c H1 locs1 927 ls []) : L_W p l e s m b below meth c H locs 624 ls [] := by
  have hx := C.1.1
  have hb := C.1.2.1
  unfold sp_16 at hf
  obtain ⟨r_1, s_1, h_1, hf⟩ := bnd_so hf
  obtain ⟨r_2, s_2, h_2, hf⟩ := bnd_so hf
  cases hf
  refine lv_aload_n hx hb dL_law_624 rfl (lv_at hl 1 rfl) ?_
  refine l_arg C (i := i) (k := 1) (by omega) ci_1 hS hl dL_law_625 dL_law_626 dL_law_627 dL_law_628 dL_law_629 ?_
  refine l_arg C (i := i) (k := 2) (by omega) ci_2 hS hl dL_law_630 dL_law_631 dL_law_632 dL_law_633 dL_law_634 ?_
  refine l_arg C (i := i) (k := 3) (by omega) ci_3 hS hl dL_law_635 dL_law_636 dL_law_637 dL_law_638 dL_law_639 ?_
  refine l_call C (q := 0) (ci := 8) ml_L_84 ⟨Nat.le_of_ble_eq_true rfl, Nat.le_of_ble_eq_true rfl⟩ rfl rfl [.int (xs (i + 1)), .int (xs (i + 2)), .int (xs (i + 3))] [] rfl rfl (Nat.le_of_ble_eq_true rfl) dL_law_640 (kX9_gentle l D ct A (xs (i + 1)) (xs (i + 2)) (xs (i + 3)) σ (r_1, s_1) h_1) hP hS hl.1 (fun H locs hP hS => ?_)
  refine lv_pop hx hb dL_law_643 rfl ?_
  refine lv_aload_n hx hb dL_law_644 rfl (lv_at hl 2 rfl) ?_
  refine l_arg C (i := i) (k := 1) (by omega) ci_1 hS hl dL_law_645 dL_law_646 dL_law_647 dL_law_648 dL_law_649 ?_
  refine l_arg C (i := i) (k := 2) (by omega) ci_2 hS hl dL_law_650 dL_law_651 dL_law_652 dL_law_653 dL_law_654 ?_
  refine l_arg C (i := i) (k := 3) (by omega) ci_3 hS hl dL_law_655 dL_law_656 dL_law_657 dL_law_658 dL_law_659 ?_
  refine l_call C (q := 27) (ci := 9) ml_L_88 ⟨Nat.le_of_ble_eq_true rfl, Nat.le_of_ble_eq_true rfl⟩ rfl rfl [.int (xs (i + 1)), .int (xs (i + 2)), .int (xs (i + 3))] [] rfl rfl (Nat.le_of_ble_eq_true rfl) dL_law_660 (kX10_gentle l D ct A (xs (i + 1)) (xs (i + 2)) (xs (i + 3)) s_1 (r_2, σ2) h_2) hP hS hl.1 (fun H locs hP hS => ?_)
  refine lv_pop hx hb dL_law_663 rfl ?_
  refine lv_goto (tgt := 927) hx hb dL_law_664 (by decide) ?_
  exact kk H locs hP hS
set_option maxHeartbeats 4000000 in
theorem lop_17 {p : Program} {l : Launch} {e : Env} {s : State} {m : MethodId} {below : List Frame} {meth : Method} {c : Code} {D : va_G} {ct : Nat → ClassId} {A : Nat → Nat} {b L : Nat} {xs : Nat → Int32} (C : L_x p s m meth c b L xs D ct A) {i : Nat} (hi : i + 6 ≤ L) {σ σ2 : Sg} (hf : sp_17 (xs (i + 1)) (xs (i + 2)) (xs (i + 3)) (xs (i + 4)) (xs (i + 5)) σ = some σ2) {H : Heap} {locs : List Loc} {ls : Array Slot} (hP : va_P D vwCl (wl ct A σ) H) (hS : va_S (N_Ws s) s.heap H locs) (hl : lv_has ls 4 (L_ls A b i)) (kk : ∀ (H1 : Heap) (locs1 : List Loc), va_P D vwCl (wl ct A σ2) H1 → va_S (N_Ws s) s.heap H1 locs1 → L_W p l e s m b below meth c H1 locs1 927 ls []) : L_W p l e s m b below meth c H locs 667 ls [] := by
  have hx := C.1.1
  have hb := C.1.2.1
  unfold sp_17 at hf
  obtain ⟨r_1, s_1, h_1, hf⟩ := bnd_so hf
  obtain ⟨r_2, s_2, h_2, hf⟩ := bnd_so hf
  cases hf
  refine lv_aload_n hx hb dL_law_667 rfl (lv_at hl 1 rfl) ?_
  refine l_arg C (i := i) (k := 1) (by omega) ci_1 hS hl dL_law_668 dL_law_669 dL_law_670 dL_law_671 dL_law_672 ?_
  refine l_arg C (i := i) (k := 2) (by omega) ci_2 hS hl dL_law_673 dL_law_674 dL_law_675 dL_law_676 dL_law_677 ?_
  refine l_call C (q := 0) (ci := 8) ml_L_89 ⟨Nat.le_of_ble_eq_true rfl, Nat.le_of_ble_eq_true rfl⟩ rfl rfl [.int (xs (i + 1)), .int (xs (i + 2))] [] rfl rfl (Nat.le_of_ble_eq_true rfl) dL_law_678 (kX9_reading l D ct A (xs (i + 1)) (xs (i + 2)) σ (r_1, s_1) h_1) hP hS hl.1 (fun H locs hP hS => ?_)
  refine lv_pop hx hb dL_law_681 rfl ?_
  refine lv_aload_n hx hb dL_law_682 rfl (lv_at hl 2 rfl) ?_
  refine l_arg C (i := i) (k := 1) (by omega) ci_1 hS hl dL_law_683 dL_law_684 dL_law_685 dL_law_686 dL_law_687 ?_
  refine l_arg C (i := i) (k := 2) (by omega) ci_2 hS hl dL_law_688 dL_law_689 dL_law_690 dL_law_691 dL_law_692 ?_
  refine l_call C (q := 27) (ci := 9) ml_L_92 ⟨Nat.le_of_ble_eq_true rfl, Nat.le_of_ble_eq_true rfl⟩ rfl rfl [.int (xs (i + 1)), .int (xs (i + 2))] [] rfl rfl (Nat.le_of_ble_eq_true rfl) dL_law_693 (kX10_reading l D ct A (xs (i + 1)) (xs (i + 2)) s_1 (r_2, σ2) h_2) hP hS hl.1 (fun H locs hP hS => ?_)
  refine lv_pop hx hb dL_law_696 rfl ?_
  refine lv_goto (tgt := 927) hx hb dL_law_697 (by decide) ?_
  exact kk H locs hP hS
set_option maxHeartbeats 4000000 in
theorem lop_18 {p : Program} {l : Launch} {e : Env} {s : State} {m : MethodId} {below : List Frame} {meth : Method} {c : Code} {D : va_G} {ct : Nat → ClassId} {A : Nat → Nat} {b L : Nat} {xs : Nat → Int32} (C : L_x p s m meth c b L xs D ct A) {i : Nat} (hi : i + 6 ≤ L) {σ σ2 : Sg} (hf : sp_18 (xs (i + 1)) (xs (i + 2)) (xs (i + 3)) (xs (i + 4)) (xs (i + 5)) σ = some σ2) {H : Heap} {locs : List Loc} {ls : Array Slot} (hP : va_P D vwCl (wl ct A σ) H) (hS : va_S (N_Ws s) s.heap H locs) (hl : lv_has ls 4 (L_ls A b i)) (kk : ∀ (H1 : Heap) (locs1 : List Loc), va_P D vwCl (wl ct A σ2) H1 → va_S (N_Ws s) s.heap H1 locs1 → L_W p l e s m b below meth c H1 locs1 927 ls []) : L_W p l e s m b below meth c H locs 700 ls [] := by
  have hx := C.1.1
  have hb := C.1.2.1
  unfold sp_18 at hf
  obtain ⟨r_1, s_1, h_1, hf⟩ := bnd_so hf
  obtain ⟨r_2, s_2, h_2, hf⟩ := bnd_so hf
  cases hf
  refine lv_aload_n hx hb dL_law_700 rfl (lv_at hl 1 rfl) ?_
  refine l_call C (q := 0) (ci := 8) ml_L_93 ⟨Nat.le_of_ble_eq_true rfl, Nat.le_of_ble_eq_true rfl⟩ rfl rfl [] [] rfl rfl (Nat.le_of_ble_eq_true rfl) dL_law_701 (kX9_forget l D ct A σ (r_1, s_1) h_1) hP hS hl.1 (fun H locs hP hS => ?_)
  refine lv_pop hx hb dL_law_704 rfl ?_
  refine lv_aload_n hx hb dL_law_705 rfl (lv_at hl 2 rfl) ?_
  refine l_call C (q := 27) (ci := 9) ml_L_96 ⟨Nat.le_of_ble_eq_true rfl, Nat.le_of_ble_eq_true rfl⟩ rfl rfl [] [] rfl rfl (Nat.le_of_ble_eq_true rfl) dL_law_706 (kX10_forget l D ct A s_1 (r_2, σ2) h_2) hP hS hl.1 (fun H locs hP hS => ?_)
  refine lv_pop hx hb dL_law_709 rfl ?_
  refine lv_goto (tgt := 927) hx hb dL_law_710 (by decide) ?_
  exact kk H locs hP hS
set_option maxHeartbeats 4000000 in
theorem lop_19 {p : Program} {l : Launch} {e : Env} {s : State} {m : MethodId} {below : List Frame} {meth : Method} {c : Code} {D : va_G} {ct : Nat → ClassId} {A : Nat → Nat} {b L : Nat} {xs : Nat → Int32} (C : L_x p s m meth c b L xs D ct A) {i : Nat} (hi : i + 6 ≤ L) {σ σ2 : Sg} (hf : sp_19 (xs (i + 1)) (xs (i + 2)) (xs (i + 3)) (xs (i + 4)) (xs (i + 5)) σ = some σ2) {H : Heap} {locs : List Loc} {ls : Array Slot} (hP : va_P D vwCl (wl ct A σ) H) (hS : va_S (N_Ws s) s.heap H locs) (hl : lv_has ls 4 (L_ls A b i)) (kk : ∀ (H1 : Heap) (locs1 : List Loc), va_P D vwCl (wl ct A σ2) H1 → va_S (N_Ws s) s.heap H1 locs1 → L_W p l e s m b below meth c H1 locs1 927 ls []) : L_W p l e s m b below meth c H locs 713 ls [] := by
  have hx := C.1.1
  have hb := C.1.2.1
  unfold sp_19 at hf
  obtain ⟨r_1, s_1, h_1, hf⟩ := bnd_so hf
  obtain ⟨r_2, s_2, h_2, hf⟩ := bnd_so hf
  cases hf
  refine lv_aload_n hx hb dL_law_713 rfl (lv_at hl 1 rfl) ?_
  refine l_arg C (i := i) (k := 1) (by omega) ci_1 hS hl dL_law_714 dL_law_715 dL_law_716 dL_law_717 dL_law_718 ?_
  refine l_call C (q := 0) (ci := 8) ml_L_97 ⟨Nat.le_of_ble_eq_true rfl, Nat.le_of_ble_eq_true rfl⟩ rfl rfl [.int (xs (i + 1))] [] rfl rfl (Nat.le_of_ble_eq_true rfl) dL_law_719 (kX9_span l D ct A (xs (i + 1)) σ (r_1, s_1) h_1) hP hS hl.1 (fun H locs hP hS => ?_)
  refine lv_pop hx hb dL_law_722 rfl ?_
  refine lv_aload_n hx hb dL_law_723 rfl (lv_at hl 2 rfl) ?_
  refine l_arg C (i := i) (k := 1) (by omega) ci_1 hS hl dL_law_724 dL_law_725 dL_law_726 dL_law_727 dL_law_728 ?_
  refine l_call C (q := 27) (ci := 9) ml_L_100 ⟨Nat.le_of_ble_eq_true rfl, Nat.le_of_ble_eq_true rfl⟩ rfl rfl [.int (xs (i + 1))] [] rfl rfl (Nat.le_of_ble_eq_true rfl) dL_law_729 (kX10_span l D ct A (xs (i + 1)) s_1 (r_2, σ2) h_2) hP hS hl.1 (fun H locs hP hS => ?_)
  refine lv_pop hx hb dL_law_732 rfl ?_
  refine lv_goto (tgt := 927) hx hb dL_law_733 (by decide) ?_
  exact kk H locs hP hS
set_option maxHeartbeats 4000000 in
theorem lop_20 {p : Program} {l : Launch} {e : Env} {s : State} {m : MethodId} {below : List Frame} {meth : Method} {c : Code} {D : va_G} {ct : Nat → ClassId} {A : Nat → Nat} {b L : Nat} {xs : Nat → Int32} (C : L_x p s m meth c b L xs D ct A) {i : Nat} (hi : i + 6 ≤ L) {σ σ2 : Sg} (hf : sp_20 (xs (i + 1)) (xs (i + 2)) (xs (i + 3)) (xs (i + 4)) (xs (i + 5)) σ = some σ2) {H : Heap} {locs : List Loc} {ls : Array Slot} (hP : va_P D vwCl (wl ct A σ) H) (hS : va_S (N_Ws s) s.heap H locs) (hl : lv_has ls 4 (L_ls A b i)) (kk : ∀ (H1 : Heap) (locs1 : List Loc), va_P D vwCl (wl ct A σ2) H1 → va_S (N_Ws s) s.heap H1 locs1 → L_W p l e s m b below meth c H1 locs1 927 ls []) : L_W p l e s m b below meth c H locs 736 ls [] := by
  have hx := C.1.1
  have hb := C.1.2.1
  unfold sp_20 at hf
  obtain ⟨r_1, s_1, h_1, hf⟩ := bnd_so hf
  obtain ⟨r_2, s_2, h_2, hf⟩ := bnd_so hf
  cases hf
  refine lv_aload_n hx hb dL_law_736 rfl (lv_at hl 1 rfl) ?_
  refine l_arg C (i := i) (k := 1) (by omega) ci_1 hS hl dL_law_737 dL_law_738 dL_law_739 dL_law_740 dL_law_741 ?_
  refine l_arg C (i := i) (k := 2) (by omega) ci_2 hS hl dL_law_742 dL_law_743 dL_law_744 dL_law_745 dL_law_746 ?_
  refine l_call C (q := 0) (ci := 8) ml_L_101 ⟨Nat.le_of_ble_eq_true rfl, Nat.le_of_ble_eq_true rfl⟩ rfl rfl [.int (xs (i + 1)), .int (xs (i + 2))] [] rfl rfl (Nat.le_of_ble_eq_true rfl) dL_law_747 (kX9_bent l D ct A (xs (i + 1)) (xs (i + 2)) σ (r_1, s_1) h_1) hP hS hl.1 (fun H locs hP hS => ?_)
  refine lv_pop hx hb dL_law_750 rfl ?_
  refine lv_aload_n hx hb dL_law_751 rfl (lv_at hl 2 rfl) ?_
  refine l_arg C (i := i) (k := 1) (by omega) ci_1 hS hl dL_law_752 dL_law_753 dL_law_754 dL_law_755 dL_law_756 ?_
  refine l_arg C (i := i) (k := 2) (by omega) ci_2 hS hl dL_law_757 dL_law_758 dL_law_759 dL_law_760 dL_law_761 ?_
  refine l_call C (q := 27) (ci := 9) ml_L_104 ⟨Nat.le_of_ble_eq_true rfl, Nat.le_of_ble_eq_true rfl⟩ rfl rfl [.int (xs (i + 1)), .int (xs (i + 2))] [] rfl rfl (Nat.le_of_ble_eq_true rfl) dL_law_762 (kX10_bent l D ct A (xs (i + 1)) (xs (i + 2)) s_1 (r_2, σ2) h_2) hP hS hl.1 (fun H locs hP hS => ?_)
  refine lv_pop hx hb dL_law_765 rfl ?_
  refine lv_goto (tgt := 927) hx hb dL_law_766 (by decide) ?_
  exact kk H locs hP hS
set_option maxHeartbeats 4000000 in
theorem lop_21 {p : Program} {l : Launch} {e : Env} {s : State} {m : MethodId} {below : List Frame} {meth : Method} {c : Code} {D : va_G} {ct : Nat → ClassId} {A : Nat → Nat} {b L : Nat} {xs : Nat → Int32} (C : L_x p s m meth c b L xs D ct A) {i : Nat} (hi : i + 6 ≤ L) {σ σ2 : Sg} (hf : sp_21 (xs (i + 1)) (xs (i + 2)) (xs (i + 3)) (xs (i + 4)) (xs (i + 5)) σ = some σ2) {H : Heap} {locs : List Loc} {ls : Array Slot} (hP : va_P D vwCl (wl ct A σ) H) (hS : va_S (N_Ws s) s.heap H locs) (hl : lv_has ls 4 (L_ls A b i)) (kk : ∀ (H1 : Heap) (locs1 : List Loc), va_P D vwCl (wl ct A σ2) H1 → va_S (N_Ws s) s.heap H1 locs1 → L_W p l e s m b below meth c H1 locs1 927 ls []) : L_W p l e s m b below meth c H locs 769 ls [] := by
  have hx := C.1.1
  have hb := C.1.2.1
  unfold sp_21 at hf
  obtain ⟨r_1, s_1, h_1, hf⟩ := bnd_so hf
  obtain ⟨r_2, s_2, h_2, hf⟩ := bnd_so hf
  cases hf
  refine lv_aload_n hx hb dL_law_769 rfl (lv_at hl 1 rfl) ?_
  refine l_arg C (i := i) (k := 1) (by omega) ci_1 hS hl dL_law_770 dL_law_771 dL_law_772 dL_law_773 dL_law_774 ?_
  refine l_arg C (i := i) (k := 2) (by omega) ci_2 hS hl dL_law_775 dL_law_776 dL_law_777 dL_law_778 dL_law_779 ?_
  refine l_call C (q := 0) (ci := 8) ml_L_105 ⟨Nat.le_of_ble_eq_true rfl, Nat.le_of_ble_eq_true rfl⟩ rfl rfl [.int (xs (i + 1)), .int (xs (i + 2))] [] rfl rfl (Nat.le_of_ble_eq_true rfl) dL_law_780 (kX9_balanced l D ct A (xs (i + 1)) (xs (i + 2)) σ (r_1, s_1) h_1) hP hS hl.1 (fun H locs hP hS => ?_)
  refine lv_pop hx hb dL_law_783 rfl ?_
  refine lv_aload_n hx hb dL_law_784 rfl (lv_at hl 2 rfl) ?_
  refine l_arg C (i := i) (k := 1) (by omega) ci_1 hS hl dL_law_785 dL_law_786 dL_law_787 dL_law_788 dL_law_789 ?_
  refine l_arg C (i := i) (k := 2) (by omega) ci_2 hS hl dL_law_790 dL_law_791 dL_law_792 dL_law_793 dL_law_794 ?_
  refine l_call C (q := 27) (ci := 9) ml_L_108 ⟨Nat.le_of_ble_eq_true rfl, Nat.le_of_ble_eq_true rfl⟩ rfl rfl [.int (xs (i + 1)), .int (xs (i + 2))] [] rfl rfl (Nat.le_of_ble_eq_true rfl) dL_law_795 (kX10_balanced l D ct A (xs (i + 1)) (xs (i + 2)) s_1 (r_2, σ2) h_2) hP hS hl.1 (fun H locs hP hS => ?_)
  refine lv_pop hx hb dL_law_798 rfl ?_
  refine lv_goto (tgt := 927) hx hb dL_law_799 (by decide) ?_
  exact kk H locs hP hS
set_option maxHeartbeats 4000000 in
theorem lop_22 {p : Program} {l : Launch} {e : Env} {s : State} {m : MethodId} {below : List Frame} {meth : Method} {c : Code} {D : va_G} {ct : Nat → ClassId} {A : Nat → Nat} {b L : Nat} {xs : Nat → Int32} (C : L_x p s m meth c b L xs D ct A) {i : Nat} (hi : i + 6 ≤ L) {σ σ2 : Sg} (hf : sp_22 (xs (i + 1)) (xs (i + 2)) (xs (i + 3)) (xs (i + 4)) (xs (i + 5)) σ = some σ2) {H : Heap} {locs : List Loc} {ls : Array Slot} (hP : va_P D vwCl (wl ct A σ) H) (hS : va_S (N_Ws s) s.heap H locs) (hl : lv_has ls 4 (L_ls A b i)) (kk : ∀ (H1 : Heap) (locs1 : List Loc), va_P D vwCl (wl ct A σ2) H1 → va_S (N_Ws s) s.heap H1 locs1 → L_W p l e s m b below meth c H1 locs1 927 ls []) : L_W p l e s m b below meth c H locs 802 ls [] := by
  have hx := C.1.1
  have hb := C.1.2.1
  unfold sp_22 at hf
  obtain ⟨r_1, s_1, h_1, hf⟩ := bnd_so hf
  obtain ⟨r_2, s_2, h_2, hf⟩ := bnd_so hf
  cases hf
  refine lv_aload_n hx hb dL_law_802 rfl (lv_at hl 1 rfl) ?_
  refine l_arg C (i := i) (k := 1) (by omega) ci_1 hS hl dL_law_803 dL_law_804 dL_law_805 dL_law_806 dL_law_807 ?_
  refine l_arg C (i := i) (k := 2) (by omega) ci_2 hS hl dL_law_808 dL_law_809 dL_law_810 dL_law_811 dL_law_812 ?_
  refine l_call C (q := 0) (ci := 8) ml_L_109 ⟨Nat.le_of_ble_eq_true rfl, Nat.le_of_ble_eq_true rfl⟩ rfl rfl [.int (xs (i + 1)), .int (xs (i + 2))] [] rfl rfl (Nat.le_of_ble_eq_true rfl) dL_law_813 (kX9_weights l D ct A (xs (i + 1)) (xs (i + 2)) σ (r_1, s_1) h_1) hP hS hl.1 (fun H locs hP hS => ?_)
  refine lv_pop hx hb dL_law_816 rfl ?_
  refine lv_aload_n hx hb dL_law_817 rfl (lv_at hl 2 rfl) ?_
  refine l_arg C (i := i) (k := 1) (by omega) ci_1 hS hl dL_law_818 dL_law_819 dL_law_820 dL_law_821 dL_law_822 ?_
  refine l_arg C (i := i) (k := 2) (by omega) ci_2 hS hl dL_law_823 dL_law_824 dL_law_825 dL_law_826 dL_law_827 ?_
  refine l_call C (q := 27) (ci := 9) ml_L_112 ⟨Nat.le_of_ble_eq_true rfl, Nat.le_of_ble_eq_true rfl⟩ rfl rfl [.int (xs (i + 1)), .int (xs (i + 2))] [] rfl rfl (Nat.le_of_ble_eq_true rfl) dL_law_828 (kX10_weights l D ct A (xs (i + 1)) (xs (i + 2)) s_1 (r_2, σ2) h_2) hP hS hl.1 (fun H locs hP hS => ?_)
  refine lv_pop hx hb dL_law_831 rfl ?_
  refine lv_goto (tgt := 927) hx hb dL_law_832 (by decide) ?_
  exact kk H locs hP hS
set_option maxHeartbeats 4000000 in
theorem lop_23 {p : Program} {l : Launch} {e : Env} {s : State} {m : MethodId} {below : List Frame} {meth : Method} {c : Code} {D : va_G} {ct : Nat → ClassId} {A : Nat → Nat} {b L : Nat} {xs : Nat → Int32} (C : L_x p s m meth c b L xs D ct A) {i : Nat} (hi : i + 6 ≤ L) {σ σ2 : Sg} (hf : sp_23 (xs (i + 1)) (xs (i + 2)) (xs (i + 3)) (xs (i + 4)) (xs (i + 5)) σ = some σ2) {H : Heap} {locs : List Loc} {ls : Array Slot} (hP : va_P D vwCl (wl ct A σ) H) (hS : va_S (N_Ws s) s.heap H locs) (hl : lv_has ls 4 (L_ls A b i)) (kk : ∀ (H1 : Heap) (locs1 : List Loc), va_P D vwCl (wl ct A σ2) H1 → va_S (N_Ws s) s.heap H1 locs1 → L_W p l e s m b below meth c H1 locs1 927 ls []) : L_W p l e s m b below meth c H locs 835 ls [] := by
  have hx := C.1.1
  have hb := C.1.2.1
  unfold sp_23 at hf
  obtain ⟨r_1, s_1, h_1, hf⟩ := bnd_so hf
  obtain ⟨r_2, s_2, h_2, hf⟩ := bnd_so hf
  cases hf
  refine lv_aload_n hx hb dL_law_835 rfl (lv_at hl 1 rfl) ?_
  refine l_arg C (i := i) (k := 1) (by omega) ci_1 hS hl dL_law_836 dL_law_837 dL_law_838 dL_law_839 dL_law_840 ?_
  refine l_arg C (i := i) (k := 2) (by omega) ci_2 hS hl dL_law_841 dL_law_842 dL_law_843 dL_law_844 dL_law_845 ?_
  refine l_arg C (i := i) (k := 3) (by omega) ci_3 hS hl dL_law_846 dL_law_847 dL_law_848 dL_law_849 dL_law_850 ?_
  refine l_call C (q := 0) (ci := 8) ml_L_113 ⟨Nat.le_of_ble_eq_true rfl, Nat.le_of_ble_eq_true rfl⟩ rfl rfl [.int (xs (i + 1)), .int (xs (i + 2)), .int (xs (i + 3))] [] rfl rfl (Nat.le_of_ble_eq_true rfl) dL_law_851 (kX9_rest l D ct A (xs (i + 1)) (xs (i + 2)) (xs (i + 3)) σ (r_1, s_1) h_1) hP hS hl.1 (fun H locs hP hS => ?_)
  refine lv_pop hx hb dL_law_854 rfl ?_
  refine lv_aload_n hx hb dL_law_855 rfl (lv_at hl 2 rfl) ?_
  refine l_arg C (i := i) (k := 1) (by omega) ci_1 hS hl dL_law_856 dL_law_857 dL_law_858 dL_law_859 dL_law_860 ?_
  refine l_arg C (i := i) (k := 2) (by omega) ci_2 hS hl dL_law_861 dL_law_862 dL_law_863 dL_law_864 dL_law_865 ?_
  refine l_arg C (i := i) (k := 3) (by omega) ci_3 hS hl dL_law_866 dL_law_867 dL_law_868 dL_law_869 dL_law_870 ?_
  refine l_call C (q := 27) (ci := 9) ml_L_116 ⟨Nat.le_of_ble_eq_true rfl, Nat.le_of_ble_eq_true rfl⟩ rfl rfl [.int (xs (i + 1)), .int (xs (i + 2)), .int (xs (i + 3))] [] rfl rfl (Nat.le_of_ble_eq_true rfl) dL_law_871 (kX10_rest l D ct A (xs (i + 1)) (xs (i + 2)) (xs (i + 3)) s_1 (r_2, σ2) h_2) hP hS hl.1 (fun H locs hP hS => ?_)
  refine lv_pop hx hb dL_law_874 rfl ?_
  refine lv_goto (tgt := 927) hx hb dL_law_875 (by decide) ?_
  exact kk H locs hP hS
set_option maxHeartbeats 4000000 in
theorem lop_24 {p : Program} {l : Launch} {e : Env} {s : State} {m : MethodId} {below : List Frame} {meth : Method} {c : Code} {D : va_G} {ct : Nat → ClassId} {A : Nat → Nat} {b L : Nat} {xs : Nat → Int32} (C : L_x p s m meth c b L xs D ct A) {i : Nat} (hi : i + 6 ≤ L) {σ σ2 : Sg} (hf : sp_24 (xs (i + 1)) (xs (i + 2)) (xs (i + 3)) (xs (i + 4)) (xs (i + 5)) σ = some σ2) {H : Heap} {locs : List Loc} {ls : Array Slot} (hP : va_P D vwCl (wl ct A σ) H) (hS : va_S (N_Ws s) s.heap H locs) (hl : lv_has ls 4 (L_ls A b i)) (kk : ∀ (H1 : Heap) (locs1 : List Loc), va_P D vwCl (wl ct A σ2) H1 → va_S (N_Ws s) s.heap H1 locs1 → L_W p l e s m b below meth c H1 locs1 927 ls []) : L_W p l e s m b below meth c H locs 878 ls [] := by
  have hx := C.1.1
  have hb := C.1.2.1
  unfold sp_24 at hf
  obtain ⟨r_1, s_1, h_1, hf⟩ := bnd_so hf
  obtain ⟨r_2, s_2, h_2, hf⟩ := bnd_so hf
  cases hf
  refine lv_aload_n hx hb dL_law_878 rfl (lv_at hl 1 rfl) ?_
  refine l_call C (q := 0) (ci := 8) ml_L_117 ⟨Nat.le_of_ble_eq_true rfl, Nat.le_of_ble_eq_true rfl⟩ rfl rfl [] [] rfl rfl (Nat.le_of_ble_eq_true rfl) dL_law_879 (kX9_image l D ct A σ (r_1, s_1) h_1) hP hS hl.1 (fun H locs hP hS => ?_)
  refine lv_pop hx hb dL_law_882 rfl ?_
  refine lv_aload_n hx hb dL_law_883 rfl (lv_at hl 2 rfl) ?_
  refine l_call C (q := 27) (ci := 9) ml_L_120 ⟨Nat.le_of_ble_eq_true rfl, Nat.le_of_ble_eq_true rfl⟩ rfl rfl [] [] rfl rfl (Nat.le_of_ble_eq_true rfl) dL_law_884 (kX10_image l D ct A s_1 (r_2, σ2) h_2) hP hS hl.1 (fun H locs hP hS => ?_)
  refine lv_pop hx hb dL_law_887 rfl ?_
  refine lv_goto (tgt := 927) hx hb dL_law_888 (by decide) ?_
  exact kk H locs hP hS
set_option maxHeartbeats 4000000 in
theorem lop_25 {p : Program} {l : Launch} {e : Env} {s : State} {m : MethodId} {below : List Frame} {meth : Method} {c : Code} {D : va_G} {ct : Nat → ClassId} {A : Nat → Nat} {b L : Nat} {xs : Nat → Int32} (C : L_x p s m meth c b L xs D ct A) {i : Nat} (hi : i + 6 ≤ L) {σ σ2 : Sg} (hf : sp_25 (xs (i + 1)) (xs (i + 2)) (xs (i + 3)) (xs (i + 4)) (xs (i + 5)) σ = some σ2) {H : Heap} {locs : List Loc} {ls : Array Slot} (hP : va_P D vwCl (wl ct A σ) H) (hS : va_S (N_Ws s) s.heap H locs) (hl : lv_has ls 4 (L_ls A b i)) (kk : ∀ (H1 : Heap) (locs1 : List Loc), va_P D vwCl (wl ct A σ2) H1 → va_S (N_Ws s) s.heap H1 locs1 → L_W p l e s m b below meth c H1 locs1 927 ls []) : L_W p l e s m b below meth c H locs 891 ls [] := by
  have hx := C.1.1
  have hb := C.1.2.1
  unfold sp_25 at hf
  obtain ⟨r_1, s_1, h_1, hf⟩ := bnd_so hf
  obtain ⟨r_2, s_2, h_2, hf⟩ := bnd_so hf
  obtain ⟨hr, hf⟩ := chk_so hf
  have hr := of_decide_eq_true hr
  cases hf
  subst hr
  refine lv_aload_n hx hb dL_law_891 rfl (lv_at hl 1 rfl) ?_
  refine l_call C (q := 0) (ci := 8) ml_L_121 ⟨Nat.le_of_ble_eq_true rfl, Nat.le_of_ble_eq_true rfl⟩ rfl rfl [] [] rfl rfl (Nat.le_of_ble_eq_true rfl) dL_law_892 (kX9_back l D ct A σ (r_1, s_1) h_1) hP hS hl.1 (fun H locs hP hS => ?_)
  refine lv_aload_n hx hb dL_law_895 rfl (lv_at hl 2 rfl) ?_
  refine l_call C (q := 27) (ci := 9) ml_L_124 ⟨Nat.le_of_ble_eq_true rfl, Nat.le_of_ble_eq_true rfl⟩ rfl rfl [] [.int r_1] rfl rfl (Nat.le_of_ble_eq_true rfl) dL_law_896 (kX10_back l D ct A s_1 (r_1, σ2) h_2) hP hS hl.1 (fun H locs hP hS => ?_)
  refine lv_icmp_eq (tgt := 927) hx hb dL_law_899 (by decide) (fun _ => ?_) (fun h => absurd rfl h)
  exact kk H locs hP hS
set_option maxHeartbeats 4000000 in
theorem lop_26 {p : Program} {l : Launch} {e : Env} {s : State} {m : MethodId} {below : List Frame} {meth : Method} {c : Code} {D : va_G} {ct : Nat → ClassId} {A : Nat → Nat} {b L : Nat} {xs : Nat → Int32} (C : L_x p s m meth c b L xs D ct A) {i : Nat} (hi : i + 6 ≤ L) {σ σ2 : Sg} (hf : sp_26 (xs (i + 1)) (xs (i + 2)) (xs (i + 3)) (xs (i + 4)) (xs (i + 5)) σ = some σ2) {H : Heap} {locs : List Loc} {ls : Array Slot} (hP : va_P D vwCl (wl ct A σ) H) (hS : va_S (N_Ws s) s.heap H locs) (hl : lv_has ls 4 (L_ls A b i)) (kk : ∀ (H1 : Heap) (locs1 : List Loc), va_P D vwCl (wl ct A σ2) H1 → va_S (N_Ws s) s.heap H1 locs1 → L_W p l e s m b below meth c H1 locs1 927 ls []) : L_W p l e s m b below meth c H locs 904 ls [] := by
  have hx := C.1.1
  have hb := C.1.2.1
  unfold sp_26 at hf
  obtain ⟨r_1, s_1, h_1, hf⟩ := bnd_so hf
  obtain ⟨r_2, s_2, h_2, hf⟩ := bnd_so hf
  cases hf
  refine lv_aload_n hx hb dL_law_904 rfl (lv_at hl 1 rfl) ?_
  refine l_arg C (i := i) (k := 1) (by omega) ci_1 hS hl dL_law_905 dL_law_906 dL_law_907 dL_law_908 dL_law_909 ?_
  refine l_call C (q := 0) (ci := 8) ml_L_125 ⟨Nat.le_of_ble_eq_true rfl, Nat.le_of_ble_eq_true rfl⟩ rfl rfl [.int (xs (i + 1))] [] rfl rfl (Nat.le_of_ble_eq_true rfl) dL_law_910 (kX9_about l D ct A (xs (i + 1)) σ (r_1, s_1) h_1) hP hS hl.1 (fun H locs hP hS => ?_)
  refine lv_pop hx hb dL_law_913 rfl ?_
  refine lv_aload_n hx hb dL_law_914 rfl (lv_at hl 2 rfl) ?_
  refine l_arg C (i := i) (k := 1) (by omega) ci_1 hS hl dL_law_915 dL_law_916 dL_law_917 dL_law_918 dL_law_919 ?_
  refine l_call C (q := 27) (ci := 9) ml_L_128 ⟨Nat.le_of_ble_eq_true rfl, Nat.le_of_ble_eq_true rfl⟩ rfl rfl [.int (xs (i + 1))] [] rfl rfl (Nat.le_of_ble_eq_true rfl) dL_law_920 (kX10_about l D ct A (xs (i + 1)) s_1 (r_2, σ2) h_2) hP hS hl.1 (fun H locs hP hS => ?_)
  refine lv_pop hx hb dL_law_923 rfl ?_
  refine lv_goto (tgt := 927) hx hb dL_law_924 (by decide) ?_
  exact kk H locs hP hS
set_option maxHeartbeats 4000000 in
theorem law_loop {p : Program} {l : Launch} {e : Env} {s : State} {m : MethodId} {below : List Frame} {meth : Method} {c : Code} {D : va_G} {ct : Nat → ClassId} {A : Nat → Nat} {b L : Nat} {xs : Nat → Int32} (C : L_x p s m meth c b L xs D ct A) (I : Nat → Sg → Prop) (hI : ∀ (i : Nat) (σ : Sg), I i σ → i + 6 ≤ L → ∃ σ2, stp_ (xs i) (xs (i + 1)) (xs (i + 2)) (xs (i + 3)) (xs (i + 4)) (xs (i + 5)) σ = some σ2 ∧ I (i + 6) σ2) :
    ∀ (n i : Nat) (σ : Sg), I i σ → i ≤ L → L + 1 ≤ i + n → ∀ (H : Heap) (locs : List Loc) (ls : Array Slot), va_P D vwCl (wl ct A σ) H → va_S (N_Ws s) s.heap H locs → lv_has ls 4 (L_ls A b i) → L_W p l e s m b below meth c H locs 18 ls [] := by
  obtain ⟨⟨hx, hb, hr, hml, hown, hts, hX, hbl, hlocks, hgv⟩, hL, hF, hA⟩ := id C
  have hbA : ¬ N_Ws s b := Nat.not_le.mpr hbl
  intro n
  induction n with
  | zero =>
    intro i σ _ h1 h2
    exact absurd h2 (by omega)
  | succ n ih =>
    intro i σ hi h1 h2 H locs ls hP hS hl
    refine lv_iload_n hx hb dL_law_18 rfl (lv_at hl 3 rfl) ?_
    refine lv_aload_n hx hb dL_law_19 rfl (lv_at hl 0 rfl) ?_
    refine va_slen hx hb hX hbl hbA hS dL_law_20 ?_
    refine lv_bipush hx hb dL_law_21 cb_6 ?_
    refine lv_isub hx hb dL_law_23 ?_
    refine lv_icmp_gt (tgt := 933) hx hb dL_law_24 (by decide) (fun c_ => ?_) (fun c_ => ?_)
    · refine lv_iconst hx hb dL_law_933 ci_1 ?_
      refine va_forget (fun q hq => hS.2.2 q hq) ?_
      refine W.widen (k := 600000) (n := 7302250) (Nat.le_of_ble_eq_true rfl) (Nat.le_of_ble_eq_true rfl) ?_
      exact lw_ret hx hb hr hlocks dL_law_934
    · have hlt : i + 6 ≤ L := by
        rw [Int32.lt_iff_toInt_lt, lim6_ hL, nI_toInt (by omega)] at c_
        omega
      obtain ⟨σ2, hs2, hi2⟩ := hI i σ hi hlt
      have fin : ∀ (H1 : Heap) (locs1 : List Loc), va_P D vwCl (wl ct A σ2) H1 → va_S (N_Ws s) s.heap H1 locs1 → L_W p l e s m b below meth c H1 locs1 927 ls [] := by
        intro H1 locs1 hP1 hS1
        refine lv_iinc (v := nI (i + 6)) (k := 3) (lv' := [(3, .int (nI (i + 6))), (0, .ref b), (1, .ref (A 0)), (2, .ref (A 27))]) hx hb dL_law_927 hl rfl (nI_add i 6) (by decide) rfl (fun ls hl => ?_)
        refine lv_goto (tgt := 18) hx hb dL_law_930 (by decide) ?_
        exact ih (i + 6) σ2 hi2 hlt (by omega) H1 locs1 ls hP1 hS1 (lv_sub hl [1, 2, 3, 0] rfl)
      refine lv_aload_n hx hb dL_law_27 rfl (lv_at hl 0 rfl) ?_
      refine lv_iload_n hx hb dL_law_28 rfl (lv_at hl 3 rfl) ?_
      refine va_sld hx hb hX hbl hbA hS (vp_in_nI (by omega) (by omega)) dL_law_29 ?_
      rw [nI_clamp (by omega)]
      refine lv_bipush hx hb dL_law_30 cb_31 ?_
      refine lv_iand hx hb dL_law_32 ?_
      obtain ⟨g1, g2⟩ := and31_ (xs i)
      unfold stp_ at hs2
      obtain ⟨k, hk⟩ : ∃ k : Nat, (xs i &&& 31).toInt = k := ⟨(xs i &&& 31).toInt.toNat, by omega⟩
      rw [hk] at g2 hs2
      match k, hk, hs2 with
      | 0, hk, hs2 => exact lv_tableIn (off := 123) (tgt := 156) hx hb dL_law_33 (by rw [hk]; decide) (by rw [hk]; decide) (by rw [hk]; rfl) (by decide) (lop_0 C hlt hs2 hP hS hl fin)
      | 1, hk, hs2 => exact lv_tableIn (off := 166) (tgt := 199) hx hb dL_law_33 (by rw [hk]; decide) (by rw [hk]; decide) (by rw [hk]; rfl) (by decide) (lop_1 C hlt hs2 hP hS hl fin)
      | 2, hk, hs2 => exact lv_tableIn (off := 199) (tgt := 232) hx hb dL_law_33 (by rw [hk]; decide) (by rw [hk]; decide) (by rw [hk]; rfl) (by decide) (lop_2 C hlt hs2 hP hS hl fin)
      | 3, hk, hs2 => exact lv_tableIn (off := 242) (tgt := 275) hx hb dL_law_33 (by rw [hk]; decide) (by rw [hk]; decide) (by rw [hk]; rfl) (by decide) (lop_3 C hlt hs2 hP hS hl fin)
      | 4, hk, hs2 => exact lv_tableIn (off := 305) (tgt := 338) hx hb dL_law_33 (by rw [hk]; decide) (by rw [hk]; decide) (by rw [hk]; rfl) (by decide) (lop_4 C hlt hs2 hP hS hl fin)
      | 5, hk, hs2 => exact lv_tableIn (off := 328) (tgt := 361) hx hb dL_law_33 (by rw [hk]; decide) (by rw [hk]; decide) (by rw [hk]; rfl) (by decide) (lop_5 C hlt hs2 hP hS hl fin)
      | 6, hk, hs2 => exact lv_tableIn (off := 341) (tgt := 374) hx hb dL_law_33 (by rw [hk]; decide) (by rw [hk]; decide) (by rw [hk]; rfl) (by decide) (lop_6 C hlt hs2 hP hS hl fin)
      | 7, hk, hs2 => exact lv_tableIn (off := 364) (tgt := 397) hx hb dL_law_33 (by rw [hk]; decide) (by rw [hk]; decide) (by rw [hk]; rfl) (by decide) (lop_7 C hlt hs2 hP hS hl fin)
      | 8, hk, hs2 => exact lv_tableIn (off := 387) (tgt := 420) hx hb dL_law_33 (by rw [hk]; decide) (by rw [hk]; decide) (by rw [hk]; rfl) (by decide) (lop_8 C hlt hs2 hP hS hl fin)
      | 9, hk, hs2 => exact lv_tableIn (off := 420) (tgt := 453) hx hb dL_law_33 (by rw [hk]; decide) (by rw [hk]; decide) (by rw [hk]; rfl) (by decide) (lop_9 C hlt hs2 hP hS hl fin)
      | 10, hk, hs2 => exact lv_tableIn (off := 443) (tgt := 476) hx hb dL_law_33 (by rw [hk]; decide) (by rw [hk]; decide) (by rw [hk]; rfl) (by decide) (lop_10 C hlt hs2 hP hS hl fin)
      | 11, hk, hs2 => exact lv_tableIn (off := 466) (tgt := 499) hx hb dL_law_33 (by rw [hk]; decide) (by rw [hk]; decide) (by rw [hk]; rfl) (by decide) (lop_11 C hlt hs2 hP hS hl fin)
      | 12, hk, hs2 => exact lv_tableIn (off := 489) (tgt := 522) hx hb dL_law_33 (by rw [hk]; decide) (by rw [hk]; decide) (by rw [hk]; rfl) (by decide) (lop_12 C hlt hs2 hP hS hl fin)
      | 13, hk, hs2 => exact lv_tableIn (off := 502) (tgt := 535) hx hb dL_law_33 (by rw [hk]; decide) (by rw [hk]; decide) (by rw [hk]; rfl) (by decide) (lop_13 C hlt hs2 hP hS hl fin)
      | 14, hk, hs2 => exact lv_tableIn (off := 535) (tgt := 568) hx hb dL_law_33 (by rw [hk]; decide) (by rw [hk]; decide) (by rw [hk]; rfl) (by decide) (lop_14 C hlt hs2 hP hS hl fin)
      | 15, hk, hs2 => exact lv_tableIn (off := 558) (tgt := 591) hx hb dL_law_33 (by rw [hk]; decide) (by rw [hk]; decide) (by rw [hk]; rfl) (by decide) (lop_15 C hlt hs2 hP hS hl fin)
      | 16, hk, hs2 => exact lv_tableIn (off := 591) (tgt := 624) hx hb dL_law_33 (by rw [hk]; decide) (by rw [hk]; decide) (by rw [hk]; rfl) (by decide) (lop_16 C hlt hs2 hP hS hl fin)
      | 17, hk, hs2 => exact lv_tableIn (off := 634) (tgt := 667) hx hb dL_law_33 (by rw [hk]; decide) (by rw [hk]; decide) (by rw [hk]; rfl) (by decide) (lop_17 C hlt hs2 hP hS hl fin)
      | 18, hk, hs2 => exact lv_tableIn (off := 667) (tgt := 700) hx hb dL_law_33 (by rw [hk]; decide) (by rw [hk]; decide) (by rw [hk]; rfl) (by decide) (lop_18 C hlt hs2 hP hS hl fin)
      | 19, hk, hs2 => exact lv_tableIn (off := 680) (tgt := 713) hx hb dL_law_33 (by rw [hk]; decide) (by rw [hk]; decide) (by rw [hk]; rfl) (by decide) (lop_19 C hlt hs2 hP hS hl fin)
      | 20, hk, hs2 => exact lv_tableIn (off := 703) (tgt := 736) hx hb dL_law_33 (by rw [hk]; decide) (by rw [hk]; decide) (by rw [hk]; rfl) (by decide) (lop_20 C hlt hs2 hP hS hl fin)
      | 21, hk, hs2 => exact lv_tableIn (off := 736) (tgt := 769) hx hb dL_law_33 (by rw [hk]; decide) (by rw [hk]; decide) (by rw [hk]; rfl) (by decide) (lop_21 C hlt hs2 hP hS hl fin)
      | 22, hk, hs2 => exact lv_tableIn (off := 769) (tgt := 802) hx hb dL_law_33 (by rw [hk]; decide) (by rw [hk]; decide) (by rw [hk]; rfl) (by decide) (lop_22 C hlt hs2 hP hS hl fin)
      | 23, hk, hs2 => exact lv_tableIn (off := 802) (tgt := 835) hx hb dL_law_33 (by rw [hk]; decide) (by rw [hk]; decide) (by rw [hk]; rfl) (by decide) (lop_23 C hlt hs2 hP hS hl fin)
      | 24, hk, hs2 => exact lv_tableIn (off := 845) (tgt := 878) hx hb dL_law_33 (by rw [hk]; decide) (by rw [hk]; decide) (by rw [hk]; rfl) (by decide) (lop_24 C hlt hs2 hP hS hl fin)
      | 25, hk, hs2 => exact lv_tableIn (off := 858) (tgt := 891) hx hb dL_law_33 (by rw [hk]; decide) (by rw [hk]; decide) (by rw [hk]; rfl) (by decide) (lop_25 C hlt hs2 hP hS hl fin)
      | 26, hk, hs2 => exact lv_tableIn (off := 871) (tgt := 904) hx hb dL_law_33 (by rw [hk]; decide) (by rw [hk]; decide) (by rw [hk]; rfl) (by decide) (lop_26 C hlt hs2 hP hS hl fin)
      | k + 27, hk, hs2 =>
        cases hs2
        exact lv_tableOut (tgt := 927) hx hb dL_law_33 (Or.inr (by rw [hk]; omega)) (by decide) (fin H locs hP hS)
