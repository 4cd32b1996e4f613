section START
theorem con_start {l : Launch} {y : MethodName} {b : ByteArray} {n : Nat} {ret : Option FieldType} {d : Nat} {D : va_G} {ct : Nat → ClassId} {A : Nat → Nat} {av : List Value} {σ : Sg} {T : Type} {emb : T → Option Value × Sg} {f : Option T} {out : T} (hy : plainName y.cls = true) (hlen : (lg_sl av).length ≤ n) (hf : f = some out)
    (body : ∀ (p : Program) (e : Env) (s : State) (m : MethodId) (args : Array Value) (below : List Frame) (meth : Method) (c : Code), Cx p m c b n s args y.cls meth ret D ct A → Wm p l e (rmD d) s m args below meth c D ct A n emb 0 (lv_args 0 av) [] σ f) : Con l y b n ret d D ct A av σ (emb out) := by
  refine Met.ofW (cc := b) (maxL := n) (ret := ret) hy rfl ?_
  intro p e s m args below meth c s₁ B hml hv
  obtain ⟨rfl, hP, hX⟩ := hv
  have hts := atoms_spec (ws := Cond.code y b n ret :: AL) B.pre
  have hown : s.vm.findClass y.cls = some m.cls := findClass_of_methodNamed B.named
  have C : Cx p m c b n s av.toArray y.cls meth ret D ct A := ⟨⟨B.exec, B.bytes, hml, hown, fun w hw => hts w (List.mem_cons_of_mem _ hw)⟩, B.returns, B.notSynchronized, hX⟩
  rw [lg_entry_eq]
  exact body p e s m _ below meth c C out hf s.heap [] _ hP va_S.rf (lv_entry av hlen)
end START
/-- a virtual call of a class's own method -/
def MLv (own : String) (idx : Nat) (Cn : String) (y : MethodName) (b : ByteArray) (n : Nat) (ret : Option FieldType) (na : Nat) : Prop :=
  (y.cls = Cn ∧ y.cls ≠ "java/lang/invoke/MethodHandle" ∧ y.cls ≠ "java/lang/invoke/VarHandle" ∧ (parseMethodDescriptor y.desc).map (fun d => d.parameters.length) = some na) ∧ Cond.methodLink own idx y ∈ AL ∧ Cond.instanceMethod y ∈ AL ∧ Cond.selects Cn y y ∈ AL ∧ Cond.initialized Cn ∈ AL ∧ Cond.code y b n ret ∈ AL
def MLs (own : String) (idx : Nat) (y : MethodName) (b : ByteArray) (n : Nat) (ret : Option FieldType) (na : Nat) : Prop :=
  (y.cls ≠ "java/lang/invoke/MethodHandle" ∧ y.cls ≠ "java/lang/invoke/VarHandle" ∧ (parseMethodDescriptor y.desc).map (fun d => d.parameters.length) = some na) ∧ Cond.methodLink own idx y ∈ AL ∧ Cond.static y ∈ AL ∧ Cond.initialized y.cls ∈ AL ∧ Cond.code y b n ret ∈ AL
def MLn (own : String) (idx : Nat) (y : MethodName) (host : String) (b : ByteArray) (n : Nat) (ret : Option FieldType) (na : Nat) : Prop :=
  (y.cls ≠ "java/lang/invoke/MethodHandle" ∧ y.cls ≠ "java/lang/invoke/VarHandle" ∧ (parseMethodDescriptor y.desc).map (fun d => d.parameters.length) = some na) ∧ (own, idx, y, host) ∈ NWM ∧ Cond.static y ∈ AL ∧ Cond.initialized y.cls ∈ AL ∧ Cond.code y b n ret ∈ AL
def MLu (own : String) (idx : Nat) (Cn owner : String) (x y : MethodName) (b : ByteArray) (n : Nat) (ret : Option FieldType) (na : Nat) : Prop :=
  (y = ⟨owner, x.name, x.desc⟩ ∧ owner ≠ "java/lang/invoke/MethodHandle" ∧ owner ≠ "java/lang/invoke/VarHandle" ∧ (parseMethodDescriptor x.desc).map (fun d => d.parameters.length) = some na) ∧ (∀ w ∈ va_wsU own idx Cn owner x y [], w ∈ AL) ∧ Cond.code y b n ret ∈ AL
theorem good_V {own Cn : String} {idx n na : Nat} {y : MethodName} {b : ByteArray} {ret : Option FieldType} (h : MLv own idx Cn y b n ret na) : GoodIn AL (wsV own idx Cn y (Cond.code y b n ret :: AL)) := by
  intro w hw
  have hm : w ∈ AL := by
    unfold wsV at hw
    rcases List.mem_append.mp hw with hw | hw
    · simp only [List.mem_cons, List.not_mem_nil, or_false] at hw
      rcases hw with rfl | rfl | rfl | rfl
      · exact h.2.1
      · exact h.2.2.1
      · exact h.2.2.2.1
      · exact h.2.2.2.2.1
    · rcases List.mem_cons.mp hw with rfl | hw
      · exact h.2.2.2.2.2
      · exact hw
  exact ⟨hm, AL_good hm⟩
theorem good_A {y : MethodName} {b : ByteArray} {n : Nat} {ret : Option FieldType} (h : Cond.code y b n ret ∈ AL) : GoodIn AL (Cond.code y b n ret :: AL) := by
  intro w hw
  have hm : w ∈ AL := by
    rcases List.mem_cons.mp hw with rfl | hw
    · exact h
    · exact hw
  exact ⟨hm, AL_good hm⟩
theorem good_S {own : String} {idx n na : Nat} {y : MethodName} {b : ByteArray} {ret : Option FieldType} (h : MLs own idx y b n ret na) : GoodIn AL (va_wsS own idx y (Cond.code y b n ret :: AL)) := by
  intro w hw
  have hm : w ∈ AL := by
    unfold va_wsS at hw
    rcases List.mem_append.mp hw with hw | hw
    · simp only [List.mem_cons, List.not_mem_nil, or_false] at hw
      rcases hw with rfl | rfl | rfl
      · exact h.2.1
      · exact h.2.2.1
      · exact h.2.2.2.1
    · rcases List.mem_cons.mp hw with rfl | hw
      · exact h.2.2.2.2
      · exact hw
  exact ⟨hm, AL_good hm⟩
theorem good_U {own Cn owner : String} {idx n na : Nat} {x y : MethodName} {b : ByteArray} {ret : Option FieldType} (h : MLu own idx Cn owner x y b n ret na) : GoodIn AL (va_wsU own idx Cn owner x y (Cond.code y b n ret :: AL)) := by
  intro w hw
  have hm : w ∈ AL := by
    unfold va_wsU at hw
    rcases List.mem_append.mp hw with hw | hw
    · exact h.2.1 w (by unfold va_wsU; exact List.mem_append_left _ hw)
    · rcases List.mem_cons.mp hw with rfl | hw
      · exact h.2.2
      · exact hw
  exact ⟨hm, AL_good hm⟩
theorem pc_blind {D : va_G} {ct : Nat → ClassId} {A : Nat → Nat} {av : List Value} {σ : Sg} : FrameBlind (va_Pc av (Wd D ct A σ)) := by
  intro a U g mk h
  obtain ⟨h1, h2, h3⟩ := h
  exact ⟨h1, h2, FX.blind h3 rfl rfl⟩
section CALLS
variable {p : Program} {l : Launch} {e : Env} {R : Room} {s : State} {m : MethodId} {args : Array Value} {below : List Frame} {meth : Method} {c : Code} {cc : ByteArray} {nL : Nat} {own : String} {rt : Option FieldType} {D : va_G} {ct : Nat → ClassId} {A : Nat → Nat} {T : Type} {emb : T → Option Value × Sg} {pc : Nat} {L : List (Nat × Value)} {st : List Value} {σ : Sg} {f : Option T}
theorem w_run {Q : State → Prop} {H : Heap} {locs : List Loc} {ls : Array Slot} {st0 rest : List Value} {a : Array Value} {o : Option Value × Sg} (hr : va_Run p l e R s m args below meth c H locs 0 0 0 0 (F0 m pc ls st0) rest (QcR D ct A o a) (InA A)) (hS : va_S (InA A) s.heap H locs)
    (kk : ∀ (H1 : Heap) (locs1 : List Loc), va_P D vwCl (wl ct A o.2) H1 → va_S (InA A) s.heap H1 locs1 → W p l e R s m args below meth c H1 locs1 0 0 Q (F0 m (pc + 3) ls (o.1.toList ++ rest))) : W p l e R s m args below meth c H locs 0 0 Q (F0 m pc ls st0) := by
  intro T hT X
  obtain ⟨v, st₀, t, T', L, h0, X', hL, e1, e2, ⟨⟨hv, hP⟩, hz, hk⟩, st⟩ := hr T hT X
  cases hv
  rw [h0] at hz hk
  obtain ⟨t2, a1, b1⟩ := kk T'.heap (locs ++ L) (by rw [e1]; exact hP)
    ⟨Nat.le_trans hS.1 (by rw [e1]; exact hz), fun q h1 h2 => by rw [e1, hk q (Nat.lt_of_lt_of_le h1 hS.1) h2]; exact hS.2.1 q h1 h2, fun q hq => by
      rcases List.mem_append.mp hq with h | h
      · exact hS.2.2 q h
      · exact hL q h⟩ T' rfl X'
  exact ⟨t2, st t2 a1, b1⟩
theorem m_callV0 (C : Cx p m c cc nL s args own meth rt D ct A) {idx n na d ci nf q : Nat} {Cn : String} {T0 : u_T} {N : Nat} {y : MethodName} {b : ByteArray} {ret : Option FieldType} (ml : MLv own idx Cn y b n ret na) (hR : d + 1 ≤ R.frames ∧ 8 + (n + 11) + 37 * d ≤ R.locals) (hk : lay q = (0, ci, nf)) (hc : vwCl[ci]? = some (Cn, T0, N)) {st0 : List Value} (As rest : List Value) (hst : st0 = As.reverse ++ .ref (A q) :: rest) (hna : As.length = na) (hro : (rest.map fun v => v.category).sum ≤ 8) (hd : decode cc pc = .ok (.invokevirtual idx, 3)) {o : Option Value × Sg} (K : Con l y b n ret d D ct A (.ref (A q) :: As) σ o) (kk : Wm p l e R s m args below meth c D ct A nL emb (pc + 3) L (o.1.toList ++ rest) o.2 f) : Wm p l e R s m args below meth c D ct A nL emb pc L st0 σ f := by
  intro out ho H locs ls hP hS hl
  have hcw : CallW R s args own Cn idx y b n ret (Cond.code y b n ret :: AL) (rmD d) 0 0 na := cwV na C.1.2.2.2.2 (good_V ml) rfl rfl rfl ml.1 hR
  refine w_run (va_runV (As := As) (rest := rest) C.1 K hcw ⟨pc_blind, va_recv C.2.2.2.1 hP (ci := ci) (q0 := q) hc (by rw [wl_at (lay_lt hk (by omega)), ent_o hk]), fun U hU hW => ⟨rfl, by rw [hU]; exact hP, C.2.2.2.go hS.2.1 hW hU⟩⟩ rfl hna hl.1 hst (lv_room hro) hd ⟨Nat.zero_le _, Nat.zero_le _⟩) hS (fun H1 locs1 hP1 hS1 => kk out ho H1 locs1 ls hP1 hS1 hl)
theorem m_callU0 (C : Cx p m c cc nL s args own meth rt D ct A) {idx n na d ci nf q : Nat} {Cn owner : String} {T0 : u_T} {N : Nat} {x y : MethodName} {b : ByteArray} {ret : Option FieldType} (ml : MLu own idx Cn owner x y b n ret na) (hR : d + 1 ≤ R.frames ∧ 8 + (n + 11) + 37 * d ≤ R.locals) (hk : lay q = (0, ci, nf)) (hc : vwCl[ci]? = some (Cn, T0, N)) {st0 : List Value} (As rest : List Value) (hst : st0 = As.reverse ++ .ref (A q) :: rest) (hna : As.length = na) (hro : (rest.map fun v => v.category).sum ≤ 8) (hd : decode cc pc = .ok (.invokevirtual idx, 3)) {o : Option Value × Sg} (K : Con l y b n ret d D ct A (.ref (A q) :: As) σ o) (kk : Wm p l e R s m args below meth c D ct A nL emb (pc + 3) L (o.1.toList ++ rest) o.2 f) : Wm p l e R s m args below meth c D ct A nL emb pc L st0 σ f := by
  intro out ho H locs ls hP hS hl
  have hcw : va_CU R s args own Cn owner idx x y b n ret (Cond.code y b n ret :: AL) (rmD d) 0 0 na := va_cwU na C.1.2.2.2.2 (good_U ml) rfl rfl rfl ml.1.1 ml.1.2 hR
  refine w_run (va_runU (As := As) (rest := rest) C.1 K hcw ⟨pc_blind, va_recv C.2.2.2.1 hP (ci := ci) (q0 := q) hc (by rw [wl_at (lay_lt hk (by omega)), ent_o hk]), fun U hU hW => ⟨rfl, by rw [hU]; exact hP, C.2.2.2.go hS.2.1 hW hU⟩⟩ rfl hna hl.1 hst (lv_room hro) hd ⟨Nat.zero_le _, Nat.zero_le _⟩) hS (fun H1 locs1 hP1 hS1 => kk out ho H1 locs1 ls hP1 hS1 hl)
theorem m_callS0 (C : Cx p m c cc nL s args own meth rt D ct A) {idx n na d : Nat} {y : MethodName} {b : ByteArray} {ret : Option FieldType} (ml : MLs own idx y b n ret na) (hR : d + 1 ≤ R.frames ∧ 8 + (n + 11) + 37 * d ≤ R.locals) {st0 : List Value} (As rest : List Value) (hst : st0 = As.reverse ++ rest) (hna : As.length = na) (hro : (rest.map fun v => v.category).sum ≤ 8) (hd : decode cc pc = .ok (.invokestatic idx, 3)) {o : Option Value × Sg} (K : Con l y b n ret d D ct A As σ o) (kk : Wm p l e R s m args below meth c D ct A nL emb (pc + 3) L (o.1.toList ++ rest) o.2 f) : Wm p l e R s m args below meth c D ct A nL emb pc L st0 σ f := by
  intro out ho H locs ls hP hS hl
  have hcw : CallB R s args own idx y b n ret (Cond.code y b n ret :: AL) (rmD d) 0 0 na ∧ (Cond.static y).before args s = true := va_cwS na C.1.2.2.2.2 (good_S ml) rfl rfl rfl ml.1 hR
  refine w_run (va_runS (As := As) (rest := rest) C.1 K hcw ⟨pc_blind, fun U hU hW => ⟨rfl, by rw [hU]; exact hP, C.2.2.2.go hS.2.1 hW hU⟩⟩ rfl hna hl.1 hst (lv_room hro) hd ⟨Nat.zero_le _, Nat.zero_le _⟩) hS (fun H1 locs1 hP1 hS1 => kk out ho H1 locs1 ls hP1 hS1 hl)
theorem m_callN0 (C : Cx p m c cc nL s args own meth rt D ct A) {idx n na d : Nat} {host : String} {y : MethodName} {b : ByteArray} {ret : Option FieldType} (ml : MLn own idx y host b n ret na) (hR : d + 1 ≤ R.frames ∧ 8 + (n + 11) + 37 * d ≤ R.locals) {st0 : List Value} (As rest : List Value) (hst : st0 = As.reverse ++ rest) (hna : As.length = na) (hro : (rest.map fun v => v.category).sum ≤ 8) (hd : decode cc pc = .ok (.invokestatic idx, 3)) {o : Option Value × Sg} (K : Con l y b n ret d D ct A As σ o) (kk : Wm p l e R s m args below meth c D ct A nL emb (pc + 3) L (o.1.toList ++ rest) o.2 f) : Wm p l e R s m args below meth c D ct A nL emb pc L st0 σ f := by
  intro out ho H locs ls hP hS hl
  have hcw : va_CN R s args own idx y host b n ret (Cond.code y b n ret :: AL) (rmD d) 0 0 na ∧ (Cond.static y).before args s = true ∧ True := ⟨va_cnB na C.1.2.2.2.2 (good_A ml.2.2.2.2) rfl rfl rfl (C.2.2.2.2.2.1 _ ml.2.1) (C.1.2.2.2.2 _ ml.2.2.2.1) ml.1 hR, C.1.2.2.2.2 _ ml.2.2.1, trivial⟩
  refine w_run (va_runSN (As := As) (rest := rest) C.1 K hcw ⟨pc_blind, fun U hU hW => ⟨rfl, by rw [hU]; exact hP, C.2.2.2.go hS.2.1 hW hU⟩⟩ rfl hna hl.1 hst (lv_room hro) hd ⟨Nat.zero_le _, Nat.zero_le _⟩) hS (fun H1 locs1 hP1 hS1 => kk out ho H1 locs1 ls hP1 hS1 hl)
theorem m_callVI (C : Cx p m c cc nL s args own meth rt D ct A) {idx n na d ci nf q : Nat} {Cn : String} {T0 : u_T} {N : Nat} {y : MethodName} {b : ByteArray} {ret : Option FieldType} (ml : MLv own idx Cn y b n ret na) (hR : d + 1 ≤ R.frames ∧ 8 + (n + 11) + 37 * d ≤ R.locals) (hk : lay q = (0, ci, nf)) (hc : vwCl[ci]? = some (Cn, T0, N)) {st0 : List Value} (As rest : List Value) (hst : st0 = As.reverse ++ .ref (A q) :: rest) (hna : As.length = na) (hro : (rest.map fun v => v.category).sum ≤ 8) (hd : decode cc pc = .ok (.invokevirtual idx, 3)) {g : Option (Int32 × Sg)} {K : Int32 → Sg → Option T} (hg : ∀ o, g = some o → Con l y b n ret d D ct A (.ref (A q) :: As) σ (embI o)) (kk : ∀ r σ', Wm p l e R s m args below meth c D ct A nL emb (pc + 3) L (.int r :: rest) σ' (K r σ')) : Wm p l e R s m args below meth c D ct A nL emb pc L st0 σ (bnd g K) := by
  intro out ho
  cases hgq : g with
  | none => rw [hgq] at ho; cases ho
  | some q =>
    rw [hgq] at ho
    exact m_callV0 C ml hR hk hc As rest hst hna hro hd (hg q hgq) (kk q.1 q.2) out ho
theorem m_callVZ (C : Cx p m c cc nL s args own meth rt D ct A) {idx n na d ci nf q : Nat} {Cn : String} {T0 : u_T} {N : Nat} {y : MethodName} {b : ByteArray} {ret : Option FieldType} (ml : MLv own idx Cn y b n ret na) (hR : d + 1 ≤ R.frames ∧ 8 + (n + 11) + 37 * d ≤ R.locals) (hk : lay q = (0, ci, nf)) (hc : vwCl[ci]? = some (Cn, T0, N)) {st0 : List Value} (As rest : List Value) (hst : st0 = As.reverse ++ .ref (A q) :: rest) (hna : As.length = na) (hro : (rest.map fun v => v.category).sum ≤ 8) (hd : decode cc pc = .ok (.invokevirtual idx, 3)) {g : Option (Bool × Sg)} {K : Bool → Sg → Option T} (hg : ∀ o, g = some o → Con l y b n ret d D ct A (.ref (A q) :: As) σ (embZ o)) (kk : ∀ r σ', Wm p l e R s m args below meth c D ct A nL emb (pc + 3) L (.int (b2i r) :: rest) σ' (K r σ')) : Wm p l e R s m args below meth c D ct A nL emb pc L st0 σ (bnd g K) := by
  intro out ho
  cases hgq : g with
  | none => rw [hgq] at ho; cases ho
  | some q =>
    rw [hgq] at ho
    exact m_callV0 C ml hR hk hc As rest hst hna hro hd (hg q hgq) (kk q.1 q.2) out ho
theorem m_callVL (C : Cx p m c cc nL s args own meth rt D ct A) {idx n na d ci nf q : Nat} {Cn : String} {T0 : u_T} {N : Nat} {y : MethodName} {b : ByteArray} {ret : Option FieldType} (ml : MLv own idx Cn y b n ret na) (hR : d + 1 ≤ R.frames ∧ 8 + (n + 11) + 37 * d ≤ R.locals) (hk : lay q = (0, ci, nf)) (hc : vwCl[ci]? = some (Cn, T0, N)) {st0 : List Value} (As rest : List Value) (hst : st0 = As.reverse ++ .ref (A q) :: rest) (hna : As.length = na) (hro : (rest.map fun v => v.category).sum ≤ 8) (hd : decode cc pc = .ok (.invokevirtual idx, 3)) {g : Option (Int64 × Sg)} {K : Int64 → Sg → Option T} (hg : ∀ o, g = some o → Con l y b n ret d D ct A (.ref (A q) :: As) σ (embL o)) (kk : ∀ r σ', Wm p l e R s m args below meth c D ct A nL emb (pc + 3) L (.long r :: rest) σ' (K r σ')) : Wm p l e R s m args below meth c D ct A nL emb pc L st0 σ (bnd g K) := by
  intro out ho
  cases hgq : g with
  | none => rw [hgq] at ho; cases ho
  | some q =>
    rw [hgq] at ho
    exact m_callV0 C ml hR hk hc As rest hst hna hro hd (hg q hgq) (kk q.1 q.2) out ho
theorem m_callVV (C : Cx p m c cc nL s args own meth rt D ct A) {idx n na d ci nf q : Nat} {Cn : String} {T0 : u_T} {N : Nat} {y : MethodName} {b : ByteArray} {ret : Option FieldType} (ml : MLv own idx Cn y b n ret na) (hR : d + 1 ≤ R.frames ∧ 8 + (n + 11) + 37 * d ≤ R.locals) (hk : lay q = (0, ci, nf)) (hc : vwCl[ci]? = some (Cn, T0, N)) {st0 : List Value} (As rest : List Value) (hst : st0 = As.reverse ++ .ref (A q) :: rest) (hna : As.length = na) (hro : (rest.map fun v => v.category).sum ≤ 8) (hd : decode cc pc = .ok (.invokevirtual idx, 3)) {g : Option (Sg)} {K : Sg → Option T} (hg : ∀ o, g = some o → Con l y b n ret d D ct A (.ref (A q) :: As) σ (embV o)) (kk : ∀ σ', Wm p l e R s m args below meth c D ct A nL emb (pc + 3) L rest σ' (K σ')) : Wm p l e R s m args below meth c D ct A nL emb pc L st0 σ (bnv g K) := by
  intro out ho
  cases hgq : g with
  | none => rw [hgq] at ho; cases ho
  | some q =>
    rw [hgq] at ho
    exact m_callV0 C ml hR hk hc As rest hst hna hro hd (hg q hgq) (kk q) out ho
theorem m_callUI (C : Cx p m c cc nL s args own meth rt D ct A) {idx n na d ci nf q : Nat} {Cn owner : String} {T0 : u_T} {N : Nat} {x y : MethodName} {b : ByteArray} {ret : Option FieldType} (ml : MLu own idx Cn owner x y b n ret na) (hR : d + 1 ≤ R.frames ∧ 8 + (n + 11) + 37 * d ≤ R.locals) (hk : lay q = (0, ci, nf)) (hc : vwCl[ci]? = some (Cn, T0, N)) {st0 : List Value} (As rest : List Value) (hst : st0 = As.reverse ++ .ref (A q) :: rest) (hna : As.length = na) (hro : (rest.map fun v => v.category).sum ≤ 8) (hd : decode cc pc = .ok (.invokevirtual idx, 3)) {g : Option (Int32 × Sg)} {K : Int32 → Sg → Option T} (hg : ∀ o, g = some o → Con l y b n ret d D ct A (.ref (A q) :: As) σ (embI o)) (kk : ∀ r σ', Wm p l e R s m args below meth c D ct A nL emb (pc + 3) L (.int r :: rest) σ' (K r σ')) : Wm p l e R s m args below meth c D ct A nL emb pc L st0 σ (bnd g K) := by
  intro out ho
  cases hgq : g with
  | none => rw [hgq] at ho; cases ho
  | some q =>
    rw [hgq] at ho
    exact m_callU0 C ml hR hk hc As rest hst hna hro hd (hg q hgq) (kk q.1 q.2) out ho
theorem m_callUZ (C : Cx p m c cc nL s args own meth rt D ct A) {idx n na d ci nf q : Nat} {Cn owner : String} {T0 : u_T} {N : Nat} {x y : MethodName} {b : ByteArray} {ret : Option FieldType} (ml : MLu own idx Cn owner x y b n ret na) (hR : d + 1 ≤ R.frames ∧ 8 + (n + 11) + 37 * d ≤ R.locals) (hk : lay q = (0, ci, nf)) (hc : vwCl[ci]? = some (Cn, T0, N)) {st0 : List Value} (As rest : List Value) (hst : st0 = As.reverse ++ .ref (A q) :: rest) (hna : As.length = na) (hro : (rest.map fun v => v.category).sum ≤ 8) (hd : decode cc pc = .ok (.invokevirtual idx, 3)) {g : Option (Bool × Sg)} {K : Bool → Sg → Option T} (hg : ∀ o, g = some o → Con l y b n ret d D ct A (.ref (A q) :: As) σ (embZ o)) (kk : ∀ r σ', Wm p l e R s m args below meth c D ct A nL emb (pc + 3) L (.int (b2i r) :: rest) σ' (K r σ')) : Wm p l e R s m args below meth c D ct A nL emb pc L st0 σ (bnd g K) := by
  intro out ho
  cases hgq : g with
  | none => rw [hgq] at ho; cases ho
  | some q =>
    rw [hgq] at ho
    exact m_callU0 C ml hR hk hc As rest hst hna hro hd (hg q hgq) (kk q.1 q.2) out ho
theorem m_callUL (C : Cx p m c cc nL s args own meth rt D ct A) {idx n na d ci nf q : Nat} {Cn owner : String} {T0 : u_T} {N : Nat} {x y : MethodName} {b : ByteArray} {ret : Option FieldType} (ml : MLu own idx Cn owner x y b n ret na) (hR : d + 1 ≤ R.frames ∧ 8 + (n + 11) + 37 * d ≤ R.locals) (hk : lay q = (0, ci, nf)) (hc : vwCl[ci]? = some (Cn, T0, N)) {st0 : List Value} (As rest : List Value) (hst : st0 = As.reverse ++ .ref (A q) :: rest) (hna : As.length = na) (hro : (rest.map fun v => v.category).sum ≤ 8) (hd : decode cc pc = .ok (.invokevirtual idx, 3)) {g : Option (Int64 × Sg)} {K : Int64 → Sg → Option T} (hg : ∀ o, g = some o → Con l y b n ret d D ct A (.ref (A q) :: As) σ (embL o)) (kk : ∀ r σ', Wm p l e R s m args below meth c D ct A nL emb (pc + 3) L (.long r :: rest) σ' (K r σ')) : Wm p l e R s m args below meth c D ct A nL emb pc L st0 σ (bnd g K) := by
  intro out ho
  cases hgq : g with
  | none => rw [hgq] at ho; cases ho
  | some q =>
    rw [hgq] at ho
    exact m_callU0 C ml hR hk hc As rest hst hna hro hd (hg q hgq) (kk q.1 q.2) out ho
theorem m_callUV (C : Cx p m c cc nL s args own meth rt D ct A) {idx n na d ci nf q : Nat} {Cn owner : String} {T0 : u_T} {N : Nat} {x y : MethodName} {b : ByteArray} {ret : Option FieldType} (ml : MLu own idx Cn owner x y b n ret na) (hR : d + 1 ≤ R.frames ∧ 8 + (n + 11) + 37 * d ≤ R.locals) (hk : lay q = (0, ci, nf)) (hc : vwCl[ci]? = some (Cn, T0, N)) {st0 : List Value} (As rest : List Value) (hst : st0 = As.reverse ++ .ref (A q) :: rest) (hna : As.length = na) (hro : (rest.map fun v => v.category).sum ≤ 8) (hd : decode cc pc = .ok (.invokevirtual idx, 3)) {g : Option (Sg)} {K : Sg → Option T} (hg : ∀ o, g = some o → Con l y b n ret d D ct A (.ref (A q) :: As) σ (embV o)) (kk : ∀ σ', Wm p l e R s m args below meth c D ct A nL emb (pc + 3) L rest σ' (K σ')) : Wm p l e R s m args below meth c D ct A nL emb pc L st0 σ (bnv g K) := by
  intro out ho
  cases hgq : g with
  | none => rw [hgq] at ho; cases ho
  | some q =>
    rw [hgq] at ho
    exact m_callU0 C ml hR hk hc As rest hst hna hro hd (hg q hgq) (kk q) out ho
theorem m_callSI (C : Cx p m c cc nL s args own meth rt D ct A) {idx n na d : Nat} {y : MethodName} {b : ByteArray} {ret : Option FieldType} (ml : MLs own idx y b n ret na) (hR : d + 1 ≤ R.frames ∧ 8 + (n + 11) + 37 * d ≤ R.locals) {st0 : List Value} (As rest : List Value) (hst : st0 = As.reverse ++ rest) (hna : As.length = na) (hro : (rest.map fun v => v.category).sum ≤ 8) (hd : decode cc pc = .ok (.invokestatic idx, 3)) {g : Option (Int32 × Sg)} {K : Int32 → Sg → Option T} (hg : ∀ o, g = some o → Con l y b n ret d D ct A (As) σ (embI o)) (kk : ∀ r σ', Wm p l e R s m args below meth c D ct A nL emb (pc + 3) L (.int r :: rest) σ' (K r σ')) : Wm p l e R s m args below meth c D ct A nL emb pc L st0 σ (bnd g K) := by
  intro out ho
  cases hgq : g with
  | none => rw [hgq] at ho; cases ho
  | some q =>
    rw [hgq] at ho
    exact m_callS0 C ml hR As rest hst hna hro hd (hg q hgq) (kk q.1 q.2) out ho
theorem m_callSZ (C : Cx p m c cc nL s args own meth rt D ct A) {idx n na d : Nat} {y : MethodName} {b : ByteArray} {ret : Option FieldType} (ml : MLs own idx y b n ret na) (hR : d + 1 ≤ R.frames ∧ 8 + (n + 11) + 37 * d ≤ R.locals) {st0 : List Value} (As rest : List Value) (hst : st0 = As.reverse ++ rest) (hna : As.length = na) (hro : (rest.map fun v => v.category).sum ≤ 8) (hd : decode cc pc = .ok (.invokestatic idx, 3)) {g : Option (Bool × Sg)} {K : Bool → Sg → Option T} (hg : ∀ o, g = some o → Con l y b n ret d D ct A (As) σ (embZ o)) (kk : ∀ r σ', Wm p l e R s m args below meth c D ct A nL emb (pc + 3) L (.int (b2i r) :: rest) σ' (K r σ')) : Wm p l e R s m args below meth c D ct A nL emb pc L st0 σ (bnd g K) := by
  intro out ho
  cases hgq : g with
  | none => rw [hgq] at ho; cases ho
  | some q =>
    rw [hgq] at ho
    exact m_callS0 C ml hR As rest hst hna hro hd (hg q hgq) (kk q.1 q.2) out ho
theorem m_callSL (C : Cx p m c cc nL s args own meth rt D ct A) {idx n na d : Nat} {y : MethodName} {b : ByteArray} {ret : Option FieldType} (ml : MLs own idx y b n ret na) (hR : d + 1 ≤ R.frames ∧ 8 + (n + 11) + 37 * d ≤ R.locals) {st0 : List Value} (As rest : List Value) (hst : st0 = As.reverse ++ rest) (hna : As.length = na) (hro : (rest.map fun v => v.category).sum ≤ 8) (hd : decode cc pc = .ok (.invokestatic idx, 3)) {g : Option (Int64 × Sg)} {K : Int64 → Sg → Option T} (hg : ∀ o, g = some o → Con l y b n ret d D ct A (As) σ (embL o)) (kk : ∀ r σ', Wm p l e R s m args below meth c D ct A nL emb (pc + 3) L (.long r :: rest) σ' (K r σ')) : Wm p l e R s m args below meth c D ct A nL emb pc L st0 σ (bnd g K) := by
  intro out ho
  cases hgq : g with
  | none => rw [hgq] at ho; cases ho
  | some q =>
    rw [hgq] at ho
    exact m_callS0 C ml hR As rest hst hna hro hd (hg q hgq) (kk q.1 q.2) out ho
theorem m_callSV (C : Cx p m c cc nL s args own meth rt D ct A) {idx n na d : Nat} {y : MethodName} {b : ByteArray} {ret : Option FieldType} (ml : MLs own idx y b n ret na) (hR : d + 1 ≤ R.frames ∧ 8 + (n + 11) + 37 * d ≤ R.locals) {st0 : List Value} (As rest : List Value) (hst : st0 = As.reverse ++ rest) (hna : As.length = na) (hro : (rest.map fun v => v.category).sum ≤ 8) (hd : decode cc pc = .ok (.invokestatic idx, 3)) {g : Option (Sg)} {K : Sg → Option T} (hg : ∀ o, g = some o → Con l y b n ret d D ct A (As) σ (embV o)) (kk : ∀ σ', Wm p l e R s m args below meth c D ct A nL emb (pc + 3) L rest σ' (K σ')) : Wm p l e R s m args below meth c D ct A nL emb pc L st0 σ (bnv g K) := by
  intro out ho
  cases hgq : g with
  | none => rw [hgq] at ho; cases ho
  | some q =>
    rw [hgq] at ho
    exact m_callS0 C ml hR As rest hst hna hro hd (hg q hgq) (kk q) out ho
theorem m_callNI (C : Cx p m c cc nL s args own meth rt D ct A) {idx n na d : Nat} {host : String} {y : MethodName} {b : ByteArray} {ret : Option FieldType} (ml : MLn own idx y host b n ret na) (hR : d + 1 ≤ R.frames ∧ 8 + (n + 11) + 37 * d ≤ R.locals) {st0 : List Value} (As rest : List Value) (hst : st0 = As.reverse ++ rest) (hna : As.length = na) (hro : (rest.map fun v => v.category).sum ≤ 8) (hd : decode cc pc = .ok (.invokestatic idx, 3)) {g : Option (Int32 × Sg)} {K : Int32 → Sg → Option T} (hg : ∀ o, g = some o → Con l y b n ret d D ct A (As) σ (embI o)) (kk : ∀ r σ', Wm p l e R s m args below meth c D ct A nL emb (pc + 3) L (.int r :: rest) σ' (K r σ')) : Wm p l e R s m args below meth c D ct A nL emb pc L st0 σ (bnd g K) := by
  intro out ho
  cases hgq : g with
  | none => rw [hgq] at ho; cases ho
  | some q =>
    rw [hgq] at ho
    exact m_callN0 C ml hR As rest hst hna hro hd (hg q hgq) (kk q.1 q.2) out ho
theorem m_callNZ (C : Cx p m c cc nL s args own meth rt D ct A) {idx n na d : Nat} {host : String} {y : MethodName} {b : ByteArray} {ret : Option FieldType} (ml : MLn own idx y host b n ret na) (hR : d + 1 ≤ R.frames ∧ 8 + (n + 11) + 37 * d ≤ R.locals) {st0 : List Value} (As rest : List Value) (hst : st0 = As.reverse ++ rest) (hna : As.length = na) (hro : (rest.map fun v => v.category).sum ≤ 8) (hd : decode cc pc = .ok (.invokestatic idx, 3)) {g : Option (Bool × Sg)} {K : Bool → Sg → Option T} (hg : ∀ o, g = some o → Con l y b n ret d D ct A (As) σ (embZ o)) (kk : ∀ r σ', Wm p l e R s m args below meth c D ct A nL emb (pc + 3) L (.int (b2i r) :: rest) σ' (K r σ')) : Wm p l e R s m args below meth c D ct A nL emb pc L st0 σ (bnd g K) := by
  intro out ho
  cases hgq : g with
  | none => rw [hgq] at ho; cases ho
  | some q =>
    rw [hgq] at ho
    exact m_callN0 C ml hR As rest hst hna hro hd (hg q hgq) (kk q.1 q.2) out ho
theorem m_callNL (C : Cx p m c cc nL s args own meth rt D ct A) {idx n na d : Nat} {host : String} {y : MethodName} {b : ByteArray} {ret : Option FieldType} (ml : MLn own idx y host b n ret na) (hR : d + 1 ≤ R.frames ∧ 8 + (n + 11) + 37 * d ≤ R.locals) {st0 : List Value} (As rest : List Value) (hst : st0 = As.reverse ++ rest) (hna : As.length = na) (hro : (rest.map fun v => v.category).sum ≤ 8) (hd : decode cc pc = .ok (.invokestatic idx, 3)) {g : Option (Int64 × Sg)} {K : Int64 → Sg → Option T} (hg : ∀ o, g = some o → Con l y b n ret d D ct A (As) σ (embL o)) (kk : ∀ r σ', Wm p l e R s m args below meth c D ct A nL emb (pc + 3) L (.long r :: rest) σ' (K r σ')) : Wm p l e R s m args below meth c D ct A nL emb pc L st0 σ (bnd g K) := by
  intro out ho
  cases hgq : g with
  | none => rw [hgq] at ho; cases ho
  | some q =>
    rw [hgq] at ho
    exact m_callN0 C ml hR As rest hst hna hro hd (hg q hgq) (kk q.1 q.2) out ho
theorem m_callNV (C : Cx p m c cc nL s args own meth rt D ct A) {idx n na d : Nat} {host : String} {y : MethodName} {b : ByteArray} {ret : Option FieldType} (ml : MLn own idx y host b n ret na) (hR : d + 1 ≤ R.frames ∧ 8 + (n + 11) + 37 * d ≤ R.locals) {st0 : List Value} (As rest : List Value) (hst : st0 = As.reverse ++ rest) (hna : As.length = na) (hro : (rest.map fun v => v.category).sum ≤ 8) (hd : decode cc pc = .ok (.invokestatic idx, 3)) {g : Option (Sg)} {K : Sg → Option T} (hg : ∀ o, g = some o → Con l y b n ret d D ct A (As) σ (embV o)) (kk : ∀ σ', Wm p l e R s m args below meth c D ct A nL emb (pc + 3) L rest σ' (K σ')) : Wm p l e R s m args below meth c D ct A nL emb pc L st0 σ (bnv g K) := by
  intro out ho
  cases hgq : g with
  | none => rw [hgq] at ho; cases ho
  | some q =>
    rw [hgq] at ho
    exact m_callN0 C ml hR As rest hst hna hro hd (hg q hgq) (kk q) out ho
/-! the static rows -/
theorem m_getsF (C : Cx p m c cc nL s args own meth rt D ct A) {idx : Nat} (hlink : Cond.fieldLink own idx "DownByAHair" "FEWEST_WEIGHTS" "[I" ∈ AL) (hd : decode cc pc = .ok (.getstatic idx, 3)) (kk : Wm p l e R s m args below meth c D ct A nL emb (pc + 3) L (.ref (A 91) :: st) σ f) : Wm p l e R s m args below meth c D ct A nL emb pc L st σ f := fun o ho H locs ls hP hS hl =>
  va_gets C.1.1 C.1.2.1 C.2.2.2.2.2.2.2.2.2.2.1 hS C.1.2.2.2.1 (C.1.2.2.2.2 _ hlink) (fun _ h => h) hd (kk o ho H locs ls hP hS hl)
theorem m_getsB (C : Cx p m c cc nL s args own meth rt D ct A) {idx : Nat} (hlink : (own, idx, "DownByAHair", "BINDS", "[I", "DownByAHair") ∈ NWF) (hd : decode cc pc = .ok (.getstatic idx, 3)) (kk : Wm p l e R s m args below meth c D ct A nL emb (pc + 3) L (.ref (A 90) :: st) σ f) : Wm p l e R s m args below meth c D ct A nL emb pc L st σ f := fun o ho H locs ls hP hS hl =>
  va_getsN C.1.1 C.1.2.1 C.2.2.2.2.2.2.2.2.1 hS C.1.2.2.2.1 (va_Nw.use rfl (C.2.2.2.2.2.2.1 _ hlink)) (fun _ h => h) hd (kk o ho H locs ls hP hS hl)
theorem m_saldF (C : Cx p m c cc nL s args own meth rt D ct A) {i : Int32} (hi : inb 160 i = true) (hd : decode cc pc = .ok (.iaload, 1)) (kk : Wm p l e R s m args below meth c D ct A nL emb (pc + 1) L (.int (tF.getD (ix i) 0) :: st) σ f) : Wm p l e R s m args below meth c D ct A nL emb pc L (.int i :: .ref (A 91) :: st) σ f := fun o ho H locs ls hP hS hl =>
  va_ti C.1.1 C.1.2.1 C.2.2.2.2.2.2.2.2.2.2.2.1 hS (inb_in hi) rfl hd (kk o ho H locs ls hP hS hl)
theorem m_saldB (C : Cx p m c cc nL s args own meth rt D ct A) {i : Int32} (hi : inb 15 i = true) (hd : decode cc pc = .ok (.iaload, 1)) (kk : Wm p l e R s m args below meth c D ct A nL emb (pc + 1) L (.int (tB.getD (ix i) 0) :: st) σ f) : Wm p l e R s m args below meth c D ct A nL emb pc L (.int i :: .ref (A 90) :: st) σ f := fun o ho H locs ls hP hS hl =>
  va_ti C.1.1 C.1.2.1 C.2.2.2.2.2.2.2.2.2.1 hS (inb_in hi) rfl hd (kk o ho H locs ls hP hS hl)
/-! System.arraycopy of ints -/
def cpOk (sp dp n : Int32) (n0 n1 : Nat) : Bool := decide (0 ≤ sp) && decide (0 ≤ dp) && decide (0 ≤ n) && decide (ix sp + ix n ≤ n0) && decide (ix dp + ix n ≤ n1)
theorem m_copy (C : Cx p m c cc nL s args own meth rt D ct A) {idx k0 k1 n0 n1 : Nat} {sp dp n : Int32} (hlink : Cond.methodLink own idx arraycopyName ∈ AL) (h0 : lay k0 = (1, 0, n0)) (h1 : lay k1 = (1, 0, n1)) (hok : cpOk sp dp n n0 n1 = true) (hro : 1 ≤ R.frames ∧ (st.map fun v => v.category).sum + (nativeFrameWords "java/lang/System" "arraycopy" 5 + 11) ≤ R.locals) (hw : Cond.native arraycopyName ∈ AL ∧ Cond.static arraycopyName ∈ AL ∧ Cond.initialized "java/lang/System" ∈ AL) {K : Sg → Option T} (hd : decode cc pc = .ok (.invokestatic idx, 3)) (kk : ∀ σ', Wm p l e R s m args below meth c D ct A nL emb (pc + 3) L st σ' (K σ')) : Wm p l e R s m args below meth c D ct A nL emb pc L (.int n :: .int dp :: .ref (A k1) :: .int sp :: .ref (A k0) :: st) σ (bv (sa σ k1 (va_cpy (gi σ k0) (gi σ k1) (ix sp) (ix dp) (ix n))) K) := by
  intro o ho H locs ls hP hS hl
  simp only [cpOk, Bool.and_eq_true, decide_eq_true_eq] at hok
  obtain ⟨⟨⟨⟨g1, g2⟩, g3⟩, g4⟩, g5⟩ := hok
  refine va_copyi C.1.1 C.1.2.1 (C.1.2.2.1.trans hl.1.symm) C.1.2.2.2.1 (C.1.2.2.2.2 _ hlink) (C.1.2.2.2.2 _ hw.1) (C.1.2.2.2.2 _ hw.2.1) (C.1.2.2.2.2 _ hw.2.2) C.2.2.2.1 hP (wl_D C.2.2.2.2.1) hS k0 k1 k0 k1 (ty := .int) (by rw [wl_at (lay_lt h0 (by omega)), ent_i h0]) (by rw [wl_at (lay_lt h1 (by omega)), ent_i h1]) (tys_at h0 (by omega)) (tys_at h1 (by omega)) rfl (by rw [Int32.not_lt]; exact g1) (by rw [Int32.not_lt]; exact g2) (by rw [Int32.not_lt]; exact g3) g4 g5 (fun _ _ => rfl) hro.1 hro.2 hd (fun H1 locs1 hP1 hD1 hS1 => ?_)
  rw [wl_set (σ' := sa σ k1 (va_cpy (gi σ k0) (gi σ k1) (ix sp) (ix dp) (ix n))) (by rw [ent_i h1, gi_sa, if_pos rfl]; rfl) (fun j hj => ent_sa hj)] at hP1
  exact kk _ o ho H1 locs1 ls hP1 hS1 hl
end CALLS
