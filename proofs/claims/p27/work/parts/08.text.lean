def isStr (w : Nat) : Bool := decide (100 ≤ w) && decide (w < 120)
def isSb (v : Nat) : Bool := decide (150 ≤ v) && decide (v < 170)
def sLv (v : Nat) : Nat := strL.getD (v - 150) 0
def sBv (v j : Nat) : Int32 := (strB.getD (v - 150) []).getD j 0
theorem sb_str {w : Nat} (h : isStr w = true) : isSb (w + 50) = true := by
  simp only [isStr, isSb, Bool.and_eq_true, decide_eq_true_eq] at h ⊢
  omega
section TEXT
variable {p : Program} {l : Launch} {e : Env} {R : Room} {s : State} {m : MethodId} {args : Array Value} {below : List Frame} {meth : Method} {c : Code} {cc : ByteArray} {nL : Nat} {own : String} {rt : Option FieldType} {D : va_G} {ct : Nat → ClassId} {A : Nat → Nat} {T : Type} {emb : T → Option Value × Sg} {pc : Nat} {L : List (Nat × Value)} {st : List Value} {σ : Sg} {f : Option T}
theorem cx_str (C : Cx p m c cc nL s args own meth rt D ct A) {w : Nat} (h : isStr w = true) : va_O "java/lang/String" (A w) (InA A) s s.heap ∧ va_OF "java/lang/String" "coder" "B" (.int 0) (A w) (InA A) s s.heap ∧ va_OF "java/lang/String" "value" "[B" (.ref (A (w + 50))) (A w) (InA A) s s.heap := by
  simp only [isStr, Bool.and_eq_true, decide_eq_true_eq] at h
  have h1 := (C.2.2.2.2.2.2.2.2.2.2.2.2.2.1.1 (w - 100) (by omega))
  have e1 : 100 + (w - 100) = w := by omega
  have e2 : 150 + (w - 100) = w + 50 := by omega
  dsimp only at h1
  rw [e1, e2] at h1
  exact ⟨h1.1, h1.2.1, h1.2.2.1⟩
theorem cx_sb (C : Cx p m c cc nL s args own meth rt D ct A) {v : Nat} (h : isSb v = true) : va_T .byte (A v) (sLv v) (fun j => .int (sBv v j)) (InA A) s s.heap := by
  simp only [isSb, Bool.and_eq_true, decide_eq_true_eq] at h
  have h1 := (C.2.2.2.2.2.2.2.2.2.2.2.2.2.1.1 (v - 150) (by omega)).2.2.2
  have e2 : 150 + (v - 150) = v := by omega
  dsimp only at h1
  rw [e2] at h1
  exact h1
theorem m_getSv (C : Cx p m c cc nL s args own meth rt D ct A) {w idx : Nat} (h : isStr w = true) (hlink : Cond.fieldLink own idx "java/lang/String" "value" "[B" ∈ AL) (hd : decode cc pc = .ok (.getfield idx, 3)) (kk : Wm p l e R s m args below meth c D ct A nL emb (pc + 3) L (.ref (A (w + 50)) :: st) σ f) : Wm p l e R s m args below meth c D ct A nL emb pc L (.ref (A w) :: st) σ f := fun o ho H locs ls hP hS hl =>
  vk_getf C.1.1 C.1.2.1 (cx_str C h).2.2 hS C.1.2.2.2.1 (C.1.2.2.2.2 _ hlink) (fun _ h => h) hd (kk o ho H locs ls hP hS hl)
theorem m_getSc (C : Cx p m c cc nL s args own meth rt D ct A) {w idx : Nat} (h : isStr w = true) (hlink : Cond.fieldLink own idx "java/lang/String" "coder" "B" ∈ AL) (hd : decode cc pc = .ok (.getfield idx, 3)) (kk : Wm p l e R s m args below meth c D ct A nL emb (pc + 3) L (.int 0 :: st) σ f) : Wm p l e R s m args below meth c D ct A nL emb pc L (.ref (A w) :: st) σ f := fun o ho H locs ls hP hS hl =>
  vk_getf C.1.1 C.1.2.1 (cx_str C h).2.1 hS C.1.2.2.2.1 (C.1.2.2.2.2 _ hlink) (fun _ h => h) hd (kk o ho H locs ls hP hS hl)
theorem m_getsC (C : Cx p m c cc nL s args own meth rt D ct A) {idx : Nat} (hlink : Cond.fieldLink own idx "java/lang/String" "COMPACT_STRINGS" "Z" ∈ AL) (hd : decode cc pc = .ok (.getstatic idx, 3)) (kk : Wm p l e R s m args below meth c D ct A nL emb (pc + 3) L (.int 1 :: st) σ f) : Wm p l e R s m args below meth c D ct A nL emb pc L st σ f := fun o ho H locs ls hP hS hl =>
  va_gets C.1.1 C.1.2.1 C.2.2.2.2.2.2.2.2.2.2.2.2.1 hS C.1.2.2.2.1 (C.1.2.2.2.2 _ hlink) (fun _ h => h) hd (kk o ho H locs ls hP hS hl)
theorem m_salen (C : Cx p m c cc nL s args own meth rt D ct A) {v : Nat} (h : isSb v = true) (hd : decode cc pc = .ok (.arraylength, 1)) (kk : Wm p l e R s m args below meth c D ct A nL emb (pc + 1) L (.int (Int32.ofNat (sLv v)) :: st) σ f) : Wm p l e R s m args below meth c D ct A nL emb pc L (.ref (A v) :: st) σ f := fun o ho H locs ls hP hS hl =>
  va_tlen C.1.1 C.1.2.1 (cx_sb C h) hS rfl hd (kk o ho H locs ls hP hS hl)
theorem m_sbald (C : Cx p m c cc nL s args own meth rt D ct A) {v : Nat} {i : Int32} (h : isSb v = true) (hi : inb (sLv v) i = true) (hd : decode cc pc = .ok (.baload, 1)) (kk : Wm p l e R s m args below meth c D ct A nL emb (pc + 1) L (.int (sBv v (ix i)) :: st) σ f) : Wm p l e R s m args below meth c D ct A nL emb pc L (.int i :: .ref (A v) :: st) σ f := fun o ho H locs ls hP hS hl =>
  va_tb C.1.1 C.1.2.1 (cx_sb C h) hS (inb_in hi) rfl hd (kk o ho H locs ls hP hS hl)
theorem m_ldcS (C : Cx p m c cc nL s args "DownByAHair$Tokens" meth rt D ct A) {idx : Nat} (i : Nat) (hi : i < 20) (hx : (strI.getD i (0, "")).1 = idx) (hd : decode cc pc = .ok (.ldc idx, 2)) (kk : Wm p l e R s m args below meth c D ct A nL emb (pc + 2) L (.ref (A (100 + i)) :: st) σ f) : Wm p l e R s m args below meth c D ct A nL emb pc L st σ f := by
  intro o ho H locs ls hP hS hl
  subst hx
  exact va_ldcS C.1.1 C.1.2.1 C.1.2.2.2.1 (C.2.2.2.2.2.2.2.1 i hi) hd (kk o ho H locs ls hP hS hl)
theorem m_bret (C : Cx p m c cc nL s args own meth (some .byte) D ct A) {x : Int32} (hn : narrow .byte (.int x) = .int x) (hd : decode cc pc = .ok (.ireturn, 1)) : Wm p l e R s m args below meth c D ct A nL embI pc L [.int x] σ (some (x, σ)) := by
  intro o ho H locs ls hP hS hl
  cases ho
  exact W.zret (v := x) C.1.1 C.1.2.1 C.2.1 hn (fun t ht hW => ⟨⟨rfl, by rw [ht]; exact hP⟩, hS.F ht⟩) hS.2.2 hd C.2.2.1
theorem m_letn {x : Nat} {K : Nat → Option T} (k : ∀ y, Wm p l e R s m args below meth c D ct A nL emb pc L (rfv A y :: st) σ (K y)) : Wm p l e R s m args below meth c D ct A nL emb pc L (rfv A x :: st) σ (bv x K) := k x
theorem m_callT0 (C : Cx p m c cc nL s args own meth rt D ct A) {idx n na d w : Nat} {y : MethodName} {b : ByteArray} {ret : Option FieldType} (ml : MLv own idx "java/lang/String" y b n ret na) (hR : d + 1 ≤ R.frames ∧ 8 + (n + 11) + 37 * d ≤ R.locals) (h : isStr w = true) {st0 : List Value} (As rest : List Value) (hst : st0 = As.reverse ++ .ref (A w) :: rest) (hna : As.length = na) (hro : (rest.map fun v => v.category).sum ≤ 8) (hd : decode cc pc = .ok (.invokevirtual idx, 3)) {o : Option Value × Sg} (K : Con l y b n ret d D ct A (.ref (A w) :: As) σ o) (kk : Wm p l e R s m args below meth c D ct A nL emb (pc + 3) L (o.1.toList ++ rest) o.2 f) : Wm p l e R s m args below meth c D ct A nL emb pc L st0 σ f := by
  intro out ho H locs ls hP hS hl
  have hcw : CallW R s args own "java/lang/String" idx y b n ret (Cond.code y b n ret :: AL) (rmD d) 0 0 na := cwV na C.1.2.2.2.2 (good_V ml) rfl rfl rfl ml.1 hR
  have hrecv : ∃ cell : Cell, H[A w]? = some cell ∧ cell.vm.isStatics = false ∧ s.vm.findClass "java/lang/String" = some cell.cls := by
    have h0 := h
    simp only [isStr, Bool.and_eq_true, decide_eq_true_eq] at h0
    have h1 := vk_recv (i := w - 100) C.2.2.2.2.2.2.2.2.2.2.2.2.2.1 (by omega) hS
    have e1 : 100 + (w - 100) = w := by omega
    rw [e1] at h1
    exact h1
  refine w_run (va_runV (As := As) (rest := rest) C.1 K hcw ⟨pc_blind, hrecv, fun U hU hW => ⟨rfl, by rw [hU]; exact hP, C.2.2.2.go hS.2.1 hW hU⟩⟩ rfl hna hl.1 hst (lv_room hro) hd ⟨Nat.zero_le _, Nat.zero_le _⟩) hS (fun H1 locs1 hP1 hS1 => kk out ho H1 locs1 ls hP1 hS1 hl)
theorem m_callTI (C : Cx p m c cc nL s args own meth rt D ct A) {idx n na d w : Nat} {y : MethodName} {b : ByteArray} {ret : Option FieldType} (ml : MLv own idx "java/lang/String" y b n ret na) (hR : d + 1 ≤ R.frames ∧ 8 + (n + 11) + 37 * d ≤ R.locals) (h : isStr w = true) {st0 : List Value} (As rest : List Value) (hst : st0 = As.reverse ++ .ref (A w) :: rest) (hna : As.length = na) (hro : (rest.map fun v => v.category).sum ≤ 8) (hd : decode cc pc = .ok (.invokevirtual idx, 3)) {g : Option (Int32 × Sg)} {K : Int32 → Sg → Option T} (hg : ∀ o, g = some o → Con l y b n ret d D ct A (.ref (A w) :: As) σ (embI o)) (kk : ∀ r σ', Wm p l e R s m args below meth c D ct A nL emb (pc + 3) L (.int r :: rest) σ' (K r σ')) : Wm p l e R s m args below meth c D ct A nL emb pc L st0 σ (bnd g K) := by
  intro out ho
  cases hgq : g with
  | none => rw [hgq] at ho; cases ho
  | some q =>
    rw [hgq] at ho
    exact m_callT0 C ml hR h As rest hst hna hro hd (hg q hgq) (kk q.1 q.2) out ho
theorem m_callTZ (C : Cx p m c cc nL s args own meth rt D ct A) {idx n na d w : Nat} {y : MethodName} {b : ByteArray} {ret : Option FieldType} (ml : MLv own idx "java/lang/String" y b n ret na) (hR : d + 1 ≤ R.frames ∧ 8 + (n + 11) + 37 * d ≤ R.locals) (h : isStr w = true) {st0 : List Value} (As rest : List Value) (hst : st0 = As.reverse ++ .ref (A w) :: rest) (hna : As.length = na) (hro : (rest.map fun v => v.category).sum ≤ 8) (hd : decode cc pc = .ok (.invokevirtual idx, 3)) {g : Option (Bool × Sg)} {K : Bool → Sg → Option T} (hg : ∀ o, g = some o → Con l y b n ret d D ct A (.ref (A w) :: As) σ (embZ o)) (kk : ∀ r σ', Wm p l e R s m args below meth c D ct A nL emb (pc + 3) L (.int (b2i r) :: rest) σ' (K r σ')) : Wm p l e R s m args below meth c D ct A nL emb pc L st0 σ (bnd g K) := by
  intro out ho
  cases hgq : g with
  | none => rw [hgq] at ho; cases ho
  | some q =>
    rw [hgq] at ho
    exact m_callT0 C ml hR h As rest hst hna hro hd (hg q hgq) (kk q.1 q.2) out ho
theorem m_getsQ (C : Cx p m c cc nL s args own meth rt D ct A) {idx : Nat} (hlink : Cond.fieldLink own idx "jdk/internal/util/Preconditions" "SIOOBE_FORMATTER" "Ljava/util/function/BiFunction;" ∈ AL) (hd : decode cc pc = .ok (.getstatic idx, 3)) (k0 : Wm p l e R s m args below meth c D ct A nL emb (pc + 3) L (.null :: st) σ f) (k1 : Wm p l e R s m args below meth c D ct A nL emb (pc + 3) L (.ref (A 92) :: st) σ f) : Wm p l e R s m args below meth c D ct A nL emb pc L st σ f := by
  intro o ho H locs ls hP hS hl
  have hz := C.2.2.2.2.2.2.2.2.2.2.2.2.2.2
  by_cases h : A 93 = 0
  · have ef : fmt A = .null := by unfold fmt; rw [if_pos h]; rfl
    rw [ef] at hz
    exact va_gets C.1.1 C.1.2.1 hz hS C.1.2.2.2.1 (C.1.2.2.2.2 _ hlink) (fun _ h => h) hd (k0 o ho H locs ls hP hS hl)
  · have ef : fmt A = .ref (A 92) := by unfold fmt; rw [if_neg h]; rfl
    rw [ef] at hz
    exact va_gets C.1.1 C.1.2.1 hz hS C.1.2.2.2.1 (C.1.2.2.2.2 _ hlink) (fun _ h => h) hd (k1 o ho H locs ls hP hS hl)
end TEXT
