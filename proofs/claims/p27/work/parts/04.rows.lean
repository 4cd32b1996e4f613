def tB : List Int32 := [0, 1, 2, 3, 4, 4, 4, 4, 4, 4, 5, 5, 6, 6, 7]
def tF : List Int32 := [1, 0, 0, 0, 1, 2, 0, 0, 1, 2, 0, 0, 1, 3, 0, 0, 1, 2, 3, 0, 1, 2, 3, 0, 1, 2, 4, 0, 1, 2, 5, 0, 1, 2, 6, 0, 1, 2, 7, 0, 1, 3, 7, 0, 1, 3, 8, 0, 1, 3, 9, 0, 1, 2, 3, 8, 1, 2, 3, 9, 1, 2, 3, 10, 1, 2, 3, 11, 1, 2, 3, 12, 1, 2, 3, 13, 1, 2, 4, 13, 1, 2, 4, 14, 1, 2, 4, 15, 1, 2, 5, 15, 1, 2, 5, 16, 1, 2, 5, 17, 1, 2, 6, 17, 1, 2, 6, 18, 1, 2, 6, 19, 1, 2, 7, 19, 1, 2, 7, 20, 1, 2, 7, 21, 1, 3, 7, 21, 1, 3, 7, 22, 1, 3, 7, 23, 1, 3, 8, 23, 1, 3, 8, 24, 1, 3, 8, 25, 1, 3, 9, 25, 1, 3, 9, 26, 1, 3, 9, 27]
/-- the String constants: places in the pool, texts -/
def strI : List (Nat × String) := [(58, "or"), (64, "and"), (66, "not"), (68, "on"), (70, "bears"), (72, "safe"), (74, "put"), (76, "take"), (78, "wait"), (80, "hour"), (82, "wet"), (84, "wind"), (86, "thing"), (88, "weight"), (90, "sort"), (92, "pan"), (94, "left"), (96, "right"), (98, "moment"), (100, "turned")]
def strL : List Nat := [2, 3, 3, 2, 5, 4, 3, 4, 4, 4, 3, 4, 5, 6, 4, 3, 4, 5, 6, 6]
def strB : List (List Int32) := [[111, 114], [97, 110, 100], [110, 111, 116], [111, 110], [98, 101, 97, 114, 115], [115, 97, 102, 101], [112, 117, 116], [116, 97, 107, 101], [119, 97, 105, 116], [104, 111, 117, 114], [119, 101, 116], [119, 105, 110, 100], [116, 104, 105, 110, 103], [119, 101, 105, 103, 104, 116], [115, 111, 114, 116], [112, 97, 110], [108, 101, 102, 116], [114, 105, 103, 104, 116], [109, 111, 109, 101, 110, 116], [116, 117, 114, 110, 101, 100]]
def NWM : List (String × Nat × MethodName × String) := [("DownByAHair$State", 3, ⟨"DownByAHair$World", "<init>", "()V"⟩, "DownByAHair"), ("DownByAHair$State", 31, ⟨"DownByAHair$Reading", "<init>", "()V"⟩, "DownByAHair"), ("DownByAHair$Reading", 3, ⟨"DownByAHair$World", "<init>", "()V"⟩, "DownByAHair"), ("DownByAHair", 21, ⟨"DownByAHair$Tokens", "<init>", "()V"⟩, "DownByAHair"), ("DownByAHair", 43, ⟨"DownByAHair$Scales", "<init>", "()V"⟩, "DownByAHair"), ("DownByAHair", 50, ⟨"DownByAHair$Orders", "<init>", "()V"⟩, "DownByAHair"), ("DownByAHair", 57, ⟨"DownByAHair$Counterpoise", "<init>", "()V"⟩, "DownByAHair"), ("DownByAHair", 62, ⟨"DownByAHair$Script", "<init>", "()V"⟩, "DownByAHair"), ("DownByAHair$State", 68, ⟨"DownByAHair", "within", "(III)Z"⟩, "DownByAHair"), ("DownByAHair$Reading", 37, ⟨"DownByAHair", "leaning", "(II)I"⟩, "DownByAHair")]
def NWF : List (String × Nat × String × String × String × String) := [("DownByAHair$Reader", 149, "DownByAHair", "BINDS", "[I", "DownByAHair")]
/-- what a static of the JDK's holds: nothing, or the cell 92 -/
def fmt (A : Nat → Nat) : Value := va_rf (if A 93 = 0 then none else some (A 92))
/-- the heap's fixed part, as method and caller see it: cells 90, 91 are the static rows, 100 .. the Strings, 150 .. their bytes -/
def FXh (A : Nat → Nat) (U : State) (H : Heap) : Prop :=
  va_Z "DownByAHair" "BINDS" "[I" (.ref (A 90)) (InA A) U H ∧ va_T .int (A 90) 15 (fun j => .int (tB.getD j 0)) (InA A) U H ∧
  va_Z "DownByAHair" "FEWEST_WEIGHTS" "[I" (.ref (A 91)) (InA A) U H ∧ va_T .int (A 91) 160 (fun j => .int (tF.getD j 0)) (InA A) U H ∧
  va_Z "java/lang/String" "COMPACT_STRINGS" "Z" (.int 1) (InA A) U H ∧
  vk_S 20 strL strB (fun i => A (100 + i)) (fun i => A (150 + i)) (InA A) U H ∧
  va_Z "jdk/internal/util/Preconditions" "SIOOBE_FORMATTER" "Ljava/util/function/BiFunction;" (fmt A) (InA A) U H
def FX (D : va_G) (ct : Nat → ClassId) (A : Nat → Nat) (U : State) : Prop :=
  va_K D vwCl (tys ct) U ∧ injA A ∧ (∀ q ∈ NWM, va_Nw (.methodLinkNest q.1 q.2.1 q.2.2.1 q.2.2.2) U) ∧ (∀ q ∈ NWF, va_Nw (.fieldLinkNest q.1 q.2.1 q.2.2.1 q.2.2.2.1 q.2.2.2.2.1 q.2.2.2.2.2) U) ∧
  (∀ i, i < 20 → vk_R "DownByAHair$Tokens" (strI.getD i (0, "")).1 (strI.getD i (0, "")).2 (A (100 + i)) U) ∧ FXh A U U.heap
theorem FXh.moved {A : Nat → Nat} {u U : State} {H : Heap} (hvm : u.vm.Alike U.vm) (h : FXh A u H) : FXh A U H :=
  ⟨va_Z.moved hvm h.1, va_T.moved hvm h.2.1, va_Z.moved hvm h.2.2.1, va_T.moved hvm h.2.2.2.1, va_Z.moved hvm h.2.2.2.2.1, vk_S.moved hvm h.2.2.2.2.2.1, va_Z.moved hvm h.2.2.2.2.2.2⟩
theorem FXh.kept {A : Nat → Nat} {U : State} {H H1 : Heap} (h : FXh A U H) (hq : ∀ a : Nat, a < H.size → ¬ InA A a → H1[a]? = H[a]?) : FXh A U H1 :=
  ⟨va_Z.kept h.1 hq, va_T.kept h.2.1 hq, va_Z.kept h.2.2.1 hq, va_T.kept h.2.2.2.1 hq, va_Z.kept h.2.2.2.2.1 hq, vk_S.kept h.2.2.2.2.2.1 hq, va_Z.kept h.2.2.2.2.2.2 hq⟩
theorem FX.go {D : va_G} {ct : Nat → ClassId} {A : Nat → Nat} {s U : State} {H : Heap} (h : FX D ct A s) (hq : ∀ a : Nat, a < s.heap.size → ¬ InA A a → H[a]? = s.heap[a]?) (hW : s.WarmedH U.vm) (hU : U.heap = H) : FX D ct A U := by
  obtain ⟨h1, h2, h3, h4, h5, h6⟩ := h
  refine ⟨va_K.moved hW.alike h1, h2, fun q hm => va_Nw.warmM hW (h3 q hm), fun q hm => va_Nw.warmF hW (h4 q hm), fun i hi => vk_R.warm hW (h5 i hi), ?_⟩
  rw [hU]
  exact FXh.kept (FXh.moved hW.alike h6) hq
theorem FX.blind {D : va_G} {ct : Nat → ClassId} {A : Nat → Nat} {U V : State} (h : FX D ct A U) (hv : V.vm = U.vm) (hh : V.heap = U.heap) : FX D ct A V := by
  obtain ⟨h1, h2, h3, h4, h5, h6⟩ := h
  have hal : U.vm.Alike V.vm := by rw [hv]; exact Vm.Alike.refl U.vm
  refine ⟨va_K.moved hal h1, h2, fun q hm => va_Nw.same rfl hv.symm (h3 q hm), fun q hm => va_Nw.same rfl hv.symm (h4 q hm), fun i hi => vk_R.same hv (h5 i hi), ?_⟩
  rw [hh]
  exact FXh.moved hal h6
def rmD (d : Nat) : Room := { frames := d, cells := 0, slots := 0, locals := 37 * d }
def Wd (D : va_G) (ct : Nat → ClassId) (A : Nat → Nat) (σ : Sg) (U : State) : Prop := va_P D vwCl (wl ct A σ) U.heap ∧ FX D ct A U
def QcR (D : va_G) (ct : Nat → ClassId) (A : Nat → Nat) (o : Option Value × Sg) : Array Value → State → Outcome → State → Prop := fun _ st oc t => (oc = .returned o.1 ∧ va_P D vwCl (wl ct A o.2) t.heap) ∧ va_F (InA A) st t
def Con (l : Launch) (y : MethodName) (b : ByteArray) (n : Nat) (ret : Option FieldType) (d : Nat) (D : va_G) (ct : Nat → ClassId) (A : Nat → Nat) (av : List Value) (σ : Sg) (o : Option Value × Sg) : Prop :=
  Met l y (Cond.code y b n ret :: AL) (rmD d) (va_Pc av (Wd D ct A σ)) (QcR D ct A o) 0 0 (InA A)
/-- what a method's walk stands on -/
def Cx (p : Program) (m : MethodId) (c : Code) (cc : ByteArray) (nL : Nat) (s : State) (args : Array Value) (own : String) (meth : Method) (ret : Option FieldType) (D : va_G) (ct : Nat → ClassId) (A : Nat → Nat) : Prop :=
  CallFix p m c cc nL s args AL own ∧ meth.sig.returnType = ret ∧ meth.locks = false ∧ FX D ct A s
def Wm (p : Program) (l : Launch) (e : Env) (R : Room) (s : State) (m : MethodId) (args : Array Value) (below : List Frame) (meth : Method) (c : Code) (D : va_G) (ct : Nat → ClassId) (A : Nat → Nat) (nL : Nat) {T : Type} (emb : T → Option Value × Sg) (pc : Nat) (L : List (Nat × Value)) (st : List Value) (σ : Sg) (f : Option T) : Prop :=
  ∀ out, f = some out → ∀ (H : Heap) (locs : List Loc) (ls : Array Slot), va_P D vwCl (wl ct A σ) H → va_S (InA A) s.heap H locs → lv_has ls nL L → W p l e R s m args below meth c H locs 0 0 (MQ below (QcR D ct A (emb out)) args s 0 0 (InA A)) (F0 m pc ls st)
def embI (q : Int32 × Sg) : Option Value × Sg := (some (.int q.1), q.2)
def b2i (b : Bool) : Int32 := match b with
  | true => 1
  | false => 0
def embZ (q : Bool × Sg) : Option Value × Sg := (some (.int (b2i q.1)), q.2)
def embL (q : Int64 × Sg) : Option Value × Sg := (some (.long q.1), q.2)
def embV (q : Sg) : Option Value × Sg := (none, q)
def bv {α β : Type} (a : α) (k : α → β) : β := k a
def chk {α : Type} (b : Bool) (f : Option α) : Option α := match b with
  | true => f
  | false => none
def bnd {α β : Type} (f : Option (α × Sg)) (k : α → Sg → Option β) : Option β := match f with
  | some q => k q.1 q.2
  | none => none
def bnv {β : Type} (f : Option Sg) (k : Sg → Option β) : Option β := match f with
  | some q => k q
  | none => none
def inb (n : Nat) (i : Int32) : Bool := decide (0 ≤ i) && decide (i.toNatClampNeg < n)
def ix (i : Int32) : Nat := i.toNatClampNeg
def isScr (q : Nat) : Bool := q == 48 || q == 53 || q == 58 || q == 63
def isRd (q : Nat) : Bool := decide (68 ≤ q) && decide (q < 88)
theorem inb_in {n : Nat} {i : Int32} (h : inb n i = true) : vp_in i n := by
  simp only [inb, Bool.and_eq_true, decide_eq_true_eq] at h
  rintro (q | q)
  · exact absurd h.1 (by rw [Int32.not_le]; exact q)
  · omega
theorem lay_scr {q : Nat} (h : isScr q = true) : lay q = (0, 5, 10) := by
  simp only [isScr, Bool.or_eq_true, beq_iff_eq] at h
  rcases h with ((h | h) | h) | h <;> subst h <;> rfl
theorem fk_scr {q : Nat} (h : isScr q = true) (j : Nat) : fk q j = fkC q j := by
  simp only [isScr, Bool.or_eq_true, beq_iff_eq] at h
  rcases h with ((h | h) | h) | h <;> subst h <;> rfl
theorem lay_scr1 {q : Nat} (h : isScr q = true) : lay (q + 1) = (1, 0, 300) := by
  simp only [isScr, Bool.or_eq_true, beq_iff_eq] at h
  rcases h with ((h | h) | h) | h <;> subst h <;> rfl
theorem lay_scr2 {q : Nat} (h : isScr q = true) : lay (q + 2) = (1, 0, 24) ∧ lay (q + 3) = (1, 0, 24) ∧ lay (q + 4) = (1, 0, 24) := by
  simp only [isScr, Bool.or_eq_true, beq_iff_eq] at h
  rcases h with ((h | h) | h) | h <;> subst h <;> exact ⟨rfl, rfl, rfl⟩
theorem isScr_ne {q : Nat} (h : isScr q = true) : q ≠ 0 := by
  intro z
  subst z
  cases h
theorem lay_rd {q : Nat} (h : isRd q = true) : lay q = (0, 3, 11) := by
  simp only [isRd, Bool.and_eq_true, decide_eq_true_eq] at h
  unfold lay
  rw [if_neg (by omega), if_neg (by omega), if_pos h.2]
theorem fk_rd {q : Nat} (h : isRd q = true) (j : Nat) : fk q j = 0 := by
  simp only [isRd, Bool.and_eq_true, decide_eq_true_eq] at h
  unfold fk
  rw [if_neg (by omega), if_neg (by omega)]
def lkp : List (Nat × Value) → Nat → Option Value
  | [], _ => none
  | q :: r, i => bif Nat.beq q.1 i then some q.2 else lkp r i
theorem lkp_mem {L : List (Nat × Value)} {i : Nat} {v : Value} (h : lkp L i = some v) : (i, v) ∈ L := by
  induction L with
  | nil => cases h
  | cons q r ih =>
    unfold lkp at h
    cases hq : Nat.beq q.1 i with
    | true =>
      rw [hq] at h
      have e := Nat.eq_of_beq_eq_true hq
      cases h
      rw [← e]
      exact List.mem_cons_self
    | false =>
      rw [hq] at h
      exact List.mem_cons_of_mem _ (ih h)
theorem lkp_at {ls : Array Slot} {nL : Nat} {L : List (Nat × Value)} (h : lv_has ls nL L) {i : Nat} {v : Value} (hk : lkp L i = some v) : ls[i]? = some (.val v) := h.2.2 (i, v) (lkp_mem hk)
/-- a field's link, as the pool of the class 'own' has it: class ci of vwCl, slot j -/
def FLk (own : String) (idx ci j : Nat) : Prop := ∃ (C : String) (T : u_T) (N : Nat) (ref : String) (ty0 : Nat → FieldType), vwCl[ci]? = some (C, T, N) ∧ j < N ∧ (∀ w ∈ u_ws C T N, w ∈ AL) ∧ Cond.fieldLink own idx ref (T j).2.1 (T j).2.2.1 ∈ AL ∧ ((T j).1 = ref ∨ Cond.sameField ref (T j).1 (T j).2.1 (T j).2.2.1 ∈ AL) ∧ (∀ k, k < N → parseFieldDescriptor (T k).2.2.1 = some (ty0 k)) ∧ (∀ a, a < N → ∀ b, b < N → a ≠ b → (T a).2.1 ≠ (T b).2.1)
def FLw (ci j : Nat) (ty : FieldType) : Prop := ∀ (C : String) (T : u_T) (N : Nat), vwCl[ci]? = some (C, T, N) → (T j).2.2.2 = false ∧ parseFieldDescriptor (T j).2.2.1 = some ty
section ROWS
variable {p : Program} {l : Launch} {e : Env} {R : Room} {s : State} {m : MethodId} {args : Array Value} {below : List Frame} {meth : Method} {c : Code} {cc : ByteArray} {nL : Nat} {own : String} {rt : Option FieldType} {D : va_G} {ct : Nat → ClassId} {A : Nat → Nat} {T : Type} {emb : T → Option Value × Sg} {pc : Nat} {L : List (Nat × Value)} {st : List Value} {σ : Sg} {f : Option T}
theorem m_iconst (C : Cx p m c cc nL s args own meth rt D ct A) {n : Int} {v : Int32} (hd : decode cc pc = .ok (.iconst n, 1)) (hv : Int32.ofInt n = v) (k : Wm p l e R s m args below meth c D ct A nL emb (pc + 1) L (.int v :: st) σ f) : Wm p l e R s m args below meth c D ct A nL emb pc L st σ f := fun o ho H locs ls hP hS hl => lv_iconst C.1.1 C.1.2.1 hd hv (k o ho H locs ls hP hS hl)
theorem m_bipush (C : Cx p m c cc nL s args own meth rt D ct A) {n : Int} {v : Int32} (hd : decode cc pc = .ok (.bipush n, 2)) (hv : (Int8.ofInt n).toInt32 = v) (k : Wm p l e R s m args below meth c D ct A nL emb (pc + 2) L (.int v :: st) σ f) : Wm p l e R s m args below meth c D ct A nL emb pc L st σ f := fun o ho H locs ls hP hS hl => lv_bipush C.1.1 C.1.2.1 hd hv (k o ho H locs ls hP hS hl)
theorem m_sipush (C : Cx p m c cc nL s args own meth rt D ct A) {n : Int} {v : Int32} (hd : decode cc pc = .ok (.sipush n, 3)) (hv : (Int16.ofInt n).toInt32 = v) (k : Wm p l e R s m args below meth c D ct A nL emb (pc + 3) L (.int v :: st) σ f) : Wm p l e R s m args below meth c D ct A nL emb pc L st σ f := fun o ho H locs ls hP hS hl => lv_sipush C.1.1 C.1.2.1 hd hv (k o ho H locs ls hP hS hl)
theorem m_lconst (C : Cx p m c cc nL s args own meth rt D ct A) {n : Fin 2} {v : Int64} (hd : decode cc pc = .ok (.lconst n, 1)) (hv : Int64.ofNat (n : Nat) = v) (k : Wm p l e R s m args below meth c D ct A nL emb (pc + 1) L (.long v :: st) σ f) : Wm p l e R s m args below meth c D ct A nL emb pc L st σ f := fun o ho H locs ls hP hS hl => lv_lconst C.1.1 C.1.2.1 hd hv (k o ho H locs ls hP hS hl)
theorem m_ldc (C : Cx p m c cc nL s args own meth rt D ct A) {i : Nat} {v : Int32} (hc : Cond.constant own i v ∈ AL) (hd : decode cc pc = .ok (.ldc i, 2)) (k : Wm p l e R s m args below meth c D ct A nL emb (pc + 2) L (.int v :: st) σ f) : Wm p l e R s m args below meth c D ct A nL emb pc L st σ f := fun o ho H locs ls hP hS hl => lv_ldc C.1.1 C.1.2.1 C.1.2.2.2.1 (C.1.2.2.2.2 _ hc) hd (k o ho H locs ls hP hS hl)
theorem m_ldcw (C : Cx p m c cc nL s args own meth rt D ct A) {i : Nat} {v : Int32} (hc : Cond.constant own i v ∈ AL) (hd : decode cc pc = .ok (.ldc_w i, 3)) (k : Wm p l e R s m args below meth c D ct A nL emb (pc + 3) L (.int v :: st) σ f) : Wm p l e R s m args below meth c D ct A nL emb pc L st σ f := fun o ho H locs ls hP hS hl => lv_ldcw C.1.1 C.1.2.1 C.1.2.2.2.1 (C.1.2.2.2.2 _ hc) hd (k o ho H locs ls hP hS hl)
theorem m_ldc2 (C : Cx p m c cc nL s args own meth rt D ct A) {i : Nat} {v : Int64} (hc : Cond.constantLong own i v ∈ AL) (hd : decode cc pc = .ok (.ldc2_w i, 3)) (k : Wm p l e R s m args below meth c D ct A nL emb (pc + 3) L (.long v :: st) σ f) : Wm p l e R s m args below meth c D ct A nL emb pc L st σ f := fun o ho H locs ls hP hS hl => lv_ldc2 C.1.1 C.1.2.1 C.1.2.2.2.1 (C.1.2.2.2.2 _ hc) hd (k o ho H locs ls hP hS hl)
theorem m_null (C : Cx p m c cc nL s args own meth rt D ct A) (hd : decode cc pc = .ok (.aconst_null, 1)) (k : Wm p l e R s m args below meth c D ct A nL emb (pc + 1) L (.null :: st) σ f) : Wm p l e R s m args below meth c D ct A nL emb pc L st σ f := fun o ho H locs ls hP hS hl => lv_null C.1.1 C.1.2.1 hd (k o ho H locs ls hP hS hl)
theorem m_iload_n (C : Cx p m c cc nL s args own meth rt D ct A) {i : Fin 4} {x : Int32} (hd : decode cc pc = .ok (.iload_n i, 1)) (hx : lkp L i = some (.int x)) (k : Wm p l e R s m args below meth c D ct A nL emb (pc + 1) L (.int x :: st) σ f) : Wm p l e R s m args below meth c D ct A nL emb pc L st σ f := fun o ho H locs ls hP hS hl => lv_iload_n C.1.1 C.1.2.1 hd rfl (lkp_at hl hx) (k o ho H locs ls hP hS hl)
theorem m_iload (C : Cx p m c cc nL s args own meth rt D ct A) {i : Nat} {x : Int32} (hd : decode cc pc = .ok (.iload i, 2)) (hx : lkp L i = some (.int x)) (k : Wm p l e R s m args below meth c D ct A nL emb (pc + 2) L (.int x :: st) σ f) : Wm p l e R s m args below meth c D ct A nL emb pc L st σ f := fun o ho H locs ls hP hS hl => lv_iload C.1.1 C.1.2.1 hd (lkp_at hl hx) (k o ho H locs ls hP hS hl)
theorem m_istore_n (C : Cx p m c cc nL s args own meth rt D ct A) {j : Fin 4} {i : Nat} {x : Int32} {L2 : List (Nat × Value)} (hd : decode cc pc = .ok (.istore_n j, 1)) (hi : (j : Nat) = i) (hn : i < nL) (hL : (i, Value.int x) :: L.filter (fun q => !(q.1 == i) && !(q.1 + 1 == i && q.2.category == 2)) = L2) (k : Wm p l e R s m args below meth c D ct A nL emb (pc + 1) L2 st σ f) : Wm p l e R s m args below meth c D ct A nL emb pc L (.int x :: st) σ f := fun o ho H locs ls hP hS hl => lv_istore_n C.1.1 C.1.2.1 hd hi hl hn hL (fun ls hl => k o ho H locs ls hP hS hl)
theorem m_istore (C : Cx p m c cc nL s args own meth rt D ct A) {i : Nat} {x : Int32} {L2 : List (Nat × Value)} (hd : decode cc pc = .ok (.istore i, 2)) (hn : i < nL) (hL : (i, Value.int x) :: L.filter (fun q => !(q.1 == i) && !(q.1 + 1 == i && q.2.category == 2)) = L2) (k : Wm p l e R s m args below meth c D ct A nL emb (pc + 2) L2 st σ f) : Wm p l e R s m args below meth c D ct A nL emb pc L (.int x :: st) σ f := fun o ho H locs ls hP hS hl => lv_istore C.1.1 C.1.2.1 hd hl hn hL (fun ls hl => k o ho H locs ls hP hS hl)
theorem m_lload_n (C : Cx p m c cc nL s args own meth rt D ct A) {i : Fin 4} {x : Int64} (hd : decode cc pc = .ok (.lload_n i, 1)) (hx : lkp L i = some (.long x)) (k : Wm p l e R s m args below meth c D ct A nL emb (pc + 1) L (.long x :: st) σ f) : Wm p l e R s m args below meth c D ct A nL emb pc L st σ f := fun o ho H locs ls hP hS hl => lv_lload_n C.1.1 C.1.2.1 hd rfl (lkp_at hl hx) (k o ho H locs ls hP hS hl)
theorem m_lload (C : Cx p m c cc nL s args own meth rt D ct A) {i : Nat} {x : Int64} (hd : decode cc pc = .ok (.lload i, 2)) (hx : lkp L i = some (.long x)) (k : Wm p l e R s m args below meth c D ct A nL emb (pc + 2) L (.long x :: st) σ f) : Wm p l e R s m args below meth c D ct A nL emb pc L st σ f := fun o ho H locs ls hP hS hl => lv_lload C.1.1 C.1.2.1 hd (lkp_at hl hx) (k o ho H locs ls hP hS hl)
theorem m_lstore_n (C : Cx p m c cc nL s args own meth rt D ct A) {j : Fin 4} {i : Nat} {x : Int64} {L2 : List (Nat × Value)} (hd : decode cc pc = .ok (.lstore_n j, 1)) (hi : (j : Nat) = i) (hn : i + 1 < nL) (hL : (i, Value.long x) :: L.filter (fun q => !(q.1 == i) && (!(q.1 == i + 1) && !(q.1 + 1 == i && q.2.category == 2))) = L2) (k : Wm p l e R s m args below meth c D ct A nL emb (pc + 1) L2 st σ f) : Wm p l e R s m args below meth c D ct A nL emb pc L (.long x :: st) σ f := fun o ho H locs ls hP hS hl => lv_lstore_n C.1.1 C.1.2.1 hd hi hl hn hL (fun ls hl => k o ho H locs ls hP hS hl)
theorem m_lstore (C : Cx p m c cc nL s args own meth rt D ct A) {i : Nat} {x : Int64} {L2 : List (Nat × Value)} (hd : decode cc pc = .ok (.lstore i, 2)) (hn : i + 1 < nL) (hL : (i, Value.long x) :: L.filter (fun q => !(q.1 == i) && (!(q.1 == i + 1) && !(q.1 + 1 == i && q.2.category == 2))) = L2) (k : Wm p l e R s m args below meth c D ct A nL emb (pc + 2) L2 st σ f) : Wm p l e R s m args below meth c D ct A nL emb pc L (.long x :: st) σ f := fun o ho H locs ls hP hS hl => lv_lstore C.1.1 C.1.2.1 hd hl hn hL (fun ls hl => k o ho H locs ls hP hS hl)
theorem m_aload_n (C : Cx p m c cc nL s args own meth rt D ct A) {i : Fin 4} {x : Nat} (hd : decode cc pc = .ok (.aload_n i, 1)) (hx : lkp L i = some (.ref x)) (k : Wm p l e R s m args below meth c D ct A nL emb (pc + 1) L (.ref x :: st) σ f) : Wm p l e R s m args below meth c D ct A nL emb pc L st σ f := fun o ho H locs ls hP hS hl => lv_aload_n C.1.1 C.1.2.1 hd rfl (lkp_at hl hx) (k o ho H locs ls hP hS hl)
theorem m_aload (C : Cx p m c cc nL s args own meth rt D ct A) {i : Nat} {x : Nat} (hd : decode cc pc = .ok (.aload i, 2)) (hx : lkp L i = some (.ref x)) (k : Wm p l e R s m args below meth c D ct A nL emb (pc + 2) L (.ref x :: st) σ f) : Wm p l e R s m args below meth c D ct A nL emb pc L st σ f := fun o ho H locs ls hP hS hl => lv_aload C.1.1 C.1.2.1 hd (lkp_at hl hx) (k o ho H locs ls hP hS hl)
theorem m_astore_n (C : Cx p m c cc nL s args own meth rt D ct A) {j : Fin 4} {i : Nat} {x : Nat} {L2 : List (Nat × Value)} (hd : decode cc pc = .ok (.astore_n j, 1)) (hi : (j : Nat) = i) (hn : i < nL) (hL : (i, Value.ref x) :: L.filter (fun q => !(q.1 == i) && !(q.1 + 1 == i && q.2.category == 2)) = L2) (k : Wm p l e R s m args below meth c D ct A nL emb (pc + 1) L2 st σ f) : Wm p l e R s m args below meth c D ct A nL emb pc L (.ref x :: st) σ f := fun o ho H locs ls hP hS hl => lv_astore_n C.1.1 C.1.2.1 hd hi hl hn hL (fun ls hl => k o ho H locs ls hP hS hl)
theorem m_astore (C : Cx p m c cc nL s args own meth rt D ct A) {i : Nat} {x : Nat} {L2 : List (Nat × Value)} (hd : decode cc pc = .ok (.astore i, 2)) (hn : i < nL) (hL : (i, Value.ref x) :: L.filter (fun q => !(q.1 == i) && !(q.1 + 1 == i && q.2.category == 2)) = L2) (k : Wm p l e R s m args below meth c D ct A nL emb (pc + 2) L2 st σ f) : Wm p l e R s m args below meth c D ct A nL emb pc L (.ref x :: st) σ f := fun o ho H locs ls hP hS hl => lv_astore C.1.1 C.1.2.1 hd hl hn hL (fun ls hl => k o ho H locs ls hP hS hl)
theorem m_aload_nr (C : Cx p m c cc nL s args own meth rt D ct A) {i : Fin 4} {r : Nat} (hd : decode cc pc = .ok (.aload_n i, 1)) (hx : lkp L i = some (rfv A r)) (k : Wm p l e R s m args below meth c D ct A nL emb (pc + 1) L (rfv A r :: st) σ f) : Wm p l e R s m args below meth c D ct A nL emb pc L st σ f := by
  intro o ho H locs ls hP hS hl
  have hk := k o ho H locs ls hP hS hl
  have hx2 := lkp_at hl hx
  by_cases h : r = 0
  · subst h
    exact lv_aload_nN C.1.1 C.1.2.1 hd rfl hx2 hk
  · have e : rfv A r = .ref (A r) := by unfold rfv; rw [if_neg h]; rfl
    rw [e] at hx2 hk
    exact lv_aload_n C.1.1 C.1.2.1 hd rfl hx2 hk
theorem m_iinc (C : Cx p m c cc nL s args own meth rt D ct A) {i : Nat} {n : Int} {x v : Int32} {q : Nat} {L2 : List (Nat × Value)} (hd : decode cc pc = .ok (.iinc i n, 3)) (hq : L[q]? = some (i, .int x)) (hv : x + Int32.ofInt n = v) (hn : i < nL) (hL : (i, Value.int v) :: L.filter (fun q => !(q.1 == i) && !(q.1 + 1 == i && q.2.category == 2)) = L2) (k : Wm p l e R s m args below meth c D ct A nL emb (pc + 3) L2 st σ f) : Wm p l e R s m args below meth c D ct A nL emb pc L st σ f := fun o ho H locs ls hP hS hl => lv_iinc C.1.1 C.1.2.1 hd hl hq hv hn hL (fun ls hl => k o ho H locs ls hP hS hl)
theorem m_iadd (C : Cx p m c cc nL s args own meth rt D ct A) {x y : Int32} (hd : decode cc pc = .ok (.iadd, 1)) (k : Wm p l e R s m args below meth c D ct A nL emb (pc + 1) L (.int (x + y) :: st) σ f) : Wm p l e R s m args below meth c D ct A nL emb pc L (.int y :: .int x :: st) σ f := fun o ho H locs ls hP hS hl => lv_iadd C.1.1 C.1.2.1 hd (k o ho H locs ls hP hS hl)
theorem m_isub (C : Cx p m c cc nL s args own meth rt D ct A) {x y : Int32} (hd : decode cc pc = .ok (.isub, 1)) (k : Wm p l e R s m args below meth c D ct A nL emb (pc + 1) L (.int (x - y) :: st) σ f) : Wm p l e R s m args below meth c D ct A nL emb pc L (.int y :: .int x :: st) σ f := fun o ho H locs ls hP hS hl => lv_isub C.1.1 C.1.2.1 hd (k o ho H locs ls hP hS hl)
theorem m_imul (C : Cx p m c cc nL s args own meth rt D ct A) {x y : Int32} (hd : decode cc pc = .ok (.imul, 1)) (k : Wm p l e R s m args below meth c D ct A nL emb (pc + 1) L (.int (x * y) :: st) σ f) : Wm p l e R s m args below meth c D ct A nL emb pc L (.int y :: .int x :: st) σ f := fun o ho H locs ls hP hS hl => lv_imul C.1.1 C.1.2.1 hd (k o ho H locs ls hP hS hl)
theorem m_iand (C : Cx p m c cc nL s args own meth rt D ct A) {x y : Int32} (hd : decode cc pc = .ok (.iand, 1)) (k : Wm p l e R s m args below meth c D ct A nL emb (pc + 1) L (.int (x &&& y) :: st) σ f) : Wm p l e R s m args below meth c D ct A nL emb pc L (.int y :: .int x :: st) σ f := fun o ho H locs ls hP hS hl => lv_iand C.1.1 C.1.2.1 hd (k o ho H locs ls hP hS hl)
theorem m_ior (C : Cx p m c cc nL s args own meth rt D ct A) {x y : Int32} (hd : decode cc pc = .ok (.ior, 1)) (k : Wm p l e R s m args below meth c D ct A nL emb (pc + 1) L (.int (x ||| y) :: st) σ f) : Wm p l e R s m args below meth c D ct A nL emb pc L (.int y :: .int x :: st) σ f := fun o ho H locs ls hP hS hl => lv_ior C.1.1 C.1.2.1 hd (k o ho H locs ls hP hS hl)
theorem m_ixor (C : Cx p m c cc nL s args own meth rt D ct A) {x y : Int32} (hd : decode cc pc = .ok (.ixor, 1)) (k : Wm p l e R s m args below meth c D ct A nL emb (pc + 1) L (.int (x ^^^ y) :: st) σ f) : Wm p l e R s m args below meth c D ct A nL emb pc L (.int y :: .int x :: st) σ f := fun o ho H locs ls hP hS hl => lv_ixor C.1.1 C.1.2.1 hd (k o ho H locs ls hP hS hl)
theorem m_ishl (C : Cx p m c cc nL s args own meth rt D ct A) {x y : Int32} (hd : decode cc pc = .ok (.ishl, 1)) (k : Wm p l e R s m args below meth c D ct A nL emb (pc + 1) L (.int (x <<< (y &&& 31)) :: st) σ f) : Wm p l e R s m args below meth c D ct A nL emb pc L (.int y :: .int x :: st) σ f := fun o ho H locs ls hP hS hl => lv_ishl C.1.1 C.1.2.1 hd (k o ho H locs ls hP hS hl)
theorem m_ishr (C : Cx p m c cc nL s args own meth rt D ct A) {x y : Int32} (hd : decode cc pc = .ok (.ishr, 1)) (k : Wm p l e R s m args below meth c D ct A nL emb (pc + 1) L (.int (x >>> (y &&& 31)) :: st) σ f) : Wm p l e R s m args below meth c D ct A nL emb pc L (.int y :: .int x :: st) σ f := fun o ho H locs ls hP hS hl => lv_ishr C.1.1 C.1.2.1 hd (k o ho H locs ls hP hS hl)
theorem m_iushr (C : Cx p m c cc nL s args own meth rt D ct A) {x y : Int32} (hd : decode cc pc = .ok (.iushr, 1)) (k : Wm p l e R s m args below meth c D ct A nL emb (pc + 1) L (.int ((x.toUInt32 >>> (y.toUInt32 &&& Int32.toUInt32 31)).toInt32) :: st) σ f) : Wm p l e R s m args below meth c D ct A nL emb pc L (.int y :: .int x :: st) σ f := fun o ho H locs ls hP hS hl => lv_iushr C.1.1 C.1.2.1 hd rfl (k o ho H locs ls hP hS hl)
theorem m_idiv (C : Cx p m c cc nL s args own meth rt D ct A) {x y : Int32} (hd : decode cc pc = .ok (.idiv, 1)) (hne : (y == 0) = false) (k : Wm p l e R s m args below meth c D ct A nL emb (pc + 1) L (.int (x / y) :: st) σ f) : Wm p l e R s m args below meth c D ct A nL emb pc L (.int y :: .int x :: st) σ f := fun o ho H locs ls hP hS hl => lv_idiv C.1.1 C.1.2.1 hd (by simpa using hne) (k o ho H locs ls hP hS hl)
theorem m_irem (C : Cx p m c cc nL s args own meth rt D ct A) {x y : Int32} (hd : decode cc pc = .ok (.irem, 1)) (hne : (y == 0) = false) (k : Wm p l e R s m args below meth c D ct A nL emb (pc + 1) L (.int (x - x / y * y) :: st) σ f) : Wm p l e R s m args below meth c D ct A nL emb pc L (.int y :: .int x :: st) σ f := fun o ho H locs ls hP hS hl => lv_irem C.1.1 C.1.2.1 hd (by simpa using hne) (k o ho H locs ls hP hS hl)
theorem m_ineg (C : Cx p m c cc nL s args own meth rt D ct A) {x : Int32} (hd : decode cc pc = .ok (.ineg, 1)) (k : Wm p l e R s m args below meth c D ct A nL emb (pc + 1) L (.int (-x) :: st) σ f) : Wm p l e R s m args below meth c D ct A nL emb pc L (.int x :: st) σ f := fun o ho H locs ls hP hS hl => lv_ineg C.1.1 C.1.2.1 hd (k o ho H locs ls hP hS hl)
theorem m_ladd (C : Cx p m c cc nL s args own meth rt D ct A) {x y : Int64} (hd : decode cc pc = .ok (.ladd, 1)) (k : Wm p l e R s m args below meth c D ct A nL emb (pc + 1) L (.long (x + y) :: st) σ f) : Wm p l e R s m args below meth c D ct A nL emb pc L (.long y :: .long x :: st) σ f := fun o ho H locs ls hP hS hl => lv_ladd C.1.1 C.1.2.1 hd (k o ho H locs ls hP hS hl)
theorem m_lsub (C : Cx p m c cc nL s args own meth rt D ct A) {x y : Int64} (hd : decode cc pc = .ok (.lsub, 1)) (k : Wm p l e R s m args below meth c D ct A nL emb (pc + 1) L (.long (x - y) :: st) σ f) : Wm p l e R s m args below meth c D ct A nL emb pc L (.long y :: .long x :: st) σ f := fun o ho H locs ls hP hS hl => lv_lsub C.1.1 C.1.2.1 hd (k o ho H locs ls hP hS hl)
theorem m_lmul (C : Cx p m c cc nL s args own meth rt D ct A) {x y : Int64} (hd : decode cc pc = .ok (.lmul, 1)) (k : Wm p l e R s m args below meth c D ct A nL emb (pc + 1) L (.long (x * y) :: st) σ f) : Wm p l e R s m args below meth c D ct A nL emb pc L (.long y :: .long x :: st) σ f := fun o ho H locs ls hP hS hl => lv_lmul C.1.1 C.1.2.1 hd (k o ho H locs ls hP hS hl)
theorem m_land (C : Cx p m c cc nL s args own meth rt D ct A) {x y : Int64} (hd : decode cc pc = .ok (.land, 1)) (k : Wm p l e R s m args below meth c D ct A nL emb (pc + 1) L (.long (x &&& y) :: st) σ f) : Wm p l e R s m args below meth c D ct A nL emb pc L (.long y :: .long x :: st) σ f := fun o ho H locs ls hP hS hl => lv_land C.1.1 C.1.2.1 hd (k o ho H locs ls hP hS hl)
theorem m_lor (C : Cx p m c cc nL s args own meth rt D ct A) {x y : Int64} (hd : decode cc pc = .ok (.lor, 1)) (k : Wm p l e R s m args below meth c D ct A nL emb (pc + 1) L (.long (x ||| y) :: st) σ f) : Wm p l e R s m args below meth c D ct A nL emb pc L (.long y :: .long x :: st) σ f := fun o ho H locs ls hP hS hl => lv_lor C.1.1 C.1.2.1 hd (k o ho H locs ls hP hS hl)
theorem m_ldiv (C : Cx p m c cc nL s args own meth rt D ct A) {x y : Int64} (hd : decode cc pc = .ok (.ldiv, 1)) (hne : (y == 0) = false) (k : Wm p l e R s m args below meth c D ct A nL emb (pc + 1) L (.long (x / y) :: st) σ f) : Wm p l e R s m args below meth c D ct A nL emb pc L (.long y :: .long x :: st) σ f := fun o ho H locs ls hP hS hl => lv_ldiv C.1.1 C.1.2.1 hd (by simpa using hne) (k o ho H locs ls hP hS hl)
theorem m_lneg (C : Cx p m c cc nL s args own meth rt D ct A) {x : Int64} (hd : decode cc pc = .ok (.lneg, 1)) (k : Wm p l e R s m args below meth c D ct A nL emb (pc + 1) L (.long (-x) :: st) σ f) : Wm p l e R s m args below meth c D ct A nL emb pc L (.long x :: st) σ f := fun o ho H locs ls hP hS hl => lv_lneg C.1.1 C.1.2.1 hd (k o ho H locs ls hP hS hl)
theorem m_lshl (C : Cx p m c cc nL s args own meth rt D ct A) {x : Int64} {y : Int32} (hd : decode cc pc = .ok (.lshl, 1)) (k : Wm p l e R s m args below meth c D ct A nL emb (pc + 1) L (.long (x <<< (y.toInt64 &&& 63)) :: st) σ f) : Wm p l e R s m args below meth c D ct A nL emb pc L (.int y :: .long x :: st) σ f := fun o ho H locs ls hP hS hl => lv_lshl C.1.1 C.1.2.1 hd rfl (k o ho H locs ls hP hS hl)
theorem m_i2l (C : Cx p m c cc nL s args own meth rt D ct A) {x : Int32} (hd : decode cc pc = .ok (.i2l, 1)) (k : Wm p l e R s m args below meth c D ct A nL emb (pc + 1) L (.long x.toInt64 :: st) σ f) : Wm p l e R s m args below meth c D ct A nL emb pc L (.int x :: st) σ f := fun o ho H locs ls hP hS hl => lv_i2l C.1.1 C.1.2.1 hd rfl (k o ho H locs ls hP hS hl)
theorem m_l2i (C : Cx p m c cc nL s args own meth rt D ct A) {x : Int64} (hd : decode cc pc = .ok (.l2i, 1)) (k : Wm p l e R s m args below meth c D ct A nL emb (pc + 1) L (.int x.toInt32 :: st) σ f) : Wm p l e R s m args below meth c D ct A nL emb pc L (.long x :: st) σ f := fun o ho H locs ls hP hS hl => lv_l2i C.1.1 C.1.2.1 hd rfl (k o ho H locs ls hP hS hl)
theorem m_i2b (C : Cx p m c cc nL s args own meth rt D ct A) {x : Int32} (hd : decode cc pc = .ok (.i2b, 1)) (k : Wm p l e R s m args below meth c D ct A nL emb (pc + 1) L (.int x.toInt8.toInt32 :: st) σ f) : Wm p l e R s m args below meth c D ct A nL emb pc L (.int x :: st) σ f := fun o ho H locs ls hP hS hl => lv_i2b C.1.1 C.1.2.1 hd rfl (k o ho H locs ls hP hS hl)
theorem m_i2c (C : Cx p m c cc nL s args own meth rt D ct A) {x : Int32} (hd : decode cc pc = .ok (.i2c, 1)) (k : Wm p l e R s m args below meth c D ct A nL emb (pc + 1) L (.int (x.toUInt32 % 65536).toInt32 :: st) σ f) : Wm p l e R s m args below meth c D ct A nL emb pc L (.int x :: st) σ f := fun o ho H locs ls hP hS hl => lv_i2c C.1.1 C.1.2.1 hd rfl (k o ho H locs ls hP hS hl)
theorem m_lcmp (C : Cx p m c cc nL s args own meth rt D ct A) {x y : Int64} (hd : decode cc pc = .ok (.lcmp, 1)) (k : Wm p l e R s m args below meth c D ct A nL emb (pc + 1) L (.int (lg_cmp x y) :: st) σ f) : Wm p l e R s m args below meth c D ct A nL emb pc L (.long y :: .long x :: st) σ f := fun o ho H locs ls hP hS hl => W.lcmp C.1.1 C.1.2.1 hd (k o ho H locs ls hP hS hl)
theorem m_dup (C : Cx p m c cc nL s args own meth rt D ct A) {v : Value} (hd : decode cc pc = .ok (.dup, 1)) (hv : v.category = 1) (k : Wm p l e R s m args below meth c D ct A nL emb (pc + 1) L (v :: v :: st) σ f) : Wm p l e R s m args below meth c D ct A nL emb pc L (v :: st) σ f := fun o ho H locs ls hP hS hl => lv_dup C.1.1 C.1.2.1 hd hv (k o ho H locs ls hP hS hl)
theorem m_pop (C : Cx p m c cc nL s args own meth rt D ct A) {v : Value} (hd : decode cc pc = .ok (.pop, 1)) (hv : v.category = 1) (k : Wm p l e R s m args below meth c D ct A nL emb (pc + 1) L st σ f) : Wm p l e R s m args below meth c D ct A nL emb pc L (v :: st) σ f := fun o ho H locs ls hP hS hl => lv_pop C.1.1 C.1.2.1 hd hv (k o ho H locs ls hP hS hl)
theorem m_dup2 (C : Cx p m c cc nL s args own meth rt D ct A) {v u : Value} (hd : decode cc pc = .ok (.dup2, 1)) (hv : v.category = 1) (hu : u.category = 1) (k : Wm p l e R s m args below meth c D ct A nL emb (pc + 1) L (v :: u :: v :: u :: st) σ f) : Wm p l e R s m args below meth c D ct A nL emb pc L (v :: u :: st) σ f := fun o ho H locs ls hP hS hl => lv_dup2_11 C.1.1 C.1.2.1 hd hv hu (k o ho H locs ls hP hS hl)
theorem m_dup_x1 (C : Cx p m c cc nL s args own meth rt D ct A) {v u : Value} (hd : decode cc pc = .ok (.dup_x1, 1)) (hv : v.category = 1) (hu : u.category = 1) (k : Wm p l e R s m args below meth c D ct A nL emb (pc + 1) L (v :: u :: v :: st) σ f) : Wm p l e R s m args below meth c D ct A nL emb pc L (v :: u :: st) σ f := fun o ho H locs ls hP hS hl => lv_dup_x1 C.1.1 C.1.2.1 hd hv hu (k o ho H locs ls hP hS hl)
theorem m_if_eq (C : Cx p m c cc nL s args own meth rt D ct A) {x : Int32} {off : Int} {tgt : Nat} {fT fF : Option T} (hd : decode cc pc = .ok (.ifCond .eq off, 3)) (ht : (pc : Int) + off = (tgt : Int)) (kt : Wm p l e R s m args below meth c D ct A nL emb tgt L st σ fT) (kf : Wm p l e R s m args below meth c D ct A nL emb (pc + 3) L st σ fF) : Wm p l e R s m args below meth c D ct A nL emb pc L (.int x :: st) σ (if x = 0 then fT else fF) := fun o ho H locs ls hP hS hl => lv_if_eq C.1.1 C.1.2.1 hd ht (fun h => kt o (by rw [← ho, if_pos h]) H locs ls hP hS hl) (fun h => kf o (by rw [← ho, if_neg h]) H locs ls hP hS hl)
theorem m_icmp_eq (C : Cx p m c cc nL s args own meth rt D ct A) {x y : Int32} {off : Int} {tgt : Nat} {fT fF : Option T} (hd : decode cc pc = .ok (.if_icmp .eq off, 3)) (ht : (pc : Int) + off = (tgt : Int)) (kt : Wm p l e R s m args below meth c D ct A nL emb tgt L st σ fT) (kf : Wm p l e R s m args below meth c D ct A nL emb (pc + 3) L st σ fF) : Wm p l e R s m args below meth c D ct A nL emb pc L (.int y :: .int x :: st) σ (if x = y then fT else fF) := fun o ho H locs ls hP hS hl => lv_icmp_eq C.1.1 C.1.2.1 hd ht (fun h => kt o (by rw [← ho, if_pos h]) H locs ls hP hS hl) (fun h => kf o (by rw [← ho, if_neg h]) H locs ls hP hS hl)
theorem m_if_ne (C : Cx p m c cc nL s args own meth rt D ct A) {x : Int32} {off : Int} {tgt : Nat} {fT fF : Option T} (hd : decode cc pc = .ok (.ifCond .ne off, 3)) (ht : (pc : Int) + off = (tgt : Int)) (kt : Wm p l e R s m args below meth c D ct A nL emb tgt L st σ fT) (kf : Wm p l e R s m args below meth c D ct A nL emb (pc + 3) L st σ fF) : Wm p l e R s m args below meth c D ct A nL emb pc L (.int x :: st) σ (if x = 0 then fF else fT) := fun o ho H locs ls hP hS hl => lv_if_ne C.1.1 C.1.2.1 hd ht (fun h => kt o (by rw [← ho, if_neg h]) H locs ls hP hS hl) (fun h => kf o (by rw [← ho, if_pos h]) H locs ls hP hS hl)
theorem m_icmp_ne (C : Cx p m c cc nL s args own meth rt D ct A) {x y : Int32} {off : Int} {tgt : Nat} {fT fF : Option T} (hd : decode cc pc = .ok (.if_icmp .ne off, 3)) (ht : (pc : Int) + off = (tgt : Int)) (kt : Wm p l e R s m args below meth c D ct A nL emb tgt L st σ fT) (kf : Wm p l e R s m args below meth c D ct A nL emb (pc + 3) L st σ fF) : Wm p l e R s m args below meth c D ct A nL emb pc L (.int y :: .int x :: st) σ (if x = y then fF else fT) := fun o ho H locs ls hP hS hl => lv_icmp_ne C.1.1 C.1.2.1 hd ht (fun h => kt o (by rw [← ho, if_neg h]) H locs ls hP hS hl) (fun h => kf o (by rw [← ho, if_pos h]) H locs ls hP hS hl)
theorem m_if_lt (C : Cx p m c cc nL s args own meth rt D ct A) {x : Int32} {off : Int} {tgt : Nat} {fT fF : Option T} (hd : decode cc pc = .ok (.ifCond .lt off, 3)) (ht : (pc : Int) + off = (tgt : Int)) (kt : Wm p l e R s m args below meth c D ct A nL emb tgt L st σ fT) (kf : Wm p l e R s m args below meth c D ct A nL emb (pc + 3) L st σ fF) : Wm p l e R s m args below meth c D ct A nL emb pc L (.int x :: st) σ (if x < 0 then fT else fF) := fun o ho H locs ls hP hS hl => lv_if_lt C.1.1 C.1.2.1 hd ht (fun h => kt o (by rw [← ho, if_pos h]) H locs ls hP hS hl) (fun h => kf o (by rw [← ho, if_neg h]) H locs ls hP hS hl)
theorem m_icmp_lt (C : Cx p m c cc nL s args own meth rt D ct A) {x y : Int32} {off : Int} {tgt : Nat} {fT fF : Option T} (hd : decode cc pc = .ok (.if_icmp .lt off, 3)) (ht : (pc : Int) + off = (tgt : Int)) (kt : Wm p l e R s m args below meth c D ct A nL emb tgt L st σ fT) (kf : Wm p l e R s m args below meth c D ct A nL emb (pc + 3) L st σ fF) : Wm p l e R s m args below meth c D ct A nL emb pc L (.int y :: .int x :: st) σ (if x < y then fT else fF) := fun o ho H locs ls hP hS hl => lv_icmp_lt C.1.1 C.1.2.1 hd ht (fun h => kt o (by rw [← ho, if_pos h]) H locs ls hP hS hl) (fun h => kf o (by rw [← ho, if_neg h]) H locs ls hP hS hl)
theorem m_if_ge (C : Cx p m c cc nL s args own meth rt D ct A) {x : Int32} {off : Int} {tgt : Nat} {fT fF : Option T} (hd : decode cc pc = .ok (.ifCond .ge off, 3)) (ht : (pc : Int) + off = (tgt : Int)) (kt : Wm p l e R s m args below meth c D ct A nL emb tgt L st σ fT) (kf : Wm p l e R s m args below meth c D ct A nL emb (pc + 3) L st σ fF) : Wm p l e R s m args below meth c D ct A nL emb pc L (.int x :: st) σ (if 0 ≤ x then fT else fF) := fun o ho H locs ls hP hS hl => lv_if_ge C.1.1 C.1.2.1 hd ht (fun h => kt o (by rw [← ho, if_pos h]) H locs ls hP hS hl) (fun h => kf o (by rw [← ho, if_neg h]) H locs ls hP hS hl)
theorem m_icmp_ge (C : Cx p m c cc nL s args own meth rt D ct A) {x y : Int32} {off : Int} {tgt : Nat} {fT fF : Option T} (hd : decode cc pc = .ok (.if_icmp .ge off, 3)) (ht : (pc : Int) + off = (tgt : Int)) (kt : Wm p l e R s m args below meth c D ct A nL emb tgt L st σ fT) (kf : Wm p l e R s m args below meth c D ct A nL emb (pc + 3) L st σ fF) : Wm p l e R s m args below meth c D ct A nL emb pc L (.int y :: .int x :: st) σ (if y ≤ x then fT else fF) := fun o ho H locs ls hP hS hl => lv_icmp_ge C.1.1 C.1.2.1 hd ht (fun h => kt o (by rw [← ho, if_pos h]) H locs ls hP hS hl) (fun h => kf o (by rw [← ho, if_neg h]) H locs ls hP hS hl)
theorem m_if_gt (C : Cx p m c cc nL s args own meth rt D ct A) {x : Int32} {off : Int} {tgt : Nat} {fT fF : Option T} (hd : decode cc pc = .ok (.ifCond .gt off, 3)) (ht : (pc : Int) + off = (tgt : Int)) (kt : Wm p l e R s m args below meth c D ct A nL emb tgt L st σ fT) (kf : Wm p l e R s m args below meth c D ct A nL emb (pc + 3) L st σ fF) : Wm p l e R s m args below meth c D ct A nL emb pc L (.int x :: st) σ (if 0 < x then fT else fF) := fun o ho H locs ls hP hS hl => lv_if_gt C.1.1 C.1.2.1 hd ht (fun h => kt o (by rw [← ho, if_pos h]) H locs ls hP hS hl) (fun h => kf o (by rw [← ho, if_neg h]) H locs ls hP hS hl)
theorem m_icmp_gt (C : Cx p m c cc nL s args own meth rt D ct A) {x y : Int32} {off : Int} {tgt : Nat} {fT fF : Option T} (hd : decode cc pc = .ok (.if_icmp .gt off, 3)) (ht : (pc : Int) + off = (tgt : Int)) (kt : Wm p l e R s m args below meth c D ct A nL emb tgt L st σ fT) (kf : Wm p l e R s m args below meth c D ct A nL emb (pc + 3) L st σ fF) : Wm p l e R s m args below meth c D ct A nL emb pc L (.int y :: .int x :: st) σ (if y < x then fT else fF) := fun o ho H locs ls hP hS hl => lv_icmp_gt C.1.1 C.1.2.1 hd ht (fun h => kt o (by rw [← ho, if_pos h]) H locs ls hP hS hl) (fun h => kf o (by rw [← ho, if_neg h]) H locs ls hP hS hl)
theorem m_if_le (C : Cx p m c cc nL s args own meth rt D ct A) {x : Int32} {off : Int} {tgt : Nat} {fT fF : Option T} (hd : decode cc pc = .ok (.ifCond .le off, 3)) (ht : (pc : Int) + off = (tgt : Int)) (kt : Wm p l e R s m args below meth c D ct A nL emb tgt L st σ fT) (kf : Wm p l e R s m args below meth c D ct A nL emb (pc + 3) L st σ fF) : Wm p l e R s m args below meth c D ct A nL emb pc L (.int x :: st) σ (if x ≤ 0 then fT else fF) := fun o ho H locs ls hP hS hl => lv_if_le C.1.1 C.1.2.1 hd ht (fun h => kt o (by rw [← ho, if_pos h]) H locs ls hP hS hl) (fun h => kf o (by rw [← ho, if_neg h]) H locs ls hP hS hl)
theorem m_icmp_le (C : Cx p m c cc nL s args own meth rt D ct A) {x y : Int32} {off : Int} {tgt : Nat} {fT fF : Option T} (hd : decode cc pc = .ok (.if_icmp .le off, 3)) (ht : (pc : Int) + off = (tgt : Int)) (kt : Wm p l e R s m args below meth c D ct A nL emb tgt L st σ fT) (kf : Wm p l e R s m args below meth c D ct A nL emb (pc + 3) L st σ fF) : Wm p l e R s m args below meth c D ct A nL emb pc L (.int y :: .int x :: st) σ (if x ≤ y then fT else fF) := fun o ho H locs ls hP hS hl => lv_icmp_le C.1.1 C.1.2.1 hd ht (fun h => kt o (by rw [← ho, if_pos h]) H locs ls hP hS hl) (fun h => kf o (by rw [← ho, if_neg h]) H locs ls hP hS hl)
theorem m_goto (C : Cx p m c cc nL s args own meth rt D ct A) {off : Int} {tgt : Nat} (hd : decode cc pc = .ok (.goto off, 3)) (ht : (pc : Int) + off = (tgt : Int)) (k : Wm p l e R s m args below meth c D ct A nL emb tgt L st σ f) : Wm p l e R s m args below meth c D ct A nL emb pc L st σ f := fun o ho H locs ls hP hS hl => lv_goto C.1.1 C.1.2.1 hd ht (k o ho H locs ls hP hS hl)
theorem m_ifnull (C : Cx p m c cc nL s args own meth rt D ct A) {r : Nat} {off : Int} {tgt : Nat} {fT fF : Option T} (hd : decode cc pc = .ok (.ifnull off, 3)) (ht : (pc : Int) + off = (tgt : Int)) (kt : Wm p l e R s m args below meth c D ct A nL emb tgt L st σ fT) (kf : Wm p l e R s m args below meth c D ct A nL emb (pc + 3) L st σ fF) : Wm p l e R s m args below meth c D ct A nL emb pc L (rfv A r :: st) σ (if r = 0 then fT else fF) := by
  intro o ho H locs ls hP hS hl
  by_cases h : r = 0
  · rw [if_pos h] at ho
    subst h
    exact lv_ifnullN C.1.1 C.1.2.1 hd ht (kt o ho H locs ls hP hS hl)
  · rw [if_neg h] at ho
    have e : rfv A r = .ref (A r) := by unfold rfv; rw [if_neg h]; rfl
    rw [e]
    exact lv_ifnull C.1.1 C.1.2.1 hd (kf o ho H locs ls hP hS hl)
theorem m_tbl (C : Cx p m c cc nL s args own meth rt D ct A) {x : Int32} {dflt lo hi : Int} {offs : Array Int} {len : Nat} (n : Nat) (hd : decode cc pc = .ok (.tableswitch dflt lo hi offs, len)) (v : Int32) (off : Int) (tgt : Nat) {fT fF : Option T} (hv : ¬ v.toInt < lo ∧ ¬ hi < v.toInt ∧ offs[(v.toInt - lo).toNat]? = some off ∧ (pc : Int) + off = (tgt : Int)) (kt : Wm p l e R s m args below meth c D ct A nL emb tgt L st σ fT) (kf : x ≠ v → Wm p l e R s m args below meth c D ct A nL emb pc L (.int x :: st) σ fF) : Wm p l e R s m args below meth c D ct A nL emb pc L (.int x :: st) σ (if x = v then fT else fF) := by
  intro o ho H locs ls hP hS hl
  by_cases h : x = v
  · rw [if_pos h] at ho
    subst h
    exact lv_tableIn C.1.1 C.1.2.1 hd hv.1 hv.2.1 hv.2.2.1 hv.2.2.2 (kt o ho H locs ls hP hS hl)
  · rw [if_neg h] at ho
    exact kf h o ho H locs ls hP hS hl
theorem m_tblD (C : Cx p m c cc nL s args own meth rt D ct A) {x : Int32} {dflt lo hi : Int} {offs : Array Int} {len : Nat} (hd : decode cc pc = .ok (.tableswitch dflt lo hi offs, len)) (tgt : Nat) (ht : (pc : Int) + dflt = (tgt : Int)) (hx : x.toInt < lo ∨ hi < x.toInt ∨ offs[(x.toInt - lo).toNat]? = some dflt) (k : Wm p l e R s m args below meth c D ct A nL emb tgt L st σ f) : Wm p l e R s m args below meth c D ct A nL emb pc L (.int x :: st) σ f := by
  intro o ho H locs ls hP hS hl
  have hk := k o ho H locs ls hP hS hl
  by_cases h1 : x.toInt < lo
  · exact lv_tableOut C.1.1 C.1.2.1 hd (Or.inl h1) ht hk
  · by_cases h2 : hi < x.toInt
    · exact lv_tableOut C.1.1 C.1.2.1 hd (Or.inr h2) ht hk
    · exact lv_tableIn C.1.1 C.1.2.1 hd h1 h2 (hx.elim (fun q => absurd q h1) (fun q => q.elim (fun q => absurd q h2) id)) ht hk
theorem m_lku (C : Cx p m c cc nL s args own meth rt D ct A) {x : Int32} {dflt : Int} {ps : Array (Int × Int)} {len : Nat} (hd : decode cc pc = .ok (.lookupswitch dflt ps, len)) (hp : (ps.toList.zip (ps.toList.drop 1)).all (fun (a, next) => a.1 < next.1) = true) (v : Int32) (off : Int) (tgt : Nat) {fT fF : Option T} (hv : Op.lookupswitch.offset ps.toList dflt v.toInt = off ∧ (pc : Int) + off = (tgt : Int)) (kt : Wm p l e R s m args below meth c D ct A nL emb tgt L st σ fT) (kf : x ≠ v → Wm p l e R s m args below meth c D ct A nL emb pc L (.int x :: st) σ fF) : Wm p l e R s m args below meth c D ct A nL emb pc L (.int x :: st) σ (if x = v then fT else fF) := by
  intro o ho H locs ls hP hS hl
  by_cases h : x = v
  · rw [if_pos h] at ho
    subst h
    exact lv_lookup C.1.1 C.1.2.1 hd hp hv.1 hv.2 (kt o ho H locs ls hP hS hl)
  · rw [if_neg h] at ho
    exact kf h o ho H locs ls hP hS hl
theorem m_lkuD (C : Cx p m c cc nL s args own meth rt D ct A) {x : Int32} {dflt : Int} {ps : Array (Int × Int)} {len : Nat} (hd : decode cc pc = .ok (.lookupswitch dflt ps, len)) (hp : (ps.toList.zip (ps.toList.drop 1)).all (fun (a, next) => a.1 < next.1) = true) (tgt : Nat) (ht : (pc : Int) + dflt = (tgt : Int)) (hx : Op.lookupswitch.offset ps.toList dflt x.toInt = dflt) (k : Wm p l e R s m args below meth c D ct A nL emb tgt L st σ f) : Wm p l e R s m args below meth c D ct A nL emb pc L (.int x :: st) σ f :=
  fun o ho H locs ls hP hS hl => lv_lookup C.1.1 C.1.2.1 hd hp hx ht (k o ho H locs ls hP hS hl)
/-! the model's own words -/
theorem m_none : Wm p l e R s m args below meth c D ct A nL emb pc L st σ (none : Option T) := fun o ho => by cases ho
theorem m_chk {b : Bool} {f : Option T} (k : b = true → Wm p l e R s m args below meth c D ct A nL emb pc L st σ f) : Wm p l e R s m args below meth c D ct A nL emb pc L st σ (chk b f) := by
  intro o ho
  cases b with
  | true => exact k rfl o ho
  | false => cases ho
theorem m_let {x : Int32} {K : Int32 → Option T} (k : ∀ y, Wm p l e R s m args below meth c D ct A nL emb pc L (.int y :: st) σ (K y)) : Wm p l e R s m args below meth c D ct A nL emb pc L (.int x :: st) σ (bv x K) := k x
theorem m_letl {x : Int64} {K : Int64 → Option T} (k : ∀ y, Wm p l e R s m args below meth c D ct A nL emb pc L (.long y :: st) σ (K y)) : Wm p l e R s m args below meth c D ct A nL emb pc L (.long x :: st) σ (bv x K) := k x
theorem m_letr {x : Nat} {K : Nat → Option T} (k : ∀ y, Wm p l e R s m args below meth c D ct A nL emb pc L (.ref (A y) :: st) σ (K y)) : Wm p l e R s m args below meth c D ct A nL emb pc L (.ref (A x) :: st) σ (bv x K) := k x
theorem m_loc {L2 : List (Nat × Value)} (ks : List Nat) (hL : lv_pick L ks = L2) (k : Wm p l e R s m args below meth c D ct A nL emb pc L2 st σ f) : Wm p l e R s m args below meth c D ct A nL emb pc L st σ f := fun o ho H locs ls hP hS hl => k o ho H locs ls hP hS (lv_sub hl ks hL)
theorem m_rf {r : Nat} (h : r ≠ 0) (k : Wm p l e R s m args below meth c D ct A nL emb pc L (.ref (A r) :: st) σ f) : Wm p l e R s m args below meth c D ct A nL emb pc L (rfv A r :: st) σ f := by
  have e : rfv A r = .ref (A r) := by unfold rfv; rw [if_neg h]; rfl
  rw [e]
  exact k
theorem m_fr {r : Nat} (h : r ≠ 0) (k : Wm p l e R s m args below meth c D ct A nL emb pc L (rfv A r :: st) σ f) : Wm p l e R s m args below meth c D ct A nL emb pc L (.ref (A r) :: st) σ f := by
  have e : rfv A r = .ref (A r) := by unfold rfv; rw [if_neg h]; rfl
  rw [e] at k
  exact k
/-! returns -/
theorem m_iret (C : Cx p m c cc nL s args own meth (some .int) D ct A) {x : Int32} (hd : decode cc pc = .ok (.ireturn, 1)) : Wm p l e R s m args below meth c D ct A nL embI pc L [.int x] σ (some (x, σ)) := by
  intro o ho H locs ls hP hS hl
  cases ho
  exact W.iret (v := x) C.1.1 C.1.2.1 C.2.1 (fun t ht hW => ⟨⟨rfl, by rw [ht]; exact hP⟩, hS.F ht⟩) hS.2.2 hd C.2.2.1
theorem m_cret (C : Cx p m c cc nL s args own meth (some .char) D ct A) {x : Int32} (hn : narrow .char (.int x) = .int x) (hd : decode cc pc = .ok (.ireturn, 1)) : Wm p l e R s m args below meth c D ct A nL embI pc L [.int x] σ (some (x, σ)) := by
  intro o ho H locs ls hP hS hl
  cases ho
  exact W.zret (v := x) C.1.1 C.1.2.1 C.2.1 hn (fun t ht hW => ⟨⟨rfl, by rw [ht]; exact hP⟩, hS.F ht⟩) hS.2.2 hd C.2.2.1
theorem m_zret (C : Cx p m c cc nL s args own meth (some .boolean) D ct A) {x : Int32} (b : Bool) (hx : x = b2i b) (hd : decode cc pc = .ok (.ireturn, 1)) : Wm p l e R s m args below meth c D ct A nL embZ pc L [.int x] σ (some (b, σ)) := by
  intro o ho H locs ls hP hS hl
  cases ho
  subst hx
  exact W.zret (v := b2i b) C.1.1 C.1.2.1 C.2.1 (by cases b <;> rfl) (fun t ht hW => ⟨⟨rfl, by rw [ht]; exact hP⟩, hS.F ht⟩) hS.2.2 hd C.2.2.1
theorem m_lret (C : Cx p m c cc nL s args own meth (some .long) D ct A) {x : Int64} (hd : decode cc pc = .ok (.lreturn, 1)) : Wm p l e R s m args below meth c D ct A nL embL pc L [.long x] σ (some (x, σ)) := by
  intro o ho H locs ls hP hS hl
  cases ho
  exact W.lret (v := x) C.1.1 C.1.2.1 C.2.1 (fun t ht hW => ⟨⟨rfl, by rw [ht]; exact hP⟩, hS.F ht⟩) hS.2.2 hd C.2.2.1
theorem m_vret (C : Cx p m c cc nL s args own meth none D ct A) (hd : decode cc pc = .ok (.return_, 1)) : Wm p l e R s m args below meth c D ct A nL embV pc L [] σ (some σ) := by
  intro o ho H locs ls hP hS hl
  cases ho
  exact W.vret C.1.1 C.1.2.1 C.2.1 (fun t ht hW => ⟨⟨rfl, by rw [ht]; exact hP⟩, hS.F ht⟩) hS.2.2 hd C.2.2.1
/-! fields -/
theorem m_get (C : Cx p m c cc nL s args own meth rt D ct A) {idx ci n j k : Nat} (F : FLk own idx ci j) (hk : lay k = (0, ci, n)) (hj : j < n) {v : Value} (hv : fv A σ k j = v) (hd : decode cc pc = .ok (.getfield idx, 3)) (kk : Wm p l e R s m args below meth c D ct A nL emb (pc + 3) L (v :: st) σ f) : Wm p l e R s m args below meth c D ct A nL emb pc L (.ref (A k) :: st) σ f := by
  intro o ho H locs ls hP hS hl
  obtain ⟨Cn, T0, N, ref, ty0, hc, hjN, hin, hlink, hsm, hty, hnm⟩ := F
  refine va_get (D := D) (ci := ci) (v := v) (C := Cn) (T := T0) (N := N) C.1.1 C.1.2.1 C.1.2.2.2.2 hin C.1.2.2.2.1 C.2.2.2.1 hP k (fs := (List.range n).map (fv A σ k)) (by rw [wl_at (lay_lt hk (by omega)), ent_o hk]) hc j hjN (C.1.2.2.2.2 _ hlink) (fun x hx => ?_) (by rw [fs_at hj, hv]) hd (kk o ho H locs ls hP hS hl)
  rcases hsm with h | h
  · rw [← h]; exact hx
  · exact u_same (C.1.2.2.2.2 _ h) x hx
theorem m_put0 (C : Cx p m c cc nL s args own meth rt D ct A) {idx ci n j k : Nat} (F : FLk own idx ci j) {ty : FieldType} (F2 : FLw ci j ty) (hk : lay k = (0, ci, n)) (hj : j < n) {v : Value} {σ' : Sg} (hn : narrow ty v = v) (hf : fits ty v = true) (hv : fv A σ' k j = v) (ho1 : ∀ i, i ≠ j → fv A σ' k i = fv A σ k i) (ho2 : ∀ i, i ≠ k → ent ct A σ' i = ent ct A σ i) (hd : decode cc pc = .ok (.putfield idx, 3)) (kk : Wm p l e R s m args below meth c D ct A nL emb (pc + 3) L st σ' f) : Wm p l e R s m args below meth c D ct A nL emb pc L (v :: .ref (A k) :: st) σ f := by
  intro o ho H locs ls hP hS hl
  obtain ⟨Cn, T0, N, ref, ty0, hc, hjN, hin, hlink, hsm, hty, hnm⟩ := F
  refine va_put (D := D) (ci := ci) (v := v) (ty := ty) (C := Cn) (T := T0) (N := N) C.1.1 C.1.2.1 C.1.2.2.2.2 hin ty0 hty hnm C.1.2.2.2.1 C.2.2.2.1 hP (wl_D C.2.2.2.2.1) hS k (fs := (List.range n).map (fv A σ k)) (by rw [wl_at (lay_lt hk (by omega)), ent_o hk]) hc j hjN (C.1.2.2.2.2 _ hlink) (fun x hx => ?_) (F2 _ _ _ hc).1 (F2 _ _ _ hc).2 hn hf (by simpa using hj) hd (fun H1 locs1 hP1 hD1 hS1 => ?_)
  · rcases hsm with h | h
    · rw [← h]; exact hx
    · exact u_same (C.1.2.2.2.2 _ h) x hx
  · rw [wl_set (σ' := σ') (by rw [ent_o hk, fs_set hv ho1]) ho2] at hP1
    exact kk o ho H1 locs1 ls hP1 hS1 hl
theorem m_puti (C : Cx p m c cc nL s args own meth rt D ct A) {idx ci n j k : Nat} (F : FLk own idx ci j) (F2 : FLw ci j .int) (hk : lay k = (0, ci, n)) (hj : j < n) (hfk : fk k j = 0) {v : Int32} {K : Sg → Option T} (hd : decode cc pc = .ok (.putfield idx, 3)) (kk : ∀ σ', Wm p l e R s m args below meth c D ct A nL emb (pc + 3) L st σ' (K σ')) : Wm p l e R s m args below meth c D ct A nL emb pc L (.int v :: .ref (A k) :: st) σ (bv (si σ k j v) K) :=
  m_put0 C (σ' := si σ k j v) F F2 hk hj rfl rfl (by unfold fv; rw [hfk]; show Value.int (gi (si σ k j v) k j) = _; rw [gi_si, if_pos rfl, upd_self]) (fun i hi => fv_of (by rw [gi_si, if_pos rfl, upd_ne hi]) rfl rfl) (fun i hi => ent_sa hi) hd (kk _)
theorem m_putz (C : Cx p m c cc nL s args own meth rt D ct A) {idx ci n j k : Nat} (F : FLk own idx ci j) (F2 : FLw ci j .boolean) (hk : lay k = (0, ci, n)) (hj : j < n) (hfk : fk k j = 0) {v : Int32} (b : Bool) (hb : v = b2i b) {K : Sg → Option T} (hd : decode cc pc = .ok (.putfield idx, 3)) (kk : ∀ σ', Wm p l e R s m args below meth c D ct A nL emb (pc + 3) L st σ' (K σ')) : Wm p l e R s m args below meth c D ct A nL emb pc L (.int v :: .ref (A k) :: st) σ (bv (si σ k j (b2i b)) K) := by
  subst hb
  exact m_put0 C (σ' := si σ k j (b2i b)) F F2 hk hj (by cases b <;> rfl) (by cases b <;> rfl) (by unfold fv; rw [hfk]; show Value.int (gi (si σ k j (b2i b)) k j) = _; rw [gi_si, if_pos rfl, upd_self]) (fun i hi => fv_of (by rw [gi_si, if_pos rfl, upd_ne hi]) rfl rfl) (fun i hi => ent_sa hi) hd (kk _)
theorem m_putl (C : Cx p m c cc nL s args own meth rt D ct A) {idx ci n j k : Nat} (F : FLk own idx ci j) (F2 : FLw ci j .long) (hk : lay k = (0, ci, n)) (hj : j < n) (hfk : fk k j = 1) {v : Int64} {K : Sg → Option T} (hd : decode cc pc = .ok (.putfield idx, 3)) (kk : ∀ σ', Wm p l e R s m args below meth c D ct A nL emb (pc + 3) L st σ' (K σ')) : Wm p l e R s m args below meth c D ct A nL emb pc L (.long v :: .ref (A k) :: st) σ (bv (sl σ k j v) K) :=
  m_put0 C (σ' := sl σ k j v) F F2 hk hj rfl rfl (by unfold fv; rw [hfk]; show Value.long (gl (sl σ k j v) k j) = _; rw [gl_sl, if_pos rfl, pk_uLs]) (fun i hi => fv_of rfl (by rw [gl_sl, if_pos rfl, pk_uLn hi]) rfl) (fun i hi => ent_sal hi) hd (kk _)
theorem m_putr (C : Cx p m c cc nL s args own meth rt D ct A) {idx ci n j k : Nat} {cn : String} (F : FLk own idx ci j) (F2 : FLw ci j (.object cn)) (hk : lay k = (0, ci, n)) (hj : j < n) (hfk : fk k j = 2) {r : Nat} {K : Sg → Option T} (hd : decode cc pc = .ok (.putfield idx, 3)) (kk : ∀ σ', Wm p l e R s m args below meth c D ct A nL emb (pc + 3) L st σ' (K σ')) : Wm p l e R s m args below meth c D ct A nL emb pc L (rfv A r :: .ref (A k) :: st) σ (bv (sr σ k j r) K) :=
  m_put0 C (σ' := sr σ k j r) F F2 hk hj (by unfold rfv; split <;> rfl) (by unfold rfv; split <;> rfl) (by unfold fv; rw [hfk]; show rfv A (gr (sr σ k j r) k j) = _; rw [gr_sr, if_pos rfl, va_up_self]) (fun i hi => fv_of rfl rfl (by rw [gr_sr, if_pos rfl, va_up_ne _ _ hi])) (fun i hi => ent_sr hi) hd (kk _)
/-! arrays -/
theorem m_iald (C : Cx p m c cc nL s args own meth rt D ct A) {k n : Nat} {i : Int32} (hk : lay k = (1, 0, n)) (hi : inb n i = true) (hd : decode cc pc = .ok (.iaload, 1)) (kk : Wm p l e R s m args below meth c D ct A nL emb (pc + 1) L (.int (gi σ k (ix i)) :: st) σ f) : Wm p l e R s m args below meth c D ct A nL emb pc L (.int i :: .ref (A k) :: st) σ f := fun o ho H locs ls hP hS hl =>
  va_iald C.1.1 C.1.2.1 C.2.2.2.1 hP k k (by rw [wl_at (lay_lt hk (by omega)), ent_i hk]) (tys_at hk (by omega)) (inb_in hi) hd (kk o ho H locs ls hP hS hl)
theorem m_bald (C : Cx p m c cc nL s args own meth rt D ct A) {k n : Nat} {i : Int32} (hk : lay k = (1, 1, n)) (hi : inb n i = true) (hd : decode cc pc = .ok (.baload, 1)) (kk : Wm p l e R s m args below meth c D ct A nL emb (pc + 1) L (.int (gi σ k (ix i)) :: st) σ f) : Wm p l e R s m args below meth c D ct A nL emb pc L (.int i :: .ref (A k) :: st) σ f := fun o ho H locs ls hP hS hl =>
  va_bald C.1.1 C.1.2.1 C.2.2.2.1 hP k k (by rw [wl_at (lay_lt hk (by omega)), ent_i hk]) (tys_at hk (by omega)) (inb_in hi) hd (kk o ho H locs ls hP hS hl)
theorem m_zald (C : Cx p m c cc nL s args own meth rt D ct A) {k n : Nat} {i : Int32} (hk : lay k = (1, 2, n)) (hi : inb n i = true) (hd : decode cc pc = .ok (.baload, 1)) (kk : Wm p l e R s m args below meth c D ct A nL emb (pc + 1) L (.int (gi σ k (ix i)) :: st) σ f) : Wm p l e R s m args below meth c D ct A nL emb pc L (.int i :: .ref (A k) :: st) σ f := fun o ho H locs ls hP hS hl =>
  va_zald C.1.1 C.1.2.1 C.2.2.2.1 hP k k (by rw [wl_at (lay_lt hk (by omega)), ent_i hk]) (tys_at hk (by omega)) (inb_in hi) hd (kk o ho H locs ls hP hS hl)
theorem m_lald (C : Cx p m c cc nL s args own meth rt D ct A) {k n : Nat} {i : Int32} (hk : lay k = (2, 3, n)) (hi : inb n i = true) (hd : decode cc pc = .ok (.laload, 1)) (kk : Wm p l e R s m args below meth c D ct A nL emb (pc + 1) L (.long (gl σ k (ix i)) :: st) σ f) : Wm p l e R s m args below meth c D ct A nL emb pc L (.int i :: .ref (A k) :: st) σ f := fun o ho H locs ls hP hS hl =>
  va_lald C.1.1 C.1.2.1 C.2.2.2.1 hP k k (by rw [wl_at (lay_lt hk (by omega)), ent_l hk]) (tys_at hk (by omega)) (inb_in hi) hd (kk o ho H locs ls hP hS hl)
theorem m_aald (C : Cx p m c cc nL s args own meth rt D ct A) {k t n : Nat} {cn : String} {i : Int32} (hk : lay k = (3, t, n)) (ht : ety (3, t, n) = .object cn) (hi : inb n i = true) (hd : decode cc pc = .ok (.aaload, 1)) (kk : Wm p l e R s m args below meth c D ct A nL emb (pc + 1) L (.ref (A ((qb k).1 + (qb k).2 * ix i)) :: st) σ f) : Wm p l e R s m args below meth c D ct A nL emb pc L (.int i :: .ref (A k) :: st) σ f := fun o ho H locs ls hP hS hl =>
  va_aldq (f := fun j => some (A ((qb k).1 + (qb k).2 * j))) C.1.1 C.1.2.1 C.2.2.2.1 hP k k (by rw [wl_at (lay_lt hk (by omega)), ent_q hk]) (by rw [tys_at hk (by omega), ht]) (inb_in hi) hd (kk o ho H locs ls hP hS hl)
theorem m_iast (C : Cx p m c cc nL s args own meth rt D ct A) {k n : Nat} {i v : Int32} (hk : lay k = (1, 0, n)) (hi : inb n i = true) {K : Sg → Option T} (hd : decode cc pc = .ok (.iastore, 1)) (kk : ∀ σ', Wm p l e R s m args below meth c D ct A nL emb (pc + 1) L st σ' (K σ')) : Wm p l e R s m args below meth c D ct A nL emb pc L (.int v :: .int i :: .ref (A k) :: st) σ (bv (si σ k (ix i) v) K) := by
  intro o ho H locs ls hP hS hl
  refine va_iast C.1.1 C.1.2.1 C.2.2.2.1 hP (wl_D C.2.2.2.2.1) hS k k (by rw [wl_at (lay_lt hk (by omega)), ent_i hk]) (tys_at hk (by omega)) (inb_in hi) hd (fun H1 locs1 hP1 hD1 hS1 => ?_)
  rw [wl_set (σ' := si σ k (ix i) v) (by rw [ent_i hk, gi_si, if_pos rfl]; rfl) (fun j hj => ent_sa hj)] at hP1
  exact kk _ o ho H1 locs1 ls hP1 hS1 hl
theorem m_bast (C : Cx p m c cc nL s args own meth rt D ct A) {k n : Nat} {i v : Int32} (hk : lay k = (1, 1, n)) (hi : inb n i = true) {K : Sg → Option T} (hd : decode cc pc = .ok (.bastore, 1)) (kk : ∀ σ', Wm p l e R s m args below meth c D ct A nL emb (pc + 1) L st σ' (K σ')) : Wm p l e R s m args below meth c D ct A nL emb pc L (.int v :: .int i :: .ref (A k) :: st) σ (bv (si σ k (ix i) (vp_nar .byte v)) K) := by
  intro o ho H locs ls hP hS hl
  refine va_bast C.1.1 C.1.2.1 C.2.2.2.1 hP (wl_D C.2.2.2.2.1) hS k k (by rw [wl_at (lay_lt hk (by omega)), ent_i hk]) (tys_at hk (by omega)) (inb_in hi) hd (fun H1 locs1 hP1 hD1 hS1 => ?_)
  rw [wl_set (σ' := si σ k (ix i) (vp_nar .byte v)) (by rw [ent_i hk, gi_si, if_pos rfl]; rfl) (fun j hj => ent_sa hj)] at hP1
  exact kk _ o ho H1 locs1 ls hP1 hS1 hl
theorem m_zast (C : Cx p m c cc nL s args own meth rt D ct A) {k n : Nat} {i v : Int32} (hk : lay k = (1, 2, n)) (hi : inb n i = true) {K : Sg → Option T} (hd : decode cc pc = .ok (.bastore, 1)) (kk : ∀ σ', Wm p l e R s m args below meth c D ct A nL emb (pc + 1) L st σ' (K σ')) : Wm p l e R s m args below meth c D ct A nL emb pc L (.int v :: .int i :: .ref (A k) :: st) σ (bv (si σ k (ix i) (vp_nar .boolean v)) K) := by
  intro o ho H locs ls hP hS hl
  refine va_zast C.1.1 C.1.2.1 C.2.2.2.1 hP (wl_D C.2.2.2.2.1) hS k k (by rw [wl_at (lay_lt hk (by omega)), ent_i hk]) (tys_at hk (by omega)) (inb_in hi) hd (fun H1 locs1 hP1 hD1 hS1 => ?_)
  rw [wl_set (σ' := si σ k (ix i) (vp_nar .boolean v)) (by rw [ent_i hk, gi_si, if_pos rfl]; rfl) (fun j hj => ent_sa hj)] at hP1
  exact kk _ o ho H1 locs1 ls hP1 hS1 hl
theorem m_last (C : Cx p m c cc nL s args own meth rt D ct A) {k n : Nat} {i : Int32} {v : Int64} (hk : lay k = (2, 3, n)) (hi : inb n i = true) {K : Sg → Option T} (hd : decode cc pc = .ok (.lastore, 1)) (kk : ∀ σ', Wm p l e R s m args below meth c D ct A nL emb (pc + 1) L st σ' (K σ')) : Wm p l e R s m args below meth c D ct A nL emb pc L (.long v :: .int i :: .ref (A k) :: st) σ (bv (sl σ k (ix i) v) K) := by
  intro o ho H locs ls hP hS hl
  refine va_last C.1.1 C.1.2.1 C.2.2.2.1 hP (wl_D C.2.2.2.2.1) hS k k (by rw [wl_at (lay_lt hk (by omega)), ent_l hk]) (tys_at hk (by omega)) (inb_in hi) hd (fun H1 locs1 hP1 hD1 hS1 => ?_)
  rw [wl_set (σ' := sl σ k (ix i) v) (by rw [ent_l hk, gl_sl, if_pos rfl]; rfl) (fun j hj => ent_sal hj)] at hP1
  exact kk _ o ho H1 locs1 ls hP1 hS1 hl
theorem m_alen (C : Cx p m c cc nL s args own meth rt D ct A) {k x t n : Nat} {v : Int32} (hk : lay k = (x, t, n)) (hx : x = 1 ∨ x = 2 ∨ x = 3) (ht : n = n) (hv : Int32.ofNat n = v) (hd : decode cc pc = .ok (.arraylength, 1)) (kk : Wm p l e R s m args below meth c D ct A nL emb (pc + 1) L (.int v :: st) σ f) : Wm p l e R s m args below meth c D ct A nL emb pc L (.ref (A k) :: st) σ f := by
  intro o ho H locs ls hP hS hl
  rcases hx with rfl | rfl | rfl
  · exact va_alen C.1.1 C.1.2.1 C.2.2.2.1 hP k k (x := (n, _)) (by rw [wl_at (lay_lt hk (by omega)), ent_i hk]) (tys_at hk (by omega)) hv hd (kk o ho H locs ls hP hS hl)
  · exact va_alen C.1.1 C.1.2.1 C.2.2.2.1 hP k k (x := (n, _)) (by rw [wl_at (lay_lt hk (by omega)), ent_l hk]) (tys_at hk (by omega)) hv hd (kk o ho H locs ls hP hS hl)
  · exact va_alen C.1.1 C.1.2.1 C.2.2.2.1 hP k k (x := (n, _)) (by rw [wl_at (lay_lt hk (by omega)), ent_q hk]) (tys_at hk (by omega)) hv hd (kk o ho H locs ls hP hS hl)
end ROWS
