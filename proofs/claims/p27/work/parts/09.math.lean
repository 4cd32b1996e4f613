theorem rfv_or (A : Nat → Nat) (r : Nat) : rfv A r = .null ∨ rfv A r = .ref (A r) := by
  unfold rfv
  by_cases h : r = 0
  · rw [if_pos h]; exact Or.inl rfl
  · rw [if_neg h]; exact Or.inr rfl
def iabs (x : Int32) : Int32 := if 0 ≤ x then x else 0 - x
def imax (x y : Int32) : Int32 := if x < y then y else x
def imin (x y : Int32) : Int32 := if y < x then y else x
section MATH
variable {p : Program} {l : Launch} {e : Env} {R : Room} {s : State} {m : MethodId} {args : Array Value} {below : List Frame} {meth : Method} {c : Code} {cc : ByteArray} {nL : Nat} {own : String} {rt : Option FieldType} {D : va_G} {ct : Nat → ClassId} {A : Nat → Nat} {T : Type} {emb : T → Option Value × Sg} {pc : Nat} {L : List (Nat × Value)} {st : List Value} {σ : Sg} {f : Option T}
theorem mw_abs : Cond.static Lib.Math.abs.name ∈ AL ∧ Cond.initialized "java/lang/Math" ∈ AL ∧ Cond.code Lib.Math.abs.name Lib.Math.abs.code 1 (some .int) ∈ AL := ⟨wd_675, wd_16, wd_676⟩
theorem m_mabs (C : Cx p m c cc nL s args own meth rt D ct A) {x : Int32} {idx : Nat} (hlink : Cond.methodLink own idx Lib.Math.abs.name ∈ AL) (hro : 1 ≤ R.frames ∧ (st.map fun v => v.category).sum + 13 ≤ R.locals) (hd : decode cc pc = .ok (.invokestatic idx, 3)) (kk : Wm p l e R s m args below meth c D ct A nL emb (pc + 3) L (.int (iabs x) :: st) σ f) : Wm p l e R s m args below meth c D ct A nL emb pc L (.int x :: st) σ f := fun o ho H locs ls hP hS hl =>
  va_mabs C.1.1 C.1.2.1 (C.1.2.2.1.trans hl.1.symm) C.1.2.2.2.1 (C.1.2.2.2.2 _ hlink) (C.1.2.2.2.2 _ mw_abs.1) (C.1.2.2.2.2 _ mw_abs.2.1) (C.1.2.2.2.2 _ mw_abs.2.2) hro.1 hro.2 (Nat.zero_le _) (Nat.zero_le _) hd (kk o ho H locs ls hP hS hl)
theorem mw_max : Cond.static Lib.Math.max.name ∈ AL ∧ Cond.initialized "java/lang/Math" ∈ AL ∧ Cond.code Lib.Math.max.name Lib.Math.max.code 2 (some .int) ∈ AL := ⟨wd_777, wd_16, wd_778⟩
theorem m_mmax (C : Cx p m c cc nL s args own meth rt D ct A) {x y : Int32} {idx : Nat} (hlink : Cond.methodLink own idx Lib.Math.max.name ∈ AL) (hro : 1 ≤ R.frames ∧ (st.map fun v => v.category).sum + 13 ≤ R.locals) (hd : decode cc pc = .ok (.invokestatic idx, 3)) (kk : Wm p l e R s m args below meth c D ct A nL emb (pc + 3) L (.int (imax x y) :: st) σ f) : Wm p l e R s m args below meth c D ct A nL emb pc L (.int y :: .int x :: st) σ f := fun o ho H locs ls hP hS hl =>
  va_mmax C.1.1 C.1.2.1 (C.1.2.2.1.trans hl.1.symm) C.1.2.2.2.1 (C.1.2.2.2.2 _ hlink) (C.1.2.2.2.2 _ mw_max.1) (C.1.2.2.2.2 _ mw_max.2.1) (C.1.2.2.2.2 _ mw_max.2.2) hro.1 hro.2 (Nat.zero_le _) (Nat.zero_le _) hd (kk o ho H locs ls hP hS hl)
theorem mw_min : Cond.static Lib.Math.min.name ∈ AL ∧ Cond.initialized "java/lang/Math" ∈ AL ∧ Cond.code Lib.Math.min.name Lib.Math.min.code 2 (some .int) ∈ AL := ⟨wd_532, wd_16, wd_533⟩
theorem m_mmin (C : Cx p m c cc nL s args own meth rt D ct A) {x y : Int32} {idx : Nat} (hlink : Cond.methodLink own idx Lib.Math.min.name ∈ AL) (hro : 1 ≤ R.frames ∧ (st.map fun v => v.category).sum + 13 ≤ R.locals) (hd : decode cc pc = .ok (.invokestatic idx, 3)) (kk : Wm p l e R s m args below meth c D ct A nL emb (pc + 3) L (.int (imin x y) :: st) σ f) : Wm p l e R s m args below meth c D ct A nL emb pc L (.int y :: .int x :: st) σ f := fun o ho H locs ls hP hS hl =>
  va_mmin C.1.1 C.1.2.1 (C.1.2.2.1.trans hl.1.symm) C.1.2.2.2.1 (C.1.2.2.2.2 _ hlink) (C.1.2.2.2.2 _ mw_min.1) (C.1.2.2.2.2 _ mw_min.2.1) (C.1.2.2.2.2 _ mw_min.2.2) hro.1 hro.2 (Nat.zero_le _) (Nat.zero_le _) hd (kk o ho H locs ls hP hS hl)
end MATH
