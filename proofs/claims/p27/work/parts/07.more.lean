section MORE
variable {p : Program} {l : Launch} {e : Env} {R : Room} {s : State} {m : MethodId} {args : Array Value} {below : List Frame} {meth : Method} {c : Code} {cc : ByteArray} {nL : Nat} {own : String} {rt : Option FieldType} {D : va_G} {ct : Nat → ClassId} {A : Nat → Nat} {T : Type} {emb : T → Option Value × Sg} {pc : Nat} {L : List (Nat × Value)} {st : List Value} {σ : Sg} {f : Option T}
theorem m_jn {κ : Type} {K : κ} {P : κ → Prop} {body : κ → Option T} (hK : P K) (kk : ∀ k, P k → Wm p l e R s m args below meth c D ct A nL emb pc L st σ (body k)) : Wm p l e R s m args below meth c D ct A nL emb pc L st σ (bv K body) := kk K hK
theorem m_iincb (C : Cx p m c cc nL s args own meth rt D ct A) {i : Nat} {n : Int} {x w : Int32} {q : Nat} {L2 : Int32 → List (Nat × Value)} {K : Int32 → Option T} (hd : decode cc pc = .ok (.iinc i n, 3)) (hq : L[q]? = some (i, .int x)) (hw : Int32.ofInt n = w) (hn : i < nL) (hL : ∀ y, (i, Value.int y) :: L.filter (fun q => !(q.1 == i) && !(q.1 + 1 == i && q.2.category == 2)) = L2 y) (k : ∀ y, Wm p l e R s m args below meth c D ct A nL emb (pc + 3) (L2 y) st σ (K y)) : Wm p l e R s m args below meth c D ct A nL emb pc L st σ (bv (x + w) K) :=
  m_iinc C hd hq (by rw [hw]) hn (hL _) (k _)
end MORE
theorem b2i_of {x : Int32} (h : (x == 0 || x == 1) = true) : x = b2i (x == 1) := by
  simp only [Bool.or_eq_true, beq_iff_eq] at h
  rcases h with h | h <;> subst h <;> rfl
/-- a loop's turns are counted down from here: far above what any call can need -/
def FU : Nat := 1000000000
def lo1 {α1 β : Type} (b : (α1 → Option β) → α1 → Option β) : Nat → α1 → Option β
  | 0, _ => none
  | n + 1, x1 => b (lo1 b n) x1
def lo2 {α1 α2 β : Type} (b : (α1 → α2 → Option β) → α1 → α2 → Option β) : Nat → α1 → α2 → Option β
  | 0, _, _ => none
  | n + 1, x1, x2 => b (lo2 b n) x1 x2
def lo3 {α1 α2 α3 β : Type} (b : (α1 → α2 → α3 → Option β) → α1 → α2 → α3 → Option β) : Nat → α1 → α2 → α3 → Option β
  | 0, _, _, _ => none
  | n + 1, x1, x2, x3 => b (lo3 b n) x1 x2 x3
def lo4 {α1 α2 α3 α4 β : Type} (b : (α1 → α2 → α3 → α4 → Option β) → α1 → α2 → α3 → α4 → Option β) : Nat → α1 → α2 → α3 → α4 → Option β
  | 0, _, _, _, _ => none
  | n + 1, x1, x2, x3, x4 => b (lo4 b n) x1 x2 x3 x4
def lo5 {α1 α2 α3 α4 α5 β : Type} (b : (α1 → α2 → α3 → α4 → α5 → Option β) → α1 → α2 → α3 → α4 → α5 → Option β) : Nat → α1 → α2 → α3 → α4 → α5 → Option β
  | 0, _, _, _, _, _ => none
  | n + 1, x1, x2, x3, x4, x5 => b (lo5 b n) x1 x2 x3 x4 x5
def lo6 {α1 α2 α3 α4 α5 α6 β : Type} (b : (α1 → α2 → α3 → α4 → α5 → α6 → Option β) → α1 → α2 → α3 → α4 → α5 → α6 → Option β) : Nat → α1 → α2 → α3 → α4 → α5 → α6 → Option β
  | 0, _, _, _, _, _, _ => none
  | n + 1, x1, x2, x3, x4, x5, x6 => b (lo6 b n) x1 x2 x3 x4 x5 x6
def lo7 {α1 α2 α3 α4 α5 α6 α7 β : Type} (b : (α1 → α2 → α3 → α4 → α5 → α6 → α7 → Option β) → α1 → α2 → α3 → α4 → α5 → α6 → α7 → Option β) : Nat → α1 → α2 → α3 → α4 → α5 → α6 → α7 → Option β
  | 0, _, _, _, _, _, _, _ => none
  | n + 1, x1, x2, x3, x4, x5, x6, x7 => b (lo7 b n) x1 x2 x3 x4 x5 x6 x7
def lo8 {α1 α2 α3 α4 α5 α6 α7 α8 β : Type} (b : (α1 → α2 → α3 → α4 → α5 → α6 → α7 → α8 → Option β) → α1 → α2 → α3 → α4 → α5 → α6 → α7 → α8 → Option β) : Nat → α1 → α2 → α3 → α4 → α5 → α6 → α7 → α8 → Option β
  | 0, _, _, _, _, _, _, _, _ => none
  | n + 1, x1, x2, x3, x4, x5, x6, x7, x8 => b (lo8 b n) x1 x2 x3 x4 x5 x6 x7 x8
def lo9 {α1 α2 α3 α4 α5 α6 α7 α8 α9 β : Type} (b : (α1 → α2 → α3 → α4 → α5 → α6 → α7 → α8 → α9 → Option β) → α1 → α2 → α3 → α4 → α5 → α6 → α7 → α8 → α9 → Option β) : Nat → α1 → α2 → α3 → α4 → α5 → α6 → α7 → α8 → α9 → Option β
  | 0, _, _, _, _, _, _, _, _, _ => none
  | n + 1, x1, x2, x3, x4, x5, x6, x7, x8, x9 => b (lo9 b n) x1 x2 x3 x4 x5 x6 x7 x8 x9
