set_option maxHeartbeats 4000000 in
set_option maxRecDepth 100000 in
/-- copy(from, to): the 720 ints, over the two rows alone -/
theorem cX10_copy_loop {p : Program} {l : Launch} {e : Env} {s : State} {m : MethodId} {args : Array Value} {below : List Frame} {meth : Method} {c : Code} {D : va_G} {Ar : Nat → Prop} {Q : State → Prop} (hx : p.tables.exec = Jvm.exec) (hb : c.code = cX10_copy) (qa qi : Nat) (ca ci : ClassId) (f : Nat → Int32) (hK : va_K D vwCl [(ca, .int), (ci, .int)] s)
    (kk : ∀ (g : Nat → Int32) (H : Heap) (locs : List Loc) (ls : Array Slot), (∀ j, j < 720 → g j = f j) → va_P D vwCl [(qa, .inl (ca, 720, .inl f)), (qi, .inl (ci, 720, .inl g))] H → va_D Ar [(qa, .inl (ca, 720, .inl f)), (qi, .inl (ci, 720, .inl g))] → va_S Ar s.heap H locs → W p l e (rmC 0 0 0) s m args below meth c H locs 0 0 Q (F0 m 21 ls [])) :
    ∀ (n i : Nat), i + n = 720 → ∀ (g : Nat → Int32) (H : Heap) (locs : List Loc) (ls : Array Slot), (∀ j, j < i → g j = f j) → va_P D vwCl [(qa, .inl (ca, 720, .inl f)), (qi, .inl (ci, 720, .inl g))] H → va_D Ar [(qa, .inl (ca, 720, .inl f)), (qi, .inl (ci, 720, .inl g))] → va_S Ar s.heap H locs → lv_has ls 3 [(0, .ref qa), (1, .ref qi), (2, .int (nI i))] → W p l e (rmC 0 0 0) s m args below meth c H locs 0 0 Q (F0 m 2 ls []) := by
  intro n
  induction n with
  | zero =>
    intro i hi g H locs ls hg hP hD hS hl
    have e720 : i = 720 := by omega
    subst e720
    refine lv_iload_n hx hb dX10_copy_2 rfl (lv_at hl 2 rfl) ?_
    refine lv_sipush hx hb dX10_copy_3 cs_720 ?_
    refine lv_icmp_ge (tgt := 21) hx hb dX10_copy_6 (by decide) (fun c_ => ?_) (fun c_ => absurd (by decide +kernel) c_)
    exact kk g H locs ls hg hP hD hS
  | succ n ih =>
    intro i hi g H locs ls hg hP hD hS hl
    have hlt : i < 720 := by omega
    refine lv_iload_n hx hb dX10_copy_2 rfl (lv_at hl 2 rfl) ?_
    refine lv_sipush hx hb dX10_copy_3 cs_720 ?_
    refine lv_icmp_ge (tgt := 21) hx hb dX10_copy_6 (by decide) (fun c_ => absurd c_ (show ¬ (720 : Int32) ≤ nI i from nI_ge (a := i) (b := 720) hlt (by decide))) (fun c_ => ?_)
    refine lv_aload_n hx hb dX10_copy_9 rfl (lv_at hl 1 rfl) ?_
    refine lv_iload_n hx hb dX10_copy_10 rfl (lv_at hl 2 rfl) ?_
    refine lv_aload_n hx hb dX10_copy_11 rfl (lv_at hl 0 rfl) ?_
    refine lv_iload_n hx hb dX10_copy_12 rfl (lv_at hl 2 rfl) ?_
    refine va_iald hx hb hK hP 0 0 rfl rfl (vp_in_nI hlt (by omega)) dX10_copy_13 ?_
    refine va_iast hx hb hK hP hD hS 1 1 rfl rfl (vp_in_nI hlt (by omega)) dX10_copy_14 (fun H locs hP hD hS => ?_)
    refine lv_iinc (v := nI (i + 1)) (k := 2) (lv' := [(2, .int (nI (i + 1))), (0, .ref qa), (1, .ref qi)]) hx hb dX10_copy_15 hl rfl (by rw [nI_succ]; rfl) (by decide) rfl (fun ls hl => ?_)
    refine lv_goto (tgt := 2) hx hb dX10_copy_18 (by decide) ?_
    rw [nI_clamp (by omega)] at hP hD
    refine ih (i + 1) (by omega) (upd g i (f i)) H locs ls (fun j hj => ?_) hP hD hS (lv_sub hl [1, 2, 0] rfl)
    by_cases e : j = i
    · subst e
      exact upd_self
    · rw [upd_ne e]
      exact hg j (by omega)
set_option maxHeartbeats 4000000 in
set_option maxRecDepth 100000 in
theorem kcX10_copy (l : Launch) (D : va_G) (qa qi : Nat) (ca ci : ClassId) (f g : Nat → Int32) (sz : Nat) : Met l yX10_copy (Cond.code yX10_copy cX10_copy 3 none :: AL) (rmC 0 0 0) (va_Pc [.ref qa, .ref qi] (fun U => U.heap.size = sz ∧ va_P D vwCl [(qa, .inl (ca, 720, .inl f)), (qi, .inl (ci, 720, .inl g))] U.heap ∧ va_K D vwCl [(ca, .int), (ci, .int)] U ∧ va_D (fun _ => True) [(qa, .inl (ca, 720, .inl f)), (qi, .inl (ci, 720, .inl g))])) (va_Qv (fun _ : Unit => True) (fun (_ : Unit) (t : State) => ∃ g2 : Nat → Int32, (∀ j, j < 720 → g2 j = f j) ∧ va_P D vwCl [(qa, .inl (ca, 720, .inl f)), (qi, .inl (ci, 720, .inl g2))] t.heap ∧ va_K D vwCl [(ca, .int), (ci, .int)] t ∧ va_D (va_A [(qa, .inl (ca, 720, .inl f)), (qi, .inl (ci, 720, .inl g))] sz) [(qa, .inl (ca, 720, .inl f)), (qi, .inl (ci, 720, .inl g2))]) (va_A [(qa, .inl (ca, 720, .inl f)), (qi, .inl (ci, 720, .inl g))] sz)) 0 0 (va_A [(qa, .inl (ca, 720, .inl f)), (qi, .inl (ci, 720, .inl g))] sz) := by
  refine Met.ofW (cc := cX10_copy) (maxL := 3) (ret := none) (by decide +kernel) rfl ?_
  intro p e s m args below meth c s₁ B hml hv
  obtain ⟨rfl, hsz, hP, hK, hD0⟩ := hv
  have hx := B.exec
  have hb := B.bytes
  have hr := B.returns
  have hlocks := B.notSynchronized
  refine (show W p l e (rmC 0 0 0) s m _ below meth c s.heap [] 0 0 _ _ from ?_)
  subst hsz
  have hD := hD0.self (sz := s.heap.size)
  have hS : va_S (va_A [(qa, .inl (ca, 720, .inl f)), (qi, .inl (ci, 720, .inl g))] s.heap.size) s.heap s.heap [] := va_S.rf
  have hl := lv_entry ([.ref qa, .ref qi]) (n := 3) (Nat.le_of_ble_eq_true rfl)
  rw [lg_entry_eq]
  generalize (lg_sl ([.ref qa, .ref qi]) ++ List.replicate (3 - (lg_sl ([.ref qa, .ref qi])).length) Slot.unset).toArray = ls at hl ⊢
  have hl : lv_has ls 3 [(0, .ref qa), (1, .ref qi)] := hl
  refine lv_iconst hx hb dX10_copy_0 ci_0 ?_
  refine lv_istore_n (lv' := [(2, .int 0), (0, .ref qa), (1, .ref qi)]) hx hb dX10_copy_1 rfl hl (by decide) rfl (fun ls hl => ?_)
  refine cX10_copy_loop hx hb qa qi ca ci f hK (fun g2 H locs ls hg hP hD hS => ?_) 720 0 rfl g s.heap [] ls (fun j hj => absurd hj (Nat.not_lt_zero j)) hP hD hS (lv_sub hl [1, 2, 0] rfl)
  exact W.vret hx hb hr (fun t ht hW => ⟨⟨(), rfl, trivial, g2, hg, by rw [ht]; exact hP, va_K.moved hW.alike hK, hD⟩, hS.F ht⟩) hS.2.2 dX10_copy_21
