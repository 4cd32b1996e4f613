theorem df_0 : ∀ j, j < 3 → defaultValue (tyX0 j) = vp_V [.null, .int 0, .int 0] j := by
  intro j hj
  match j, hj with
  | 0, _ => rfl
  | 1, _ => rfl
  | 2, _ => rfl
  | n + 3, h => exact absurd h (by omega)
theorem df_1 : ∀ j, j < 6 → defaultValue (tyX1 j) = vp_V [.null, .int 0, .null, .null, .null, .null] j := by
  intro j hj
  match j, hj with
  | 0, _ => rfl
  | 1, _ => rfl
  | 2, _ => rfl
  | 3, _ => rfl
  | 4, _ => rfl
  | 5, _ => rfl
  | n + 6, h => exact absurd h (by omega)
theorem df_2 : ∀ j, j < 13 → defaultValue (tyX2 j) = vp_V [.null, .null, .int 0, .null, .int 0, .int 0, .int 0, .int 0, .int 0, .int 0, .int 0, .int 0, .int 0] j := by
  intro j hj
  match j, hj with
  | 0, _ => rfl
  | 1, _ => rfl
  | 2, _ => rfl
  | 3, _ => rfl
  | 4, _ => rfl
  | 5, _ => rfl
  | 6, _ => rfl
  | 7, _ => rfl
  | 8, _ => rfl
  | 9, _ => rfl
  | 10, _ => rfl
  | 11, _ => rfl
  | 12, _ => rfl
  | n + 13, h => exact absurd h (by omega)
theorem df_3 : ∀ j, j < 11 → defaultValue (tyX3 j) = vp_V [.int 0, .int 0, .int 0, .int 0, .int 0, .int 0, .int 0, .int 0, .int 0, .int 0, .int 0] j := by
  intro j hj
  match j, hj with
  | 0, _ => rfl
  | 1, _ => rfl
  | 2, _ => rfl
  | 3, _ => rfl
  | 4, _ => rfl
  | 5, _ => rfl
  | 6, _ => rfl
  | 7, _ => rfl
  | 8, _ => rfl
  | 9, _ => rfl
  | 10, _ => rfl
  | n + 11, h => exact absurd h (by omega)
theorem df_4 : ∀ j, j < 5 → defaultValue (tyX4 j) = vp_V [.null, .null, .int 0, .int 0, .int 0] j := by
  intro j hj
  match j, hj with
  | 0, _ => rfl
  | 1, _ => rfl
  | 2, _ => rfl
  | 3, _ => rfl
  | 4, _ => rfl
  | n + 5, h => exact absurd h (by omega)
theorem df_5 : ∀ j, j < 10 → defaultValue (tyX5 j) = vp_V [.null, .int 0, .int 0, .int 0, .int 0, .int 0, .null, .null, .null, .int 0] j := by
  intro j hj
  match j, hj with
  | 0, _ => rfl
  | 1, _ => rfl
  | 2, _ => rfl
  | 3, _ => rfl
  | 4, _ => rfl
  | 5, _ => rfl
  | 6, _ => rfl
  | 7, _ => rfl
  | 8, _ => rfl
  | 9, _ => rfl
  | n + 10, h => exact absurd h (by omega)
theorem df_6 : ∀ j, j < 18 → defaultValue (tyX6 j) = vp_V [.int 0, .int 0, .int 0, .int 0, .int 0, .int 0, .int 0, .null, .null, .int 0, .int 0, .int 0, .int 0, .null, .null, .int 0, .null, .int 0] j := by
  intro j hj
  match j, hj with
  | 0, _ => rfl
  | 1, _ => rfl
  | 2, _ => rfl
  | 3, _ => rfl
  | 4, _ => rfl
  | 5, _ => rfl
  | 6, _ => rfl
  | 7, _ => rfl
  | 8, _ => rfl
  | 9, _ => rfl
  | 10, _ => rfl
  | 11, _ => rfl
  | 12, _ => rfl
  | 13, _ => rfl
  | 14, _ => rfl
  | 15, _ => rfl
  | 16, _ => rfl
  | 17, _ => rfl
  | n + 18, h => exact absurd h (by omega)
theorem df_7 : ∀ j, j < 6 → defaultValue (tyX7 j) = vp_V [.null, .int 0, .int 0, .int 0, .int 0, .int 0] j := by
  intro j hj
  match j, hj with
  | 0, _ => rfl
  | 1, _ => rfl
  | 2, _ => rfl
  | 3, _ => rfl
  | 4, _ => rfl
  | 5, _ => rfl
  | n + 6, h => exact absurd h (by omega)
theorem df_9 : ∀ j, j < 8 → defaultValue (tyX9 j) = vp_V [.null, .null, .null, .null, .null, .null, .null, .null] j := by
  intro j hj
  match j, hj with
  | 0, _ => rfl
  | 1, _ => rfl
  | 2, _ => rfl
  | 3, _ => rfl
  | 4, _ => rfl
  | 5, _ => rfl
  | 6, _ => rfl
  | 7, _ => rfl
  | n + 8, h => exact absurd h (by omega)
theorem df_10 : ∀ j, j < 38 → defaultValue (tyX10 j) = vp_V [.null, .null, .null, .null, .int 0, .int 0, .int 0, .int 0, .int 0, .int 0, .int 0, .long 0, .int 0, .int 0, .int 0, .int 0, .null, .int 0, .int 0, .int 0, .int 0, .int 0, .null, .null, .null, .null, .null, .null, .null, .int 0, .null, .null, .null, .null, .null, .null, .null, .null] j := by
  intro j hj
  match j, hj with
  | 0, _ => rfl
  | 1, _ => rfl
  | 2, _ => rfl
  | 3, _ => rfl
  | 4, _ => rfl
  | 5, _ => rfl
  | 6, _ => rfl
  | 7, _ => rfl
  | 8, _ => rfl
  | 9, _ => rfl
  | 10, _ => rfl
  | 11, _ => rfl
  | 12, _ => rfl
  | 13, _ => rfl
  | 14, _ => rfl
  | 15, _ => rfl
  | 16, _ => rfl
  | 17, _ => rfl
  | 18, _ => rfl
  | 19, _ => rfl
  | 20, _ => rfl
  | 21, _ => rfl
  | 22, _ => rfl
  | 23, _ => rfl
  | 24, _ => rfl
  | 25, _ => rfl
  | 26, _ => rfl
  | 27, _ => rfl
  | 28, _ => rfl
  | 29, _ => rfl
  | 30, _ => rfl
  | 31, _ => rfl
  | 32, _ => rfl
  | 33, _ => rfl
  | 34, _ => rfl
  | 35, _ => rfl
  | 36, _ => rfl
  | 37, _ => rfl
  | n + 38, h => exact absurd h (by omega)
theorem nw_int (n : Nat) (cA : ClassId) : vp_cell cA (n, .inl (fun _ => 0)) = arrV cA n (fun _ => defaultValue .int) := rfl
theorem nw_byte (n : Nat) (cA : ClassId) : vp_cell cA (n, .inl (fun _ => 0)) = arrV cA n (fun _ => defaultValue .byte) := rfl
theorem nw_boolean (n : Nat) (cA : ClassId) : vp_cell cA (n, .inl (fun _ => 0)) = arrV cA n (fun _ => defaultValue .boolean) := rfl
theorem nw_long (n : Nat) (cA : ClassId) : vp_cell cA (n, .inr (.inl (fun _ => 0))) = arrV cA n (fun _ => defaultValue .long) := rfl
/-- what the tables say beside the words of AL, for the constructors -/
def SD (U : State) : Prop := (∀ q ∈ NWM, va_Nw (.methodLinkNest q.1 q.2.1 q.2.2.1 q.2.2.2) U) ∧ va_AO "DownByAHair$Script" U ∧ va_AO "DownByAHair$Reading" U
theorem SD.warm {s U : State} (h : SD s) (hW : s.WarmedH U.vm) : SD U := ⟨fun q hm => va_Nw.warmM hW (h.1 q hm), va_AO.moved hW.alike h.2.1, va_AO.moved hW.alike h.2.2⟩
theorem SD.blind {U V : State} (h : SD U) (hv : V.vm = U.vm) : SD V := by
  have hal : U.vm.Alike V.vm := by rw [hv]; exact Vm.Alike.refl U.vm
  exact ⟨fun q hm => va_Nw.same rfl hv.symm (h.1 q hm), va_AO.moved hal h.2.1, va_AO.moved hal h.2.2⟩
def rmC (d k n : Nat) : Room := { frames := d, cells := k, slots := n, locals := 37 * d }
/-- a constructor's start: its cells, the classes, apart -/
def PcC (D : va_G) (av : List Value) (sz : Nat) (ws : va_W) : Array Value → State → Prop := va_Pc av (fun U => U.heap.size = sz ∧ va_P D vwCl ws U.heap ∧ va_K D vwCl [] U ∧ va_D (fun _ => True) ws ∧ SD U)
theorem PcC.blind {D : va_G} {av : List Value} {sz : Nat} {ws : va_W} : FrameBlind (PcC D av sz ws) := by
  intro a U g mk h
  obtain ⟨h1, h2, h3, h4, h5, h6⟩ := h
  exact ⟨h1, h2, h3, va_K.moved (Vm.Alike.refl U.vm) h4, h5, SD.blind h6 rfl⟩
set_option maxRecDepth 20000 in
theorem we_35 : Cond.methodLink RX8 1 objectInit ∈ AL := AL_t1 (List.mem_of_getElem? (i := 35) rfl) rfl
set_option maxRecDepth 20000 in
theorem we_25 : Cond.instanceMethod objectInit ∈ AL := AL_t1 (List.mem_of_getElem? (i := 25) rfl) rfl
set_option maxRecDepth 20000 in
theorem we_26 : Cond.code objectInit ⟨#[0xb1]⟩ 1 none ∈ AL := AL_t1 (List.mem_of_getElem? (i := 26) rfl) rfl
set_option maxRecDepth 20000 in
theorem we_53 : Cond.fieldLink RX8 7 "DownByAHair$World" "leftArm" "I" ∈ AL := AL_t1 (List.mem_of_getElem? (i := 53) rfl) rfl
set_option maxRecDepth 20000 in
theorem we_59 : Cond.fieldLink RX8 13 "DownByAHair$World" "rightArm" "I" ∈ AL := AL_t1 (List.mem_of_getElem? (i := 59) rfl) rfl
set_option maxHeartbeats 4000000 in
set_option maxRecDepth 100000 in
theorem cX8_init_3 (l : Launch) (D : va_G) (h0 : Nat) (sz : Nat) : Met l yX8_init (Cond.code yX8_init cX8_init 1 none :: AL) (rmC 1 0 0) (PcC D [.ref h0] sz [(h0, .inr (3, [.int 0, .int 0, .int 0, .int 0, .int 0, .int 0, .int 0, .int 0, .int 0, .int 0, .int 0]))]) (va_Qv (fun _ : Unit => True) (fun (_ : Unit) (t : State) => va_P D vwCl [(h0, .inr (3, [.int 10, .int 10, .int 0, .int 0, .int 0, .int 0, .int 0, .int 0, .int 0, .int 0, .int 0]))] t.heap ∧ va_K D vwCl [] t ∧ va_D (va_A [(h0, .inr (3, [.int 0, .int 0, .int 0, .int 0, .int 0, .int 0, .int 0, .int 0, .int 0, .int 0, .int 0]))] sz) [(h0, .inr (3, [.int 10, .int 10, .int 0, .int 0, .int 0, .int 0, .int 0, .int 0, .int 0, .int 0, .int 0]))]) (va_A [(h0, .inr (3, [.int 0, .int 0, .int 0, .int 0, .int 0, .int 0, .int 0, .int 0, .int 0, .int 0, .int 0]))] sz)) 0 0 (va_A [(h0, .inr (3, [.int 0, .int 0, .int 0, .int 0, .int 0, .int 0, .int 0, .int 0, .int 0, .int 0, .int 0]))] sz) := by
  refine Met.ofW (cc := cX8_init) (maxL := 1) (ret := none) (by decide +kernel) rfl ?_
  intro p e s m args below meth c s₁ B hml hv
  obtain ⟨rfl, hsz, hP, hK, hD0, hSD⟩ := hv
  have hx := B.exec
  have hb := B.bytes
  have hr := B.returns
  have hts0 := atoms_spec (ws := Cond.code yX8_init cX8_init 1 none :: AL) B.pre
  have hts : ∀ w ∈ AL, w.before _ s = true := fun w hw => hts0 w (List.mem_cons_of_mem _ hw)
  have hown : s.vm.findClass yX8_init.cls = some m.cls := findClass_of_methodNamed B.named
  have hlocks := B.notSynchronized
  have hin : meth.name = "<init>" := (name_of_methodNamed B.named B.method).1
  refine (show W p l e (rmC 1 0 0) s m _ below meth c s.heap [] 0 0 _ _ from ?_)
  subst hsz
  have hD := hD0.self (sz := s.heap.size)
  generalize hAe : va_A [(h0, .inr (3, [.int 0, .int 0, .int 0, .int 0, .int 0, .int 0, .int 0, .int 0, .int 0, .int 0, .int 0]))] s.heap.size = Ar at hD ⊢
  have hA : ∀ q : Nat, s.heap.size ≤ q → Ar q := fun q h => by rw [← hAe]; exact Or.inr h
  have hS : va_S Ar s.heap s.heap [] := va_S.rf
  have hP : va_P D vwCl [(h0, .inr (3, [.int 0, .int 0, .int 0, .int 0, .int 0, .int 0, .int 0, .int 0, .int 0, .int 0, .int 0]))] s.heap := hP
  have hl := lv_entry ([.ref h0]) (n := 1) (Nat.le_of_ble_eq_true rfl)
  rw [lg_entry_eq]
  generalize (lg_sl ([.ref h0]) ++ List.replicate (1 - (lg_sl ([.ref h0])).length) Slot.unset).toArray = ls at hl ⊢
  have hl : lv_has ls 1 [(0, .ref h0)] := hl
  refine lv_aload_n hx hb dX8_init_0 rfl (lv_at hl 0 rfl) ?_
  refine W.objInit hx hb hown (hts _ we_35) (hts _ we_25) (hts _ we_26) rfl (by rw [hml]; exact hl.1) rfl dX8_init_1 (Nat.le_of_ble_eq_true rfl) (Nat.le_of_ble_eq_true rfl) ?_
  refine W.eq (g2 := F0 m 4 ls []) rfl ?_
  refine lv_aload_n hx hb dX8_init_4 rfl (lv_at hl 0 rfl) ?_
  refine lv_bipush hx hb dX8_init_5 cb_10 ?_
  refine va_put (D := D) (ci := 3) (v := .int 10) (ty := .int) (C := RX3) (T := TX3) (N := 11) hx hb hts inA3 tyX3 tyX3_ok nmX3 hown hK hP hD hS 0 rfl rfl 0 (by decide) (hts _ we_53) (fun _ h9 => h9) rfl (by decide +kernel) rfl rfl (Nat.le_of_ble_eq_true rfl) dX8_init_7 (fun H locs hP hD hS => ?_)
  have hP : va_P D vwCl [(h0, .inr (3, [.int 10, .int 0, .int 0, .int 0, .int 0, .int 0, .int 0, .int 0, .int 0, .int 0, .int 0]))] H := hP
  have hD : va_D Ar [(h0, .inr (3, [.int 10, .int 0, .int 0, .int 0, .int 0, .int 0, .int 0, .int 0, .int 0, .int 0, .int 0]))] := hD
  refine lv_aload_n hx hb dX8_init_10 rfl (lv_at hl 0 rfl) ?_
  refine lv_bipush hx hb dX8_init_11 cb_10 ?_
  refine va_put (D := D) (ci := 3) (v := .int 10) (ty := .int) (C := RX3) (T := TX3) (N := 11) hx hb hts inA3 tyX3 tyX3_ok nmX3 hown hK hP hD hS 0 rfl rfl 1 (by decide) (hts _ we_59) (fun _ h9 => h9) rfl (by decide +kernel) rfl rfl (Nat.le_of_ble_eq_true rfl) dX8_init_13 (fun H locs hP hD hS => ?_)
  have hP : va_P D vwCl [(h0, .inr (3, [.int 10, .int 10, .int 0, .int 0, .int 0, .int 0, .int 0, .int 0, .int 0, .int 0, .int 0]))] H := hP
  have hD : va_D Ar [(h0, .inr (3, [.int 10, .int 10, .int 0, .int 0, .int 0, .int 0, .int 0, .int 0, .int 0, .int 0, .int 0]))] := hD
  refine W.widen (k := 0) (n := 0) (Nat.le_of_ble_eq_true rfl) (Nat.le_of_ble_eq_true rfl) ?_
  exact W.vret hx hb hr (fun t ht hW => ⟨⟨(), rfl, trivial, by rw [ht]; exact hP, va_K.moved hW.alike hK, hD⟩, hS.F ht⟩) hS.2.2 dX8_init_16

set_option maxHeartbeats 4000000 in
set_option maxRecDepth 100000 in
theorem cX8_init_6 (l : Launch) (D : va_G) (h0 : Nat) (sz : Nat) : Met l yX8_init (Cond.code yX8_init cX8_init 1 none :: AL) (rmC 1 0 0) (PcC D [.ref h0] sz [(h0, .inr (6, [.int 0, .int 0, .int 0, .int 0, .int 0, .int 0, .int 0, .null, .null, .int 0, .int 0, .int 0, .int 0, .null, .null, .int 0, .null, .int 0]))]) (va_Qv (fun _ : Unit => True) (fun (_ : Unit) (t : State) => va_P D vwCl [(h0, .inr (6, [.int 10, .int 10, .int 0, .int 0, .int 0, .int 0, .int 0, .null, .null, .int 0, .int 0, .int 0, .int 0, .null, .null, .int 0, .null, .int 0]))] t.heap ∧ va_K D vwCl [] t ∧ va_D (va_A [(h0, .inr (6, [.int 0, .int 0, .int 0, .int 0, .int 0, .int 0, .int 0, .null, .null, .int 0, .int 0, .int 0, .int 0, .null, .null, .int 0, .null, .int 0]))] sz) [(h0, .inr (6, [.int 10, .int 10, .int 0, .int 0, .int 0, .int 0, .int 0, .null, .null, .int 0, .int 0, .int 0, .int 0, .null, .null, .int 0, .null, .int 0]))]) (va_A [(h0, .inr (6, [.int 0, .int 0, .int 0, .int 0, .int 0, .int 0, .int 0, .null, .null, .int 0, .int 0, .int 0, .int 0, .null, .null, .int 0, .null, .int 0]))] sz)) 0 0 (va_A [(h0, .inr (6, [.int 0, .int 0, .int 0, .int 0, .int 0, .int 0, .int 0, .null, .null, .int 0, .int 0, .int 0, .int 0, .null, .null, .int 0, .null, .int 0]))] sz) := by
  refine Met.ofW (cc := cX8_init) (maxL := 1) (ret := none) (by decide +kernel) rfl ?_
  intro p e s m args below meth c s₁ B hml hv
  obtain ⟨rfl, hsz, hP, hK, hD0, hSD⟩ := hv
  have hx := B.exec
  have hb := B.bytes
  have hr := B.returns
  have hts0 := atoms_spec (ws := Cond.code yX8_init cX8_init 1 none :: AL) B.pre
  have hts : ∀ w ∈ AL, w.before _ s = true := fun w hw => hts0 w (List.mem_cons_of_mem _ hw)
  have hown : s.vm.findClass yX8_init.cls = some m.cls := findClass_of_methodNamed B.named
  have hlocks := B.notSynchronized
  have hin : meth.name = "<init>" := (name_of_methodNamed B.named B.method).1
  refine (show W p l e (rmC 1 0 0) s m _ below meth c s.heap [] 0 0 _ _ from ?_)
  subst hsz
  have hD := hD0.self (sz := s.heap.size)
  generalize hAe : va_A [(h0, .inr (6, [.int 0, .int 0, .int 0, .int 0, .int 0, .int 0, .int 0, .null, .null, .int 0, .int 0, .int 0, .int 0, .null, .null, .int 0, .null, .int 0]))] s.heap.size = Ar at hD ⊢
  have hA : ∀ q : Nat, s.heap.size ≤ q → Ar q := fun q h => by rw [← hAe]; exact Or.inr h
  have hS : va_S Ar s.heap s.heap [] := va_S.rf
  have hP : va_P D vwCl [(h0, .inr (6, [.int 0, .int 0, .int 0, .int 0, .int 0, .int 0, .int 0, .null, .null, .int 0, .int 0, .int 0, .int 0, .null, .null, .int 0, .null, .int 0]))] s.heap := hP
  have hl := lv_entry ([.ref h0]) (n := 1) (Nat.le_of_ble_eq_true rfl)
  rw [lg_entry_eq]
  generalize (lg_sl ([.ref h0]) ++ List.replicate (1 - (lg_sl ([.ref h0])).length) Slot.unset).toArray = ls at hl ⊢
  have hl : lv_has ls 1 [(0, .ref h0)] := hl
  refine lv_aload_n hx hb dX8_init_0 rfl (lv_at hl 0 rfl) ?_
  refine W.objInit hx hb hown (hts _ we_35) (hts _ we_25) (hts _ we_26) rfl (by rw [hml]; exact hl.1) rfl dX8_init_1 (Nat.le_of_ble_eq_true rfl) (Nat.le_of_ble_eq_true rfl) ?_
  refine W.eq (g2 := F0 m 4 ls []) rfl ?_
  refine lv_aload_n hx hb dX8_init_4 rfl (lv_at hl 0 rfl) ?_
  refine lv_bipush hx hb dX8_init_5 cb_10 ?_
  refine va_put (D := D) (ci := 6) (v := .int 10) (ty := .int) (C := RX6) (T := TX6) (N := 18) hx hb hts inA6 tyX6 tyX6_ok nmX6 hown hK hP hD hS 0 rfl rfl 0 (by decide) (hts _ we_53) (fun _ h9 => h9) rfl (by decide +kernel) rfl rfl (Nat.le_of_ble_eq_true rfl) dX8_init_7 (fun H locs hP hD hS => ?_)
  have hP : va_P D vwCl [(h0, .inr (6, [.int 10, .int 0, .int 0, .int 0, .int 0, .int 0, .int 0, .null, .null, .int 0, .int 0, .int 0, .int 0, .null, .null, .int 0, .null, .int 0]))] H := hP
  have hD : va_D Ar [(h0, .inr (6, [.int 10, .int 0, .int 0, .int 0, .int 0, .int 0, .int 0, .null, .null, .int 0, .int 0, .int 0, .int 0, .null, .null, .int 0, .null, .int 0]))] := hD
  refine lv_aload_n hx hb dX8_init_10 rfl (lv_at hl 0 rfl) ?_
  refine lv_bipush hx hb dX8_init_11 cb_10 ?_
  refine va_put (D := D) (ci := 6) (v := .int 10) (ty := .int) (C := RX6) (T := TX6) (N := 18) hx hb hts inA6 tyX6 tyX6_ok nmX6 hown hK hP hD hS 0 rfl rfl 1 (by decide) (hts _ we_59) (fun _ h9 => h9) rfl (by decide +kernel) rfl rfl (Nat.le_of_ble_eq_true rfl) dX8_init_13 (fun H locs hP hD hS => ?_)
  have hP : va_P D vwCl [(h0, .inr (6, [.int 10, .int 10, .int 0, .int 0, .int 0, .int 0, .int 0, .null, .null, .int 0, .int 0, .int 0, .int 0, .null, .null, .int 0, .null, .int 0]))] H := hP
  have hD : va_D Ar [(h0, .inr (6, [.int 10, .int 10, .int 0, .int 0, .int 0, .int 0, .int 0, .null, .null, .int 0, .int 0, .int 0, .int 0, .null, .null, .int 0, .null, .int 0]))] := hD
  refine W.widen (k := 0) (n := 0) (Nat.le_of_ble_eq_true rfl) (Nat.le_of_ble_eq_true rfl) ?_
  exact W.vret hx hb hr (fun t ht hW => ⟨⟨(), rfl, trivial, by rw [ht]; exact hP, va_K.moved hW.alike hK, hD⟩, hS.F ht⟩) hS.2.2 dX8_init_16

set_option maxRecDepth 20000 in
theorem we_33 : Cond.instanceMethod yX8_init ∈ AL := AL_t1 (List.mem_of_getElem? (i := 33) rfl) rfl
set_option maxRecDepth 20000 in
theorem we_2 : Cond.initialized RX8 ∈ AL := AL_t1 (List.mem_of_getElem? (i := 2) rfl) rfl
set_option maxRecDepth 20000 in
theorem we_34 : Cond.code yX8_init cX8_init 1 none ∈ AL := AL_t1 (List.mem_of_getElem? (i := 34) rfl) rfl
set_option maxHeartbeats 4000000 in
set_option maxRecDepth 100000 in
theorem cX3_init_3 (l : Launch) (D : va_G) (h0 : Nat) (sz : Nat) : Met l yX3_init (Cond.code yX3_init cX3_init 1 none :: AL) (rmC 2 0 0) (PcC D [.ref h0] sz [(h0, .inr (3, [.int 0, .int 0, .int 0, .int 0, .int 0, .int 0, .int 0, .int 0, .int 0, .int 0, .int 0]))]) (va_Qv (fun _ : Unit => True) (fun (_ : Unit) (t : State) => va_P D vwCl [(h0, .inr (3, [.int 10, .int 10, .int 0, .int 0, .int 0, .int 0, .int 0, .int 0, .int 0, .int 0, .int 0]))] t.heap ∧ va_K D vwCl [] t ∧ va_D (va_A [(h0, .inr (3, [.int 0, .int 0, .int 0, .int 0, .int 0, .int 0, .int 0, .int 0, .int 0, .int 0, .int 0]))] sz) [(h0, .inr (3, [.int 10, .int 10, .int 0, .int 0, .int 0, .int 0, .int 0, .int 0, .int 0, .int 0, .int 0]))]) (va_A [(h0, .inr (3, [.int 0, .int 0, .int 0, .int 0, .int 0, .int 0, .int 0, .int 0, .int 0, .int 0, .int 0]))] sz)) 0 0 (va_A [(h0, .inr (3, [.int 0, .int 0, .int 0, .int 0, .int 0, .int 0, .int 0, .int 0, .int 0, .int 0, .int 0]))] sz) := by
  refine Met.ofW (cc := cX3_init) (maxL := 1) (ret := none) (by decide +kernel) rfl ?_
  intro p e s m args below meth c s₁ B hml hv
  obtain ⟨rfl, hsz, hP, hK, hD0, hSD⟩ := hv
  have hx := B.exec
  have hb := B.bytes
  have hr := B.returns
  have hts0 := atoms_spec (ws := Cond.code yX3_init cX3_init 1 none :: AL) B.pre
  have hts : ∀ w ∈ AL, w.before _ s = true := fun w hw => hts0 w (List.mem_cons_of_mem _ hw)
  have hown : s.vm.findClass yX3_init.cls = some m.cls := findClass_of_methodNamed B.named
  have hlocks := B.notSynchronized
  have hin : meth.name = "<init>" := (name_of_methodNamed B.named B.method).1
  refine (show W p l e (rmC 2 0 0) s m _ below meth c s.heap [] 0 0 _ _ from ?_)
  subst hsz
  have hD := hD0.self (sz := s.heap.size)
  generalize hAe : va_A [(h0, .inr (3, [.int 0, .int 0, .int 0, .int 0, .int 0, .int 0, .int 0, .int 0, .int 0, .int 0, .int 0]))] s.heap.size = Ar at hD ⊢
  have hA : ∀ q : Nat, s.heap.size ≤ q → Ar q := fun q h => by rw [← hAe]; exact Or.inr h
  have hS : va_S Ar s.heap s.heap [] := va_S.rf
  have hP : va_P D vwCl [(h0, .inr (3, [.int 0, .int 0, .int 0, .int 0, .int 0, .int 0, .int 0, .int 0, .int 0, .int 0, .int 0]))] s.heap := hP
  have hl := lv_entry ([.ref h0]) (n := 1) (Nat.le_of_ble_eq_true rfl)
  rw [lg_entry_eq]
  generalize (lg_sl ([.ref h0]) ++ List.replicate (1 - (lg_sl ([.ref h0])).length) Slot.unset).toArray = ls at hl ⊢
  have hl : lv_has ls 1 [(0, .ref h0)] := hl
  refine lv_aload_n hx hb dX3_init_0 rfl (lv_at hl 0 rfl) ?_
  have hPc := hP.sub (ws' := [(h0, .inr (3, [.int 0, .int 0, .int 0, .int 0, .int 0, .int 0, .int 0, .int 0, .int 0, .int 0, .int 0]))]) [0] rfl
  have hDc := hD.sub (ws' := [(h0, .inr (3, [.int 0, .int 0, .int 0, .int 0, .int 0, .int 0, .int 0, .int 0, .int 0, .int 0, .int 0]))]) [0] (by decide) rfl
  have hKc := hK.sub (tys' := []) [] rfl
  have hFc := va_free (wc := [(h0, .inr (3, [.int 0, .int 0, .int 0, .int 0, .int 0, .int 0, .int 0, .int 0, .int 0, .int 0, .int 0]))]) hD hS hA [0] rfl
  refine va_callv (va_runIN (As := []) (rest := []) ⟨hx, hb, hml, hown, hts⟩ (cX8_init_3 l D h0 s.heap.size) ⟨va_cnB 0 hts (good_A we_34) rfl rfl rfl (hSD.1 (RX3, 3, yX8_init, "DownByAHair") (by decide +kernel)) (hts _ we_2) (by decide +kernel) ⟨Nat.le_of_ble_eq_true rfl, Nat.le_of_ble_eq_true rfl⟩, rfl, hts _ we_33⟩ ⟨PcC.blind, fun U hU hW => ⟨rfl, by rw [hU], by rw [hU]; exact hPc, va_K.moved hW.alike hKc, hDc.weaken (fun _ _ _ _ => trivial), hSD.warm hW⟩⟩ rfl rfl hl.1 rfl (lv_room (Nat.le_of_ble_eq_true rfl)) dX3_init_1 ⟨Nat.le_of_ble_eq_true rfl, Nat.le_of_ble_eq_true rfl⟩) hS (fun q _ h => hFc q h) hFc (fun u_ t_ H1 locs ht hvm hw hB hz1 hk1 hS => ?_)
  obtain ⟨hP1, hK1, hD1⟩ := hB
  rw [ht] at hP1
  have hK1 := va_K.moved hvm.symm hK1
  obtain ⟨hP, hD⟩ := va_join (wr := []) (w1 := [(h0, .inr (3, [.int 10, .int 10, .int 0, .int 0, .int 0, .int 0, .int 0, .int 0, .int 0, .int 0, .int 0]))]) hP hD [0] [] rfl rfl (by decide) (by decide) hk1 hFc hP1 hD1
  have hK := hK.app hK1
  generalize H1 = H at hP hS ⊢
  have hP : va_P D vwCl [(h0, .inr (3, [.int 10, .int 10, .int 0, .int 0, .int 0, .int 0, .int 0, .int 0, .int 0, .int 0, .int 0]))] H := hP
  have hD : va_D Ar [(h0, .inr (3, [.int 10, .int 10, .int 0, .int 0, .int 0, .int 0, .int 0, .int 0, .int 0, .int 0, .int 0]))] := hD
  have hK : va_K D vwCl [] s := hK
  refine W.widen (k := 0) (n := 0) (Nat.le_of_ble_eq_true rfl) (Nat.le_of_ble_eq_true rfl) ?_
  exact W.vret hx hb hr (fun t ht hW => ⟨⟨(), rfl, trivial, by rw [ht]; exact hP, va_K.moved hW.alike hK, hD⟩, hS.F ht⟩) hS.2.2 dX3_init_4

set_option maxRecDepth 20000 in
theorem we_110 : Cond.arrayClass .int ∈ AL := AL_t1 (List.mem_of_getElem? (i := 110) rfl) rfl
set_option maxRecDepth 20000 in
theorem we_116 : Cond.fieldLink RX6 9 "DownByAHair$State" "weight" "[I" ∈ AL := AL_t1 (List.mem_of_getElem? (i := 116) rfl) rfl
set_option maxRecDepth 20000 in
theorem we_120 : Cond.fieldLink RX6 15 "DownByAHair$State" "sort" "[I" ∈ AL := AL_t1 (List.mem_of_getElem? (i := 120) rfl) rfl
set_option maxRecDepth 20000 in
theorem we_129 : Cond.fieldLink RX6 18 "DownByAHair$State" "ruling" "I" ∈ AL := AL_t1 (List.mem_of_getElem? (i := 129) rfl) rfl
set_option maxRecDepth 20000 in
theorem we_135 : Cond.fieldLink RX6 22 "DownByAHair$State" "steps" "[I" ∈ AL := AL_t1 (List.mem_of_getElem? (i := 135) rfl) rfl
set_option maxRecDepth 20000 in
theorem we_36 : Cond.classLink RX6 25 "DownByAHair$Reading" ∈ AL := AL_t1 (List.mem_of_getElem? (i := 36) rfl) rfl
set_option maxRecDepth 20000 in
theorem we_138 : Cond.fieldLink RX6 27 "DownByAHair$State" "readings" "[LDownByAHair$Reading;" ∈ AL := AL_t1 (List.mem_of_getElem? (i := 138) rfl) rfl
set_option maxRecDepth 20000 in
theorem we_38 : Cond.instantiable RX3 11 ∈ AL := AL_t1 (List.mem_of_getElem? (i := 38) rfl) rfl
set_option maxRecDepth 20000 in
theorem we_4 : Cond.initialized RX3 ∈ AL := AL_t1 (List.mem_of_getElem? (i := 4) rfl) rfl
set_option maxRecDepth 20000 in
theorem we_40 : Cond.instanceMethod yX3_init ∈ AL := AL_t1 (List.mem_of_getElem? (i := 40) rfl) rfl
set_option maxRecDepth 20000 in
theorem we_41 : Cond.code yX3_init cX3_init 1 none ∈ AL := AL_t1 (List.mem_of_getElem? (i := 41) rfl) rfl
set_option maxHeartbeats 4000000 in
set_option maxRecDepth 100000 in
theorem cX6_init_6 (l : Launch) (D : va_G) (h0 : Nat) (sz : Nat) : Met l yX6_init (Cond.code yX6_init cX6_init 2 none :: AL) (rmC 3 14 184) (PcC D [.ref h0] sz [(h0, .inr (6, [.int 0, .int 0, .int 0, .int 0, .int 0, .int 0, .int 0, .null, .null, .int 0, .int 0, .int 0, .int 0, .null, .null, .int 0, .null, .int 0]))]) (va_Qv (fun _ : Unit => True) (fun (_ : Unit) (t : State) => ∃ (q_1 q_3 q_5 q_7 q_9 q_10 q_11 q_12 q_13 q_14 q_15 q_16 q_17 q_18 : Nat) (c_2 c_4 c_6 c_8 : ClassId), va_P D vwCl [(h0, .inr (6, [.int 10, .int 10, .int 0, .int 0, .int 0, .int 0, .int 0, .ref q_1, .ref q_3, .int 0, .int 0, .int 0, .int (-1), .null, .ref q_5, .int 0, .ref q_7, .int 0])), (q_1, .inl (c_2, 12, .inl (fun _ => 0))), (q_3, .inl (c_4, 12, .inl (fun _ => 0))), (q_5, .inl (c_6, 40, .inl (fun _ => 0))), (q_7, .inl (c_8, 10, .inr (.inr (.inr (.inr (va_up (va_up (va_up (va_up (va_up (va_up (va_up (va_up (va_up (va_up (fun _ => none) 0 (some q_9)) 1 (some q_10)) 2 (some q_11)) 3 (some q_12)) 4 (some q_13)) 5 (some q_14)) 6 (some q_15)) 7 (some q_16)) 8 (some q_17)) 9 (some q_18))))))), (q_9, .inr (3, [.int 10, .int 10, .int 0, .int 0, .int 0, .int 0, .int 0, .int 0, .int 0, .int 0, .int 0])), (q_10, .inr (3, [.int 10, .int 10, .int 0, .int 0, .int 0, .int 0, .int 0, .int 0, .int 0, .int 0, .int 0])), (q_11, .inr (3, [.int 10, .int 10, .int 0, .int 0, .int 0, .int 0, .int 0, .int 0, .int 0, .int 0, .int 0])), (q_12, .inr (3, [.int 10, .int 10, .int 0, .int 0, .int 0, .int 0, .int 0, .int 0, .int 0, .int 0, .int 0])), (q_13, .inr (3, [.int 10, .int 10, .int 0, .int 0, .int 0, .int 0, .int 0, .int 0, .int 0, .int 0, .int 0])), (q_14, .inr (3, [.int 10, .int 10, .int 0, .int 0, .int 0, .int 0, .int 0, .int 0, .int 0, .int 0, .int 0])), (q_15, .inr (3, [.int 10, .int 10, .int 0, .int 0, .int 0, .int 0, .int 0, .int 0, .int 0, .int 0, .int 0])), (q_16, .inr (3, [.int 10, .int 10, .int 0, .int 0, .int 0, .int 0, .int 0, .int 0, .int 0, .int 0, .int 0])), (q_17, .inr (3, [.int 10, .int 10, .int 0, .int 0, .int 0, .int 0, .int 0, .int 0, .int 0, .int 0, .int 0])), (q_18, .inr (3, [.int 10, .int 10, .int 0, .int 0, .int 0, .int 0, .int 0, .int 0, .int 0, .int 0, .int 0]))] t.heap ∧ va_K D vwCl [(c_2, .int), (c_4, .int), (c_6, .int), (c_8, .object "DownByAHair$Reading")] t ∧ va_D (va_A [(h0, .inr (6, [.int 0, .int 0, .int 0, .int 0, .int 0, .int 0, .int 0, .null, .null, .int 0, .int 0, .int 0, .int 0, .null, .null, .int 0, .null, .int 0]))] sz) [(h0, .inr (6, [.int 10, .int 10, .int 0, .int 0, .int 0, .int 0, .int 0, .ref q_1, .ref q_3, .int 0, .int 0, .int 0, .int (-1), .null, .ref q_5, .int 0, .ref q_7, .int 0])), (q_1, .inl (c_2, 12, .inl (fun _ => 0))), (q_3, .inl (c_4, 12, .inl (fun _ => 0))), (q_5, .inl (c_6, 40, .inl (fun _ => 0))), (q_7, .inl (c_8, 10, .inr (.inr (.inr (.inr (va_up (va_up (va_up (va_up (va_up (va_up (va_up (va_up (va_up (va_up (fun _ => none) 0 (some q_9)) 1 (some q_10)) 2 (some q_11)) 3 (some q_12)) 4 (some q_13)) 5 (some q_14)) 6 (some q_15)) 7 (some q_16)) 8 (some q_17)) 9 (some q_18))))))), (q_9, .inr (3, [.int 10, .int 10, .int 0, .int 0, .int 0, .int 0, .int 0, .int 0, .int 0, .int 0, .int 0])), (q_10, .inr (3, [.int 10, .int 10, .int 0, .int 0, .int 0, .int 0, .int 0, .int 0, .int 0, .int 0, .int 0])), (q_11, .inr (3, [.int 10, .int 10, .int 0, .int 0, .int 0, .int 0, .int 0, .int 0, .int 0, .int 0, .int 0])), (q_12, .inr (3, [.int 10, .int 10, .int 0, .int 0, .int 0, .int 0, .int 0, .int 0, .int 0, .int 0, .int 0])), (q_13, .inr (3, [.int 10, .int 10, .int 0, .int 0, .int 0, .int 0, .int 0, .int 0, .int 0, .int 0, .int 0])), (q_14, .inr (3, [.int 10, .int 10, .int 0, .int 0, .int 0, .int 0, .int 0, .int 0, .int 0, .int 0, .int 0])), (q_15, .inr (3, [.int 10, .int 10, .int 0, .int 0, .int 0, .int 0, .int 0, .int 0, .int 0, .int 0, .int 0])), (q_16, .inr (3, [.int 10, .int 10, .int 0, .int 0, .int 0, .int 0, .int 0, .int 0, .int 0, .int 0, .int 0])), (q_17, .inr (3, [.int 10, .int 10, .int 0, .int 0, .int 0, .int 0, .int 0, .int 0, .int 0, .int 0, .int 0])), (q_18, .inr (3, [.int 10, .int 10, .int 0, .int 0, .int 0, .int 0, .int 0, .int 0, .int 0, .int 0, .int 0]))]) (va_A [(h0, .inr (6, [.int 0, .int 0, .int 0, .int 0, .int 0, .int 0, .int 0, .null, .null, .int 0, .int 0, .int 0, .int 0, .null, .null, .int 0, .null, .int 0]))] sz)) 14 184 (va_A [(h0, .inr (6, [.int 0, .int 0, .int 0, .int 0, .int 0, .int 0, .int 0, .null, .null, .int 0, .int 0, .int 0, .int 0, .null, .null, .int 0, .null, .int 0]))] sz) := by
  refine Met.ofW (cc := cX6_init) (maxL := 2) (ret := none) (by decide +kernel) rfl ?_
  intro p e s m args below meth c s₁ B hml hv
  obtain ⟨rfl, hsz, hP, hK, hD0, hSD⟩ := hv
  have hx := B.exec
  have hb := B.bytes
  have hr := B.returns
  have hts0 := atoms_spec (ws := Cond.code yX6_init cX6_init 2 none :: AL) B.pre
  have hts : ∀ w ∈ AL, w.before _ s = true := fun w hw => hts0 w (List.mem_cons_of_mem _ hw)
  have hown : s.vm.findClass yX6_init.cls = some m.cls := findClass_of_methodNamed B.named
  have hlocks := B.notSynchronized
  have hin : meth.name = "<init>" := (name_of_methodNamed B.named B.method).1
  refine (show W p l e (rmC 3 14 184) s m _ below meth c s.heap [] 0 0 _ _ from ?_)
  subst hsz
  have hD := hD0.self (sz := s.heap.size)
  generalize hAe : va_A [(h0, .inr (6, [.int 0, .int 0, .int 0, .int 0, .int 0, .int 0, .int 0, .null, .null, .int 0, .int 0, .int 0, .int 0, .null, .null, .int 0, .null, .int 0]))] s.heap.size = Ar at hD ⊢
  have hA : ∀ q : Nat, s.heap.size ≤ q → Ar q := fun q h => by rw [← hAe]; exact Or.inr h
  have hS : va_S Ar s.heap s.heap [] := va_S.rf
  have hP : va_P D vwCl [(h0, .inr (6, [.int 0, .int 0, .int 0, .int 0, .int 0, .int 0, .int 0, .null, .null, .int 0, .int 0, .int 0, .int 0, .null, .null, .int 0, .null, .int 0]))] s.heap := hP
  have hl := lv_entry ([.ref h0]) (n := 2) (Nat.le_of_ble_eq_true rfl)
  rw [lg_entry_eq]
  generalize (lg_sl ([.ref h0]) ++ List.replicate (2 - (lg_sl ([.ref h0])).length) Slot.unset).toArray = ls at hl ⊢
  have hl : lv_has ls 2 [(0, .ref h0)] := hl
  refine lv_aload_n hx hb dX6_init_0 rfl (lv_at hl 0 rfl) ?_
  have hPc := hP.sub (ws' := [(h0, .inr (6, [.int 0, .int 0, .int 0, .int 0, .int 0, .int 0, .int 0, .null, .null, .int 0, .int 0, .int 0, .int 0, .null, .null, .int 0, .null, .int 0]))]) [0] rfl
  have hDc := hD.sub (ws' := [(h0, .inr (6, [.int 0, .int 0, .int 0, .int 0, .int 0, .int 0, .int 0, .null, .null, .int 0, .int 0, .int 0, .int 0, .null, .null, .int 0, .null, .int 0]))]) [0] (by decide) rfl
  have hKc := hK.sub (tys' := []) [] rfl
  have hFc := va_free (wc := [(h0, .inr (6, [.int 0, .int 0, .int 0, .int 0, .int 0, .int 0, .int 0, .null, .null, .int 0, .int 0, .int 0, .int 0, .null, .null, .int 0, .null, .int 0]))]) hD hS hA [0] rfl
  refine va_callv (va_runIN (As := []) (rest := []) ⟨hx, hb, hml, hown, hts⟩ (cX8_init_6 l D h0 s.heap.size) ⟨va_cnB 0 hts (good_A we_34) rfl rfl rfl (hSD.1 (RX6, 3, yX8_init, "DownByAHair") (by decide +kernel)) (hts _ we_2) (by decide +kernel) ⟨Nat.le_of_ble_eq_true rfl, Nat.le_of_ble_eq_true rfl⟩, rfl, hts _ we_33⟩ ⟨PcC.blind, fun U hU hW => ⟨rfl, by rw [hU], by rw [hU]; exact hPc, va_K.moved hW.alike hKc, hDc.weaken (fun _ _ _ _ => trivial), hSD.warm hW⟩⟩ rfl rfl hl.1 rfl (lv_room (Nat.le_of_ble_eq_true rfl)) dX6_init_1 ⟨Nat.le_of_ble_eq_true rfl, Nat.le_of_ble_eq_true rfl⟩) hS (fun q _ h => hFc q h) hFc (fun u_ t_ H1 locs ht hvm hw hB hz1 hk1 hS => ?_)
  obtain ⟨hP1, hK1, hD1⟩ := hB
  rw [ht] at hP1
  have hK1 := va_K.moved hvm.symm hK1
  obtain ⟨hP, hD⟩ := va_join (wr := []) (w1 := [(h0, .inr (6, [.int 10, .int 10, .int 0, .int 0, .int 0, .int 0, .int 0, .null, .null, .int 0, .int 0, .int 0, .int 0, .null, .null, .int 0, .null, .int 0]))]) hP hD [0] [] rfl rfl (by decide) (by decide) hk1 hFc hP1 hD1
  have hK := hK.app hK1
  generalize H1 = H at hP hS ⊢
  have hP : va_P D vwCl [(h0, .inr (6, [.int 10, .int 10, .int 0, .int 0, .int 0, .int 0, .int 0, .null, .null, .int 0, .int 0, .int 0, .int 0, .null, .null, .int 0, .null, .int 0]))] H := hP
  have hD : va_D Ar [(h0, .inr (6, [.int 10, .int 10, .int 0, .int 0, .int 0, .int 0, .int 0, .null, .null, .int 0, .int 0, .int 0, .int 0, .null, .null, .int 0, .null, .int 0]))] := hD
  have hK : va_K D vwCl [] s := hK
  refine lv_aload_n hx hb dX6_init_4 rfl (lv_at hl 0 rfl) ?_
  refine lv_bipush hx hb dX6_init_5 cb_12 ?_
  refine va_newa (atype := .int) (n := 12) (N' := 12) (ty := .int) (a0 := (12, .inl (fun _ => 0))) hx hb (hts _ we_110) rfl hK hP hD hS hA (nw_int 12) (by decide +kernel) (by decide +kernel) (by decide +kernel) (Nat.le_of_ble_eq_true rfl) (Nat.le_of_ble_eq_true rfl) dX6_init_7 (fun q_1 c_2 H hK hP hD hS => ?_)
  have hP : va_P D vwCl [(h0, .inr (6, [.int 10, .int 10, .int 0, .int 0, .int 0, .int 0, .int 0, .null, .null, .int 0, .int 0, .int 0, .int 0, .null, .null, .int 0, .null, .int 0])), (q_1, .inl (c_2, 12, .inl (fun _ => 0)))] H := hP
  have hD : va_D Ar [(h0, .inr (6, [.int 10, .int 10, .int 0, .int 0, .int 0, .int 0, .int 0, .null, .null, .int 0, .int 0, .int 0, .int 0, .null, .null, .int 0, .null, .int 0])), (q_1, .inl (c_2, 12, .inl (fun _ => 0)))] := hD
  have hK : va_K D vwCl [(c_2, .int)] s := hK
  refine va_putF (D := D) (ci := 6) (v := .ref q_1) (ty := (.array .int)) (C := RX6) (T := TX6) (N := 18) hx hb hts inA6 tyX6 tyX6_ok nmX6 hown hK hP hD hS 0 rfl rfl 7 (by decide) (hts _ we_116) (fun _ h9 => h9) rfl hin rfl (by decide +kernel) rfl rfl (Nat.le_of_ble_eq_true rfl) dX6_init_9 (fun H locs hP hD hS => ?_)
  have hP : va_P D vwCl [(h0, .inr (6, [.int 10, .int 10, .int 0, .int 0, .int 0, .int 0, .int 0, .ref q_1, .null, .int 0, .int 0, .int 0, .int 0, .null, .null, .int 0, .null, .int 0])), (q_1, .inl (c_2, 12, .inl (fun _ => 0)))] H := hP
  have hD : va_D Ar [(h0, .inr (6, [.int 10, .int 10, .int 0, .int 0, .int 0, .int 0, .int 0, .ref q_1, .null, .int 0, .int 0, .int 0, .int 0, .null, .null, .int 0, .null, .int 0])), (q_1, .inl (c_2, 12, .inl (fun _ => 0)))] := hD
  refine lv_aload_n hx hb dX6_init_12 rfl (lv_at hl 0 rfl) ?_
  refine lv_bipush hx hb dX6_init_13 cb_12 ?_
  refine va_newa (atype := .int) (n := 12) (N' := 12) (ty := .int) (a0 := (12, .inl (fun _ => 0))) hx hb (hts _ we_110) rfl hK hP hD hS hA (nw_int 12) (by decide +kernel) (by decide +kernel) (by decide +kernel) (Nat.le_of_ble_eq_true rfl) (Nat.le_of_ble_eq_true rfl) dX6_init_15 (fun q_3 c_4 H hK hP hD hS => ?_)
  have hP : va_P D vwCl [(h0, .inr (6, [.int 10, .int 10, .int 0, .int 0, .int 0, .int 0, .int 0, .ref q_1, .null, .int 0, .int 0, .int 0, .int 0, .null, .null, .int 0, .null, .int 0])), (q_1, .inl (c_2, 12, .inl (fun _ => 0))), (q_3, .inl (c_4, 12, .inl (fun _ => 0)))] H := hP
  have hD : va_D Ar [(h0, .inr (6, [.int 10, .int 10, .int 0, .int 0, .int 0, .int 0, .int 0, .ref q_1, .null, .int 0, .int 0, .int 0, .int 0, .null, .null, .int 0, .null, .int 0])), (q_1, .inl (c_2, 12, .inl (fun _ => 0))), (q_3, .inl (c_4, 12, .inl (fun _ => 0)))] := hD
  have hK : va_K D vwCl [(c_2, .int), (c_4, .int)] s := hK
  refine va_putF (D := D) (ci := 6) (v := .ref q_3) (ty := (.array .int)) (C := RX6) (T := TX6) (N := 18) hx hb hts inA6 tyX6 tyX6_ok nmX6 hown hK hP hD hS 0 rfl rfl 8 (by decide) (hts _ we_120) (fun _ h9 => h9) rfl hin rfl (by decide +kernel) rfl rfl (Nat.le_of_ble_eq_true rfl) dX6_init_17 (fun H locs hP hD hS => ?_)
  have hP : va_P D vwCl [(h0, .inr (6, [.int 10, .int 10, .int 0, .int 0, .int 0, .int 0, .int 0, .ref q_1, .ref q_3, .int 0, .int 0, .int 0, .int 0, .null, .null, .int 0, .null, .int 0])), (q_1, .inl (c_2, 12, .inl (fun _ => 0))), (q_3, .inl (c_4, 12, .inl (fun _ => 0)))] H := hP
  have hD : va_D Ar [(h0, .inr (6, [.int 10, .int 10, .int 0, .int 0, .int 0, .int 0, .int 0, .ref q_1, .ref q_3, .int 0, .int 0, .int 0, .int 0, .null, .null, .int 0, .null, .int 0])), (q_1, .inl (c_2, 12, .inl (fun _ => 0))), (q_3, .inl (c_4, 12, .inl (fun _ => 0)))] := hD
  refine lv_aload_n hx hb dX6_init_20 rfl (lv_at hl 0 rfl) ?_
  refine lv_iconst hx hb dX6_init_21 ci_m1 ?_
  refine va_put (D := D) (ci := 6) (v := .int (-1)) (ty := .int) (C := RX6) (T := TX6) (N := 18) hx hb hts inA6 tyX6 tyX6_ok nmX6 hown hK hP hD hS 0 rfl rfl 12 (by decide) (hts _ we_129) (fun _ h9 => h9) rfl (by decide +kernel) rfl rfl (Nat.le_of_ble_eq_true rfl) dX6_init_22 (fun H locs hP hD hS => ?_)
  have hP : va_P D vwCl [(h0, .inr (6, [.int 10, .int 10, .int 0, .int 0, .int 0, .int 0, .int 0, .ref q_1, .ref q_3, .int 0, .int 0, .int 0, .int (-1), .null, .null, .int 0, .null, .int 0])), (q_1, .inl (c_2, 12, .inl (fun _ => 0))), (q_3, .inl (c_4, 12, .inl (fun _ => 0)))] H := hP
  have hD : va_D Ar [(h0, .inr (6, [.int 10, .int 10, .int 0, .int 0, .int 0, .int 0, .int 0, .ref q_1, .ref q_3, .int 0, .int 0, .int 0, .int (-1), .null, .null, .int 0, .null, .int 0])), (q_1, .inl (c_2, 12, .inl (fun _ => 0))), (q_3, .inl (c_4, 12, .inl (fun _ => 0)))] := hD
  refine lv_aload_n hx hb dX6_init_25 rfl (lv_at hl 0 rfl) ?_
  refine lv_bipush hx hb dX6_init_26 cb_40 ?_
  refine va_newa (atype := .int) (n := 40) (N' := 40) (ty := .int) (a0 := (40, .inl (fun _ => 0))) hx hb (hts _ we_110) rfl hK hP hD hS hA (nw_int 40) (by decide +kernel) (by decide +kernel) (by decide +kernel) (Nat.le_of_ble_eq_true rfl) (Nat.le_of_ble_eq_true rfl) dX6_init_28 (fun q_5 c_6 H hK hP hD hS => ?_)
  have hP : va_P D vwCl [(h0, .inr (6, [.int 10, .int 10, .int 0, .int 0, .int 0, .int 0, .int 0, .ref q_1, .ref q_3, .int 0, .int 0, .int 0, .int (-1), .null, .null, .int 0, .null, .int 0])), (q_1, .inl (c_2, 12, .inl (fun _ => 0))), (q_3, .inl (c_4, 12, .inl (fun _ => 0))), (q_5, .inl (c_6, 40, .inl (fun _ => 0)))] H := hP
  have hD : va_D Ar [(h0, .inr (6, [.int 10, .int 10, .int 0, .int 0, .int 0, .int 0, .int 0, .ref q_1, .ref q_3, .int 0, .int 0, .int 0, .int (-1), .null, .null, .int 0, .null, .int 0])), (q_1, .inl (c_2, 12, .inl (fun _ => 0))), (q_3, .inl (c_4, 12, .inl (fun _ => 0))), (q_5, .inl (c_6, 40, .inl (fun _ => 0)))] := hD
  have hK : va_K D vwCl [(c_2, .int), (c_4, .int), (c_6, .int)] s := hK
  refine va_putF (D := D) (ci := 6) (v := .ref q_5) (ty := (.array .int)) (C := RX6) (T := TX6) (N := 18) hx hb hts inA6 tyX6 tyX6_ok nmX6 hown hK hP hD hS 0 rfl rfl 14 (by decide) (hts _ we_135) (fun _ h9 => h9) rfl hin rfl (by decide +kernel) rfl rfl (Nat.le_of_ble_eq_true rfl) dX6_init_30 (fun H locs hP hD hS => ?_)
  have hP : va_P D vwCl [(h0, .inr (6, [.int 10, .int 10, .int 0, .int 0, .int 0, .int 0, .int 0, .ref q_1, .ref q_3, .int 0, .int 0, .int 0, .int (-1), .null, .ref q_5, .int 0, .null, .int 0])), (q_1, .inl (c_2, 12, .inl (fun _ => 0))), (q_3, .inl (c_4, 12, .inl (fun _ => 0))), (q_5, .inl (c_6, 40, .inl (fun _ => 0)))] H := hP
  have hD : va_D Ar [(h0, .inr (6, [.int 10, .int 10, .int 0, .int 0, .int 0, .int 0, .int 0, .ref q_1, .ref q_3, .int 0, .int 0, .int 0, .int (-1), .null, .ref q_5, .int 0, .null, .int 0])), (q_1, .inl (c_2, 12, .inl (fun _ => 0))), (q_3, .inl (c_4, 12, .inl (fun _ => 0))), (q_5, .inl (c_6, 40, .inl (fun _ => 0)))] := hD
  refine lv_aload_n hx hb dX6_init_33 rfl (lv_at hl 0 rfl) ?_
  refine lv_bipush hx hb dX6_init_34 cb_10 ?_
  refine va_newq (C := "DownByAHair$Reading") (N' := 10) hx hb hown (hts _ we_36) hSD.2.2 hK hP hD hS hA (by decide) (by decide +kernel) (by decide) (Nat.le_of_ble_eq_true rfl) (Nat.le_of_ble_eq_true rfl) dX6_init_36 (fun q_7 c_8 H hK hP hD hS => ?_)
  have hP : va_P D vwCl [(h0, .inr (6, [.int 10, .int 10, .int 0, .int 0, .int 0, .int 0, .int 0, .ref q_1, .ref q_3, .int 0, .int 0, .int 0, .int (-1), .null, .ref q_5, .int 0, .null, .int 0])), (q_1, .inl (c_2, 12, .inl (fun _ => 0))), (q_3, .inl (c_4, 12, .inl (fun _ => 0))), (q_5, .inl (c_6, 40, .inl (fun _ => 0))), (q_7, .inl (c_8, 10, .inr (.inr (.inr (.inr (fun _ => none))))))] H := hP
  have hD : va_D Ar [(h0, .inr (6, [.int 10, .int 10, .int 0, .int 0, .int 0, .int 0, .int 0, .ref q_1, .ref q_3, .int 0, .int 0, .int 0, .int (-1), .null, .ref q_5, .int 0, .null, .int 0])), (q_1, .inl (c_2, 12, .inl (fun _ => 0))), (q_3, .inl (c_4, 12, .inl (fun _ => 0))), (q_5, .inl (c_6, 40, .inl (fun _ => 0))), (q_7, .inl (c_8, 10, .inr (.inr (.inr (.inr (fun _ => none))))))] := hD
  have hK : va_K D vwCl [(c_2, .int), (c_4, .int), (c_6, .int), (c_8, .object "DownByAHair$Reading")] s := hK
  refine va_putF (D := D) (ci := 6) (v := .ref q_7) (ty := (.array (.object "DownByAHair$Reading"))) (C := RX6) (T := TX6) (N := 18) hx hb hts inA6 tyX6 tyX6_ok nmX6 hown hK hP hD hS 0 rfl rfl 16 (by decide) (hts _ we_138) (fun _ h9 => h9) rfl hin rfl (by decide +kernel) rfl rfl (Nat.le_of_ble_eq_true rfl) dX6_init_39 (fun H locs hP hD hS => ?_)
  have hP : va_P D vwCl [(h0, .inr (6, [.int 10, .int 10, .int 0, .int 0, .int 0, .int 0, .int 0, .ref q_1, .ref q_3, .int 0, .int 0, .int 0, .int (-1), .null, .ref q_5, .int 0, .ref q_7, .int 0])), (q_1, .inl (c_2, 12, .inl (fun _ => 0))), (q_3, .inl (c_4, 12, .inl (fun _ => 0))), (q_5, .inl (c_6, 40, .inl (fun _ => 0))), (q_7, .inl (c_8, 10, .inr (.inr (.inr (.inr (fun _ => none))))))] H := hP
  have hD : va_D Ar [(h0, .inr (6, [.int 10, .int 10, .int 0, .int 0, .int 0, .int 0, .int 0, .ref q_1, .ref q_3, .int 0, .int 0, .int 0, .int (-1), .null, .ref q_5, .int 0, .ref q_7, .int 0])), (q_1, .inl (c_2, 12, .inl (fun _ => 0))), (q_3, .inl (c_4, 12, .inl (fun _ => 0))), (q_5, .inl (c_6, 40, .inl (fun _ => 0))), (q_7, .inl (c_8, 10, .inr (.inr (.inr (.inr (fun _ => none))))))] := hD
  refine lv_iconst hx hb dX6_init_42 ci_0 ?_
  refine lv_istore_n (lv' := [(1, .int 0), (0, .ref h0)]) hx hb dX6_init_43 rfl hl (by decide) rfl (fun ls hl => ?_)
  refine lv_iload_n hx hb dX6_init_44 rfl (lv_at hl 0 rfl) ?_
  refine lv_aload_n hx hb dX6_init_45 rfl (lv_at hl 1 rfl) ?_
  refine va_get (D := D) (ci := 6) (v := .ref q_7) (C := RX6) (T := TX6) (N := 18) hx hb hts inA6 hown hK hP 0 rfl rfl 16 (by decide) (hts _ we_138) (fun _ h9 => h9) rfl dX6_init_46 ?_
  refine va_alen (v := 10) hx hb hK hP 4 3 rfl rfl (show Int32.ofNat 10 = 10 by decide +kernel) dX6_init_49 ?_
  refine lv_icmp_ge (tgt := 72) hx hb dX6_init_50 (by decide) (fun c_ => absurd c_ (by decide)) (fun c_ => ?_)
  refine lv_aload_n hx hb dX6_init_53 rfl (lv_at hl 1 rfl) ?_
  refine va_get (D := D) (ci := 6) (v := .ref q_7) (C := RX6) (T := TX6) (N := 18) hx hb hts inA6 hown hK hP 0 rfl rfl 16 (by decide) (hts _ we_138) (fun _ h9 => h9) rfl dX6_init_54 ?_
  refine lv_iload_n hx hb dX6_init_57 rfl (lv_at hl 0 rfl) ?_
  refine va_new (ci := 3) (fs := [.int 0, .int 0, .int 0, .int 0, .int 0, .int 0, .int 0, .int 0, .int 0, .int 0, .int 0]) (C := RX3) (T := TX3) (N := 11) hx hb hts inA3 tyX3 tyX3_ok hown (hts _ we_36) (hts _ we_38) (hts _ we_4) hK hP hD hS hA rfl df_3 (Nat.le_of_ble_eq_true rfl) (Nat.le_of_ble_eq_true rfl) dX6_init_58 (fun q_9 H hP hD hS => ?_)
  have hP : va_P D vwCl [(h0, .inr (6, [.int 10, .int 10, .int 0, .int 0, .int 0, .int 0, .int 0, .ref q_1, .ref q_3, .int 0, .int 0, .int 0, .int (-1), .null, .ref q_5, .int 0, .ref q_7, .int 0])), (q_1, .inl (c_2, 12, .inl (fun _ => 0))), (q_3, .inl (c_4, 12, .inl (fun _ => 0))), (q_5, .inl (c_6, 40, .inl (fun _ => 0))), (q_7, .inl (c_8, 10, .inr (.inr (.inr (.inr (fun _ => none)))))), (q_9, .inr (3, [.int 0, .int 0, .int 0, .int 0, .int 0, .int 0, .int 0, .int 0, .int 0, .int 0, .int 0]))] H := hP
  have hD : va_D Ar [(h0, .inr (6, [.int 10, .int 10, .int 0, .int 0, .int 0, .int 0, .int 0, .ref q_1, .ref q_3, .int 0, .int 0, .int 0, .int (-1), .null, .ref q_5, .int 0, .ref q_7, .int 0])), (q_1, .inl (c_2, 12, .inl (fun _ => 0))), (q_3, .inl (c_4, 12, .inl (fun _ => 0))), (q_5, .inl (c_6, 40, .inl (fun _ => 0))), (q_7, .inl (c_8, 10, .inr (.inr (.inr (.inr (fun _ => none)))))), (q_9, .inr (3, [.int 0, .int 0, .int 0, .int 0, .int 0, .int 0, .int 0, .int 0, .int 0, .int 0, .int 0]))] := hD
  refine lv_dup hx hb dX6_init_61 rfl ?_
  have hPc := hP.sub (ws' := [(q_9, .inr (3, [.int 0, .int 0, .int 0, .int 0, .int 0, .int 0, .int 0, .int 0, .int 0, .int 0, .int 0]))]) [5] rfl
  have hDc := hD.sub (ws' := [(q_9, .inr (3, [.int 0, .int 0, .int 0, .int 0, .int 0, .int 0, .int 0, .int 0, .int 0, .int 0, .int 0]))]) [5] (by decide) rfl
  have hKc := hK.sub (tys' := []) [] rfl
  have hFc := va_free (wc := [(q_9, .inr (3, [.int 0, .int 0, .int 0, .int 0, .int 0, .int 0, .int 0, .int 0, .int 0, .int 0, .int 0]))]) hD hS hA [5] rfl
  refine va_callv (va_runIN (As := []) (rest := [.ref q_9, .int 0, .ref q_7]) ⟨hx, hb, hml, hown, hts⟩ (cX3_init_3 l D q_9 H.size) ⟨va_cnB 0 hts (good_A we_41) rfl rfl rfl (hSD.1 (RX6, 31, yX3_init, "DownByAHair") (by decide +kernel)) (hts _ we_4) (by decide +kernel) ⟨Nat.le_of_ble_eq_true rfl, Nat.le_of_ble_eq_true rfl⟩, rfl, hts _ we_40⟩ ⟨PcC.blind, fun U hU hW => ⟨rfl, by rw [hU], by rw [hU]; exact hPc, va_K.moved hW.alike hKc, hDc.weaken (fun _ _ _ _ => trivial), hSD.warm hW⟩⟩ rfl rfl hl.1 rfl (lv_room (Nat.le_of_ble_eq_true rfl)) dX6_init_62 ⟨Nat.le_of_ble_eq_true rfl, Nat.le_of_ble_eq_true rfl⟩) hS (fun q _ h => hFc q h) hFc (fun u_ t_ H1 locs ht hvm hw hB hz1 hk1 hS => ?_)
  obtain ⟨hP1, hK1, hD1⟩ := hB
  rw [ht] at hP1
  have hK1 := va_K.moved hvm.symm hK1
  obtain ⟨hP, hD⟩ := va_join (wr := [(h0, .inr (6, [.int 10, .int 10, .int 0, .int 0, .int 0, .int 0, .int 0, .ref q_1, .ref q_3, .int 0, .int 0, .int 0, .int (-1), .null, .ref q_5, .int 0, .ref q_7, .int 0])), (q_1, .inl (c_2, 12, .inl (fun _ => 0))), (q_3, .inl (c_4, 12, .inl (fun _ => 0))), (q_5, .inl (c_6, 40, .inl (fun _ => 0))), (q_7, .inl (c_8, 10, .inr (.inr (.inr (.inr (fun _ => none))))))]) (w1 := [(q_9, .inr (3, [.int 10, .int 10, .int 0, .int 0, .int 0, .int 0, .int 0, .int 0, .int 0, .int 0, .int 0]))]) hP hD [5] [0, 1, 2, 3, 4] rfl rfl (by decide) (by decide) hk1 hFc hP1 hD1
  have hK := hK.app hK1
  generalize H1 = H at hP hS ⊢
  have hP : va_P D vwCl [(h0, .inr (6, [.int 10, .int 10, .int 0, .int 0, .int 0, .int 0, .int 0, .ref q_1, .ref q_3, .int 0, .int 0, .int 0, .int (-1), .null, .ref q_5, .int 0, .ref q_7, .int 0])), (q_1, .inl (c_2, 12, .inl (fun _ => 0))), (q_3, .inl (c_4, 12, .inl (fun _ => 0))), (q_5, .inl (c_6, 40, .inl (fun _ => 0))), (q_7, .inl (c_8, 10, .inr (.inr (.inr (.inr (fun _ => none)))))), (q_9, .inr (3, [.int 10, .int 10, .int 0, .int 0, .int 0, .int 0, .int 0, .int 0, .int 0, .int 0, .int 0]))] H := hP
  have hD : va_D Ar [(h0, .inr (6, [.int 10, .int 10, .int 0, .int 0, .int 0, .int 0, .int 0, .ref q_1, .ref q_3, .int 0, .int 0, .int 0, .int (-1), .null, .ref q_5, .int 0, .ref q_7, .int 0])), (q_1, .inl (c_2, 12, .inl (fun _ => 0))), (q_3, .inl (c_4, 12, .inl (fun _ => 0))), (q_5, .inl (c_6, 40, .inl (fun _ => 0))), (q_7, .inl (c_8, 10, .inr (.inr (.inr (.inr (fun _ => none)))))), (q_9, .inr (3, [.int 10, .int 10, .int 0, .int 0, .int 0, .int 0, .int 0, .int 0, .int 0, .int 0, .int 0]))] := hD
  have hK : va_K D vwCl [(c_2, .int), (c_4, .int), (c_6, .int), (c_8, .object "DownByAHair$Reading")] s := hK
  refine va_astq (r := (RX3, TX3, 11)) (i := 0) hx hb hK hP hD hS 4 3 5 3 rfl rfl rfl rfl (inb_in (by decide +kernel)) dX6_init_65 (fun H locs hP hD hS => ?_)
  have hP : va_P D vwCl [(h0, .inr (6, [.int 10, .int 10, .int 0, .int 0, .int 0, .int 0, .int 0, .ref q_1, .ref q_3, .int 0, .int 0, .int 0, .int (-1), .null, .ref q_5, .int 0, .ref q_7, .int 0])), (q_1, .inl (c_2, 12, .inl (fun _ => 0))), (q_3, .inl (c_4, 12, .inl (fun _ => 0))), (q_5, .inl (c_6, 40, .inl (fun _ => 0))), (q_7, .inl (c_8, 10, .inr (.inr (.inr (.inr (va_up (fun _ => none) 0 (some q_9))))))), (q_9, .inr (3, [.int 10, .int 10, .int 0, .int 0, .int 0, .int 0, .int 0, .int 0, .int 0, .int 0, .int 0]))] H := hP
  have hD : va_D Ar [(h0, .inr (6, [.int 10, .int 10, .int 0, .int 0, .int 0, .int 0, .int 0, .ref q_1, .ref q_3, .int 0, .int 0, .int 0, .int (-1), .null, .ref q_5, .int 0, .ref q_7, .int 0])), (q_1, .inl (c_2, 12, .inl (fun _ => 0))), (q_3, .inl (c_4, 12, .inl (fun _ => 0))), (q_5, .inl (c_6, 40, .inl (fun _ => 0))), (q_7, .inl (c_8, 10, .inr (.inr (.inr (.inr (va_up (fun _ => none) 0 (some q_9))))))), (q_9, .inr (3, [.int 10, .int 10, .int 0, .int 0, .int 0, .int 0, .int 0, .int 0, .int 0, .int 0, .int 0]))] := hD
  refine lv_iinc (v := 1) (k := 0) (lv' := [(1, .int 1), (0, .ref h0)]) hx hb dX6_init_66 hl rfl (by decide) (by decide) rfl (fun ls hl => ?_)
  refine lv_goto (tgt := 44) hx hb dX6_init_69 (by decide) ?_
  refine lv_iload_n hx hb dX6_init_44 rfl (lv_at hl 0 rfl) ?_
  refine lv_aload_n hx hb dX6_init_45 rfl (lv_at hl 1 rfl) ?_
  refine va_get (D := D) (ci := 6) (v := .ref q_7) (C := RX6) (T := TX6) (N := 18) hx hb hts inA6 hown hK hP 0 rfl rfl 16 (by decide) (hts _ we_138) (fun _ h9 => h9) rfl dX6_init_46 ?_
  refine va_alen (v := 10) hx hb hK hP 4 3 rfl rfl (show Int32.ofNat 10 = 10 by decide +kernel) dX6_init_49 ?_
  refine lv_icmp_ge (tgt := 72) hx hb dX6_init_50 (by decide) (fun c_ => absurd c_ (by decide)) (fun c_ => ?_)
  refine lv_aload_n hx hb dX6_init_53 rfl (lv_at hl 1 rfl) ?_
  refine va_get (D := D) (ci := 6) (v := .ref q_7) (C := RX6) (T := TX6) (N := 18) hx hb hts inA6 hown hK hP 0 rfl rfl 16 (by decide) (hts _ we_138) (fun _ h9 => h9) rfl dX6_init_54 ?_
  refine lv_iload_n hx hb dX6_init_57 rfl (lv_at hl 0 rfl) ?_
  refine va_new (ci := 3) (fs := [.int 0, .int 0, .int 0, .int 0, .int 0, .int 0, .int 0, .int 0, .int 0, .int 0, .int 0]) (C := RX3) (T := TX3) (N := 11) hx hb hts inA3 tyX3 tyX3_ok hown (hts _ we_36) (hts _ we_38) (hts _ we_4) hK hP hD hS hA rfl df_3 (Nat.le_of_ble_eq_true rfl) (Nat.le_of_ble_eq_true rfl) dX6_init_58 (fun q_10 H hP hD hS => ?_)
  have hP : va_P D vwCl [(h0, .inr (6, [.int 10, .int 10, .int 0, .int 0, .int 0, .int 0, .int 0, .ref q_1, .ref q_3, .int 0, .int 0, .int 0, .int (-1), .null, .ref q_5, .int 0, .ref q_7, .int 0])), (q_1, .inl (c_2, 12, .inl (fun _ => 0))), (q_3, .inl (c_4, 12, .inl (fun _ => 0))), (q_5, .inl (c_6, 40, .inl (fun _ => 0))), (q_7, .inl (c_8, 10, .inr (.inr (.inr (.inr (va_up (fun _ => none) 0 (some q_9))))))), (q_9, .inr (3, [.int 10, .int 10, .int 0, .int 0, .int 0, .int 0, .int 0, .int 0, .int 0, .int 0, .int 0])), (q_10, .inr (3, [.int 0, .int 0, .int 0, .int 0, .int 0, .int 0, .int 0, .int 0, .int 0, .int 0, .int 0]))] H := hP
  have hD : va_D Ar [(h0, .inr (6, [.int 10, .int 10, .int 0, .int 0, .int 0, .int 0, .int 0, .ref q_1, .ref q_3, .int 0, .int 0, .int 0, .int (-1), .null, .ref q_5, .int 0, .ref q_7, .int 0])), (q_1, .inl (c_2, 12, .inl (fun _ => 0))), (q_3, .inl (c_4, 12, .inl (fun _ => 0))), (q_5, .inl (c_6, 40, .inl (fun _ => 0))), (q_7, .inl (c_8, 10, .inr (.inr (.inr (.inr (va_up (fun _ => none) 0 (some q_9))))))), (q_9, .inr (3, [.int 10, .int 10, .int 0, .int 0, .int 0, .int 0, .int 0, .int 0, .int 0, .int 0, .int 0])), (q_10, .inr (3, [.int 0, .int 0, .int 0, .int 0, .int 0, .int 0, .int 0, .int 0, .int 0, .int 0, .int 0]))] := hD
  refine lv_dup hx hb dX6_init_61 rfl ?_
  have hPc := hP.sub (ws' := [(q_10, .inr (3, [.int 0, .int 0, .int 0, .int 0, .int 0, .int 0, .int 0, .int 0, .int 0, .int 0, .int 0]))]) [6] rfl
  have hDc := hD.sub (ws' := [(q_10, .inr (3, [.int 0, .int 0, .int 0, .int 0, .int 0, .int 0, .int 0, .int 0, .int 0, .int 0, .int 0]))]) [6] (by decide) rfl
  have hKc := hK.sub (tys' := []) [] rfl
  have hFc := va_free (wc := [(q_10, .inr (3, [.int 0, .int 0, .int 0, .int 0, .int 0, .int 0, .int 0, .int 0, .int 0, .int 0, .int 0]))]) hD hS hA [6] rfl
  refine va_callv (va_runIN (As := []) (rest := [.ref q_10, .int 1, .ref q_7]) ⟨hx, hb, hml, hown, hts⟩ (cX3_init_3 l D q_10 H.size) ⟨va_cnB 0 hts (good_A we_41) rfl rfl rfl (hSD.1 (RX6, 31, yX3_init, "DownByAHair") (by decide +kernel)) (hts _ we_4) (by decide +kernel) ⟨Nat.le_of_ble_eq_true rfl, Nat.le_of_ble_eq_true rfl⟩, rfl, hts _ we_40⟩ ⟨PcC.blind, fun U hU hW => ⟨rfl, by rw [hU], by rw [hU]; exact hPc, va_K.moved hW.alike hKc, hDc.weaken (fun _ _ _ _ => trivial), hSD.warm hW⟩⟩ rfl rfl hl.1 rfl (lv_room (Nat.le_of_ble_eq_true rfl)) dX6_init_62 ⟨Nat.le_of_ble_eq_true rfl, Nat.le_of_ble_eq_true rfl⟩) hS (fun q _ h => hFc q h) hFc (fun u_ t_ H1 locs ht hvm hw hB hz1 hk1 hS => ?_)
  obtain ⟨hP1, hK1, hD1⟩ := hB
  rw [ht] at hP1
  have hK1 := va_K.moved hvm.symm hK1
  obtain ⟨hP, hD⟩ := va_join (wr := [(h0, .inr (6, [.int 10, .int 10, .int 0, .int 0, .int 0, .int 0, .int 0, .ref q_1, .ref q_3, .int 0, .int 0, .int 0, .int (-1), .null, .ref q_5, .int 0, .ref q_7, .int 0])), (q_1, .inl (c_2, 12, .inl (fun _ => 0))), (q_3, .inl (c_4, 12, .inl (fun _ => 0))), (q_5, .inl (c_6, 40, .inl (fun _ => 0))), (q_7, .inl (c_8, 10, .inr (.inr (.inr (.inr (va_up (fun _ => none) 0 (some q_9))))))), (q_9, .inr (3, [.int 10, .int 10, .int 0, .int 0, .int 0, .int 0, .int 0, .int 0, .int 0, .int 0, .int 0]))]) (w1 := [(q_10, .inr (3, [.int 10, .int 10, .int 0, .int 0, .int 0, .int 0, .int 0, .int 0, .int 0, .int 0, .int 0]))]) hP hD [6] [0, 1, 2, 3, 4, 5] rfl rfl (by decide) (by decide) hk1 hFc hP1 hD1
  have hK := hK.app hK1
  generalize H1 = H at hP hS ⊢
  have hP : va_P D vwCl [(h0, .inr (6, [.int 10, .int 10, .int 0, .int 0, .int 0, .int 0, .int 0, .ref q_1, .ref q_3, .int 0, .int 0, .int 0, .int (-1), .null, .ref q_5, .int 0, .ref q_7, .int 0])), (q_1, .inl (c_2, 12, .inl (fun _ => 0))), (q_3, .inl (c_4, 12, .inl (fun _ => 0))), (q_5, .inl (c_6, 40, .inl (fun _ => 0))), (q_7, .inl (c_8, 10, .inr (.inr (.inr (.inr (va_up (fun _ => none) 0 (some q_9))))))), (q_9, .inr (3, [.int 10, .int 10, .int 0, .int 0, .int 0, .int 0, .int 0, .int 0, .int 0, .int 0, .int 0])), (q_10, .inr (3, [.int 10, .int 10, .int 0, .int 0, .int 0, .int 0, .int 0, .int 0, .int 0, .int 0, .int 0]))] H := hP
  have hD : va_D Ar [(h0, .inr (6, [.int 10, .int 10, .int 0, .int 0, .int 0, .int 0, .int 0, .ref q_1, .ref q_3, .int 0, .int 0, .int 0, .int (-1), .null, .ref q_5, .int 0, .ref q_7, .int 0])), (q_1, .inl (c_2, 12, .inl (fun _ => 0))), (q_3, .inl (c_4, 12, .inl (fun _ => 0))), (q_5, .inl (c_6, 40, .inl (fun _ => 0))), (q_7, .inl (c_8, 10, .inr (.inr (.inr (.inr (va_up (fun _ => none) 0 (some q_9))))))), (q_9, .inr (3, [.int 10, .int 10, .int 0, .int 0, .int 0, .int 0, .int 0, .int 0, .int 0, .int 0, .int 0])), (q_10, .inr (3, [.int 10, .int 10, .int 0, .int 0, .int 0, .int 0, .int 0, .int 0, .int 0, .int 0, .int 0]))] := hD
  have hK : va_K D vwCl [(c_2, .int), (c_4, .int), (c_6, .int), (c_8, .object "DownByAHair$Reading")] s := hK
  refine va_astq (r := (RX3, TX3, 11)) (i := 1) hx hb hK hP hD hS 4 3 6 3 rfl rfl rfl rfl (inb_in (by decide +kernel)) dX6_init_65 (fun H locs hP hD hS => ?_)
  have hP : va_P D vwCl [(h0, .inr (6, [.int 10, .int 10, .int 0, .int 0, .int 0, .int 0, .int 0, .ref q_1, .ref q_3, .int 0, .int 0, .int 0, .int (-1), .null, .ref q_5, .int 0, .ref q_7, .int 0])), (q_1, .inl (c_2, 12, .inl (fun _ => 0))), (q_3, .inl (c_4, 12, .inl (fun _ => 0))), (q_5, .inl (c_6, 40, .inl (fun _ => 0))), (q_7, .inl (c_8, 10, .inr (.inr (.inr (.inr (va_up (va_up (fun _ => none) 0 (some q_9)) 1 (some q_10))))))), (q_9, .inr (3, [.int 10, .int 10, .int 0, .int 0, .int 0, .int 0, .int 0, .int 0, .int 0, .int 0, .int 0])), (q_10, .inr (3, [.int 10, .int 10, .int 0, .int 0, .int 0, .int 0, .int 0, .int 0, .int 0, .int 0, .int 0]))] H := hP
  have hD : va_D Ar [(h0, .inr (6, [.int 10, .int 10, .int 0, .int 0, .int 0, .int 0, .int 0, .ref q_1, .ref q_3, .int 0, .int 0, .int 0, .int (-1), .null, .ref q_5, .int 0, .ref q_7, .int 0])), (q_1, .inl (c_2, 12, .inl (fun _ => 0))), (q_3, .inl (c_4, 12, .inl (fun _ => 0))), (q_5, .inl (c_6, 40, .inl (fun _ => 0))), (q_7, .inl (c_8, 10, .inr (.inr (.inr (.inr (va_up (va_up (fun _ => none) 0 (some q_9)) 1 (some q_10))))))), (q_9, .inr (3, [.int 10, .int 10, .int 0, .int 0, .int 0, .int 0, .int 0, .int 0, .int 0, .int 0, .int 0])), (q_10, .inr (3, [.int 10, .int 10, .int 0, .int 0, .int 0, .int 0, .int 0, .int 0, .int 0, .int 0, .int 0]))] := hD
  refine lv_iinc (v := 2) (k := 0) (lv' := [(1, .int 2), (0, .ref h0)]) hx hb dX6_init_66 hl rfl (by decide) (by decide) rfl (fun ls hl => ?_)
  refine lv_goto (tgt := 44) hx hb dX6_init_69 (by decide) ?_
  refine lv_iload_n hx hb dX6_init_44 rfl (lv_at hl 0 rfl) ?_
  refine lv_aload_n hx hb dX6_init_45 rfl (lv_at hl 1 rfl) ?_
  refine va_get (D := D) (ci := 6) (v := .ref q_7) (C := RX6) (T := TX6) (N := 18) hx hb hts inA6 hown hK hP 0 rfl rfl 16 (by decide) (hts _ we_138) (fun _ h9 => h9) rfl dX6_init_46 ?_
  refine va_alen (v := 10) hx hb hK hP 4 3 rfl rfl (show Int32.ofNat 10 = 10 by decide +kernel) dX6_init_49 ?_
  refine lv_icmp_ge (tgt := 72) hx hb dX6_init_50 (by decide) (fun c_ => absurd c_ (by decide)) (fun c_ => ?_)
  refine lv_aload_n hx hb dX6_init_53 rfl (lv_at hl 1 rfl) ?_
  refine va_get (D := D) (ci := 6) (v := .ref q_7) (C := RX6) (T := TX6) (N := 18) hx hb hts inA6 hown hK hP 0 rfl rfl 16 (by decide) (hts _ we_138) (fun _ h9 => h9) rfl dX6_init_54 ?_
  refine lv_iload_n hx hb dX6_init_57 rfl (lv_at hl 0 rfl) ?_
  refine va_new (ci := 3) (fs := [.int 0, .int 0, .int 0, .int 0, .int 0, .int 0, .int 0, .int 0, .int 0, .int 0, .int 0]) (C := RX3) (T := TX3) (N := 11) hx hb hts inA3 tyX3 tyX3_ok hown (hts _ we_36) (hts _ we_38) (hts _ we_4) hK hP hD hS hA rfl df_3 (Nat.le_of_ble_eq_true rfl) (Nat.le_of_ble_eq_true rfl) dX6_init_58 (fun q_11 H hP hD hS => ?_)
  have hP : va_P D vwCl [(h0, .inr (6, [.int 10, .int 10, .int 0, .int 0, .int 0, .int 0, .int 0, .ref q_1, .ref q_3, .int 0, .int 0, .int 0, .int (-1), .null, .ref q_5, .int 0, .ref q_7, .int 0])), (q_1, .inl (c_2, 12, .inl (fun _ => 0))), (q_3, .inl (c_4, 12, .inl (fun _ => 0))), (q_5, .inl (c_6, 40, .inl (fun _ => 0))), (q_7, .inl (c_8, 10, .inr (.inr (.inr (.inr (va_up (va_up (fun _ => none) 0 (some q_9)) 1 (some q_10))))))), (q_9, .inr (3, [.int 10, .int 10, .int 0, .int 0, .int 0, .int 0, .int 0, .int 0, .int 0, .int 0, .int 0])), (q_10, .inr (3, [.int 10, .int 10, .int 0, .int 0, .int 0, .int 0, .int 0, .int 0, .int 0, .int 0, .int 0])), (q_11, .inr (3, [.int 0, .int 0, .int 0, .int 0, .int 0, .int 0, .int 0, .int 0, .int 0, .int 0, .int 0]))] H := hP
  have hD : va_D Ar [(h0, .inr (6, [.int 10, .int 10, .int 0, .int 0, .int 0, .int 0, .int 0, .ref q_1, .ref q_3, .int 0, .int 0, .int 0, .int (-1), .null, .ref q_5, .int 0, .ref q_7, .int 0])), (q_1, .inl (c_2, 12, .inl (fun _ => 0))), (q_3, .inl (c_4, 12, .inl (fun _ => 0))), (q_5, .inl (c_6, 40, .inl (fun _ => 0))), (q_7, .inl (c_8, 10, .inr (.inr (.inr (.inr (va_up (va_up (fun _ => none) 0 (some q_9)) 1 (some q_10))))))), (q_9, .inr (3, [.int 10, .int 10, .int 0, .int 0, .int 0, .int 0, .int 0, .int 0, .int 0, .int 0, .int 0])), (q_10, .inr (3, [.int 10, .int 10, .int 0, .int 0, .int 0, .int 0, .int 0, .int 0, .int 0, .int 0, .int 0])), (q_11, .inr (3, [.int 0, .int 0, .int 0, .int 0, .int 0, .int 0, .int 0, .int 0, .int 0, .int 0, .int 0]))] := hD
  refine lv_dup hx hb dX6_init_61 rfl ?_
  have hPc := hP.sub (ws' := [(q_11, .inr (3, [.int 0, .int 0, .int 0, .int 0, .int 0, .int 0, .int 0, .int 0, .int 0, .int 0, .int 0]))]) [7] rfl
  have hDc := hD.sub (ws' := [(q_11, .inr (3, [.int 0, .int 0, .int 0, .int 0, .int 0, .int 0, .int 0, .int 0, .int 0, .int 0, .int 0]))]) [7] (by decide) rfl
  have hKc := hK.sub (tys' := []) [] rfl
  have hFc := va_free (wc := [(q_11, .inr (3, [.int 0, .int 0, .int 0, .int 0, .int 0, .int 0, .int 0, .int 0, .int 0, .int 0, .int 0]))]) hD hS hA [7] rfl
  refine va_callv (va_runIN (As := []) (rest := [.ref q_11, .int 2, .ref q_7]) ⟨hx, hb, hml, hown, hts⟩ (cX3_init_3 l D q_11 H.size) ⟨va_cnB 0 hts (good_A we_41) rfl rfl rfl (hSD.1 (RX6, 31, yX3_init, "DownByAHair") (by decide +kernel)) (hts _ we_4) (by decide +kernel) ⟨Nat.le_of_ble_eq_true rfl, Nat.le_of_ble_eq_true rfl⟩, rfl, hts _ we_40⟩ ⟨PcC.blind, fun U hU hW => ⟨rfl, by rw [hU], by rw [hU]; exact hPc, va_K.moved hW.alike hKc, hDc.weaken (fun _ _ _ _ => trivial), hSD.warm hW⟩⟩ rfl rfl hl.1 rfl (lv_room (Nat.le_of_ble_eq_true rfl)) dX6_init_62 ⟨Nat.le_of_ble_eq_true rfl, Nat.le_of_ble_eq_true rfl⟩) hS (fun q _ h => hFc q h) hFc (fun u_ t_ H1 locs ht hvm hw hB hz1 hk1 hS => ?_)
  obtain ⟨hP1, hK1, hD1⟩ := hB
  rw [ht] at hP1
  have hK1 := va_K.moved hvm.symm hK1
  obtain ⟨hP, hD⟩ := va_join (wr := [(h0, .inr (6, [.int 10, .int 10, .int 0, .int 0, .int 0, .int 0, .int 0, .ref q_1, .ref q_3, .int 0, .int 0, .int 0, .int (-1), .null, .ref q_5, .int 0, .ref q_7, .int 0])), (q_1, .inl (c_2, 12, .inl (fun _ => 0))), (q_3, .inl (c_4, 12, .inl (fun _ => 0))), (q_5, .inl (c_6, 40, .inl (fun _ => 0))), (q_7, .inl (c_8, 10, .inr (.inr (.inr (.inr (va_up (va_up (fun _ => none) 0 (some q_9)) 1 (some q_10))))))), (q_9, .inr (3, [.int 10, .int 10, .int 0, .int 0, .int 0, .int 0, .int 0, .int 0, .int 0, .int 0, .int 0])), (q_10, .inr (3, [.int 10, .int 10, .int 0, .int 0, .int 0, .int 0, .int 0, .int 0, .int 0, .int 0, .int 0]))]) (w1 := [(q_11, .inr (3, [.int 10, .int 10, .int 0, .int 0, .int 0, .int 0, .int 0, .int 0, .int 0, .int 0, .int 0]))]) hP hD [7] [0, 1, 2, 3, 4, 5, 6] rfl rfl (by decide) (by decide) hk1 hFc hP1 hD1
  have hK := hK.app hK1
  generalize H1 = H at hP hS ⊢
  have hP : va_P D vwCl [(h0, .inr (6, [.int 10, .int 10, .int 0, .int 0, .int 0, .int 0, .int 0, .ref q_1, .ref q_3, .int 0, .int 0, .int 0, .int (-1), .null, .ref q_5, .int 0, .ref q_7, .int 0])), (q_1, .inl (c_2, 12, .inl (fun _ => 0))), (q_3, .inl (c_4, 12, .inl (fun _ => 0))), (q_5, .inl (c_6, 40, .inl (fun _ => 0))), (q_7, .inl (c_8, 10, .inr (.inr (.inr (.inr (va_up (va_up (fun _ => none) 0 (some q_9)) 1 (some q_10))))))), (q_9, .inr (3, [.int 10, .int 10, .int 0, .int 0, .int 0, .int 0, .int 0, .int 0, .int 0, .int 0, .int 0])), (q_10, .inr (3, [.int 10, .int 10, .int 0, .int 0, .int 0, .int 0, .int 0, .int 0, .int 0, .int 0, .int 0])), (q_11, .inr (3, [.int 10, .int 10, .int 0, .int 0, .int 0, .int 0, .int 0, .int 0, .int 0, .int 0, .int 0]))] H := hP
  have hD : va_D Ar [(h0, .inr (6, [.int 10, .int 10, .int 0, .int 0, .int 0, .int 0, .int 0, .ref q_1, .ref q_3, .int 0, .int 0, .int 0, .int (-1), .null, .ref q_5, .int 0, .ref q_7, .int 0])), (q_1, .inl (c_2, 12, .inl (fun _ => 0))), (q_3, .inl (c_4, 12, .inl (fun _ => 0))), (q_5, .inl (c_6, 40, .inl (fun _ => 0))), (q_7, .inl (c_8, 10, .inr (.inr (.inr (.inr (va_up (va_up (fun _ => none) 0 (some q_9)) 1 (some q_10))))))), (q_9, .inr (3, [.int 10, .int 10, .int 0, .int 0, .int 0, .int 0, .int 0, .int 0, .int 0, .int 0, .int 0])), (q_10, .inr (3, [.int 10, .int 10, .int 0, .int 0, .int 0, .int 0, .int 0, .int 0, .int 0, .int 0, .int 0])), (q_11, .inr (3, [.int 10, .int 10, .int 0, .int 0, .int 0, .int 0, .int 0, .int 0, .int 0, .int 0, .int 0]))] := hD
  have hK : va_K D vwCl [(c_2, .int), (c_4, .int), (c_6, .int), (c_8, .object "DownByAHair$Reading")] s := hK
  refine va_astq (r := (RX3, TX3, 11)) (i := 2) hx hb hK hP hD hS 4 3 7 3 rfl rfl rfl rfl (inb_in (by decide +kernel)) dX6_init_65 (fun H locs hP hD hS => ?_)
  have hP : va_P D vwCl [(h0, .inr (6, [.int 10, .int 10, .int 0, .int 0, .int 0, .int 0, .int 0, .ref q_1, .ref q_3, .int 0, .int 0, .int 0, .int (-1), .null, .ref q_5, .int 0, .ref q_7, .int 0])), (q_1, .inl (c_2, 12, .inl (fun _ => 0))), (q_3, .inl (c_4, 12, .inl (fun _ => 0))), (q_5, .inl (c_6, 40, .inl (fun _ => 0))), (q_7, .inl (c_8, 10, .inr (.inr (.inr (.inr (va_up (va_up (va_up (fun _ => none) 0 (some q_9)) 1 (some q_10)) 2 (some q_11))))))), (q_9, .inr (3, [.int 10, .int 10, .int 0, .int 0, .int 0, .int 0, .int 0, .int 0, .int 0, .int 0, .int 0])), (q_10, .inr (3, [.int 10, .int 10, .int 0, .int 0, .int 0, .int 0, .int 0, .int 0, .int 0, .int 0, .int 0])), (q_11, .inr (3, [.int 10, .int 10, .int 0, .int 0, .int 0, .int 0, .int 0, .int 0, .int 0, .int 0, .int 0]))] H := hP
  have hD : va_D Ar [(h0, .inr (6, [.int 10, .int 10, .int 0, .int 0, .int 0, .int 0, .int 0, .ref q_1, .ref q_3, .int 0, .int 0, .int 0, .int (-1), .null, .ref q_5, .int 0, .ref q_7, .int 0])), (q_1, .inl (c_2, 12, .inl (fun _ => 0))), (q_3, .inl (c_4, 12, .inl (fun _ => 0))), (q_5, .inl (c_6, 40, .inl (fun _ => 0))), (q_7, .inl (c_8, 10, .inr (.inr (.inr (.inr (va_up (va_up (va_up (fun _ => none) 0 (some q_9)) 1 (some q_10)) 2 (some q_11))))))), (q_9, .inr (3, [.int 10, .int 10, .int 0, .int 0, .int 0, .int 0, .int 0, .int 0, .int 0, .int 0, .int 0])), (q_10, .inr (3, [.int 10, .int 10, .int 0, .int 0, .int 0, .int 0, .int 0, .int 0, .int 0, .int 0, .int 0])), (q_11, .inr (3, [.int 10, .int 10, .int 0, .int 0, .int 0, .int 0, .int 0, .int 0, .int 0, .int 0, .int 0]))] := hD
  refine lv_iinc (v := 3) (k := 0) (lv' := [(1, .int 3), (0, .ref h0)]) hx hb dX6_init_66 hl rfl (by decide) (by decide) rfl (fun ls hl => ?_)
  refine lv_goto (tgt := 44) hx hb dX6_init_69 (by decide) ?_
  refine lv_iload_n hx hb dX6_init_44 rfl (lv_at hl 0 rfl) ?_
  refine lv_aload_n hx hb dX6_init_45 rfl (lv_at hl 1 rfl) ?_
  refine va_get (D := D) (ci := 6) (v := .ref q_7) (C := RX6) (T := TX6) (N := 18) hx hb hts inA6 hown hK hP 0 rfl rfl 16 (by decide) (hts _ we_138) (fun _ h9 => h9) rfl dX6_init_46 ?_
  refine va_alen (v := 10) hx hb hK hP 4 3 rfl rfl (show Int32.ofNat 10 = 10 by decide +kernel) dX6_init_49 ?_
  refine lv_icmp_ge (tgt := 72) hx hb dX6_init_50 (by decide) (fun c_ => absurd c_ (by decide)) (fun c_ => ?_)
  refine lv_aload_n hx hb dX6_init_53 rfl (lv_at hl 1 rfl) ?_
  refine va_get (D := D) (ci := 6) (v := .ref q_7) (C := RX6) (T := TX6) (N := 18) hx hb hts inA6 hown hK hP 0 rfl rfl 16 (by decide) (hts _ we_138) (fun _ h9 => h9) rfl dX6_init_54 ?_
  refine lv_iload_n hx hb dX6_init_57 rfl (lv_at hl 0 rfl) ?_
  refine va_new (ci := 3) (fs := [.int 0, .int 0, .int 0, .int 0, .int 0, .int 0, .int 0, .int 0, .int 0, .int 0, .int 0]) (C := RX3) (T := TX3) (N := 11) hx hb hts inA3 tyX3 tyX3_ok hown (hts _ we_36) (hts _ we_38) (hts _ we_4) hK hP hD hS hA rfl df_3 (Nat.le_of_ble_eq_true rfl) (Nat.le_of_ble_eq_true rfl) dX6_init_58 (fun q_12 H hP hD hS => ?_)
  have hP : va_P D vwCl [(h0, .inr (6, [.int 10, .int 10, .int 0, .int 0, .int 0, .int 0, .int 0, .ref q_1, .ref q_3, .int 0, .int 0, .int 0, .int (-1), .null, .ref q_5, .int 0, .ref q_7, .int 0])), (q_1, .inl (c_2, 12, .inl (fun _ => 0))), (q_3, .inl (c_4, 12, .inl (fun _ => 0))), (q_5, .inl (c_6, 40, .inl (fun _ => 0))), (q_7, .inl (c_8, 10, .inr (.inr (.inr (.inr (va_up (va_up (va_up (fun _ => none) 0 (some q_9)) 1 (some q_10)) 2 (some q_11))))))), (q_9, .inr (3, [.int 10, .int 10, .int 0, .int 0, .int 0, .int 0, .int 0, .int 0, .int 0, .int 0, .int 0])), (q_10, .inr (3, [.int 10, .int 10, .int 0, .int 0, .int 0, .int 0, .int 0, .int 0, .int 0, .int 0, .int 0])), (q_11, .inr (3, [.int 10, .int 10, .int 0, .int 0, .int 0, .int 0, .int 0, .int 0, .int 0, .int 0, .int 0])), (q_12, .inr (3, [.int 0, .int 0, .int 0, .int 0, .int 0, .int 0, .int 0, .int 0, .int 0, .int 0, .int 0]))] H := hP
  have hD : va_D Ar [(h0, .inr (6, [.int 10, .int 10, .int 0, .int 0, .int 0, .int 0, .int 0, .ref q_1, .ref q_3, .int 0, .int 0, .int 0, .int (-1), .null, .ref q_5, .int 0, .ref q_7, .int 0])), (q_1, .inl (c_2, 12, .inl (fun _ => 0))), (q_3, .inl (c_4, 12, .inl (fun _ => 0))), (q_5, .inl (c_6, 40, .inl (fun _ => 0))), (q_7, .inl (c_8, 10, .inr (.inr (.inr (.inr (va_up (va_up (va_up (fun _ => none) 0 (some q_9)) 1 (some q_10)) 2 (some q_11))))))), (q_9, .inr (3, [.int 10, .int 10, .int 0, .int 0, .int 0, .int 0, .int 0, .int 0, .int 0, .int 0, .int 0])), (q_10, .inr (3, [.int 10, .int 10, .int 0, .int 0, .int 0, .int 0, .int 0, .int 0, .int 0, .int 0, .int 0])), (q_11, .inr (3, [.int 10, .int 10, .int 0, .int 0, .int 0, .int 0, .int 0, .int 0, .int 0, .int 0, .int 0])), (q_12, .inr (3, [.int 0, .int 0, .int 0, .int 0, .int 0, .int 0, .int 0, .int 0, .int 0, .int 0, .int 0]))] := hD
  refine lv_dup hx hb dX6_init_61 rfl ?_
  have hPc := hP.sub (ws' := [(q_12, .inr (3, [.int 0, .int 0, .int 0, .int 0, .int 0, .int 0, .int 0, .int 0, .int 0, .int 0, .int 0]))]) [8] rfl
  have hDc := hD.sub (ws' := [(q_12, .inr (3, [.int 0, .int 0, .int 0, .int 0, .int 0, .int 0, .int 0, .int 0, .int 0, .int 0, .int 0]))]) [8] (by decide) rfl
  have hKc := hK.sub (tys' := []) [] rfl
  have hFc := va_free (wc := [(q_12, .inr (3, [.int 0, .int 0, .int 0, .int 0, .int 0, .int 0, .int 0, .int 0, .int 0, .int 0, .int 0]))]) hD hS hA [8] rfl
  refine va_callv (va_runIN (As := []) (rest := [.ref q_12, .int 3, .ref q_7]) ⟨hx, hb, hml, hown, hts⟩ (cX3_init_3 l D q_12 H.size) ⟨va_cnB 0 hts (good_A we_41) rfl rfl rfl (hSD.1 (RX6, 31, yX3_init, "DownByAHair") (by decide +kernel)) (hts _ we_4) (by decide +kernel) ⟨Nat.le_of_ble_eq_true rfl, Nat.le_of_ble_eq_true rfl⟩, rfl, hts _ we_40⟩ ⟨PcC.blind, fun U hU hW => ⟨rfl, by rw [hU], by rw [hU]; exact hPc, va_K.moved hW.alike hKc, hDc.weaken (fun _ _ _ _ => trivial), hSD.warm hW⟩⟩ rfl rfl hl.1 rfl (lv_room (Nat.le_of_ble_eq_true rfl)) dX6_init_62 ⟨Nat.le_of_ble_eq_true rfl, Nat.le_of_ble_eq_true rfl⟩) hS (fun q _ h => hFc q h) hFc (fun u_ t_ H1 locs ht hvm hw hB hz1 hk1 hS => ?_)
  obtain ⟨hP1, hK1, hD1⟩ := hB
  rw [ht] at hP1
  have hK1 := va_K.moved hvm.symm hK1
  obtain ⟨hP, hD⟩ := va_join (wr := [(h0, .inr (6, [.int 10, .int 10, .int 0, .int 0, .int 0, .int 0, .int 0, .ref q_1, .ref q_3, .int 0, .int 0, .int 0, .int (-1), .null, .ref q_5, .int 0, .ref q_7, .int 0])), (q_1, .inl (c_2, 12, .inl (fun _ => 0))), (q_3, .inl (c_4, 12, .inl (fun _ => 0))), (q_5, .inl (c_6, 40, .inl (fun _ => 0))), (q_7, .inl (c_8, 10, .inr (.inr (.inr (.inr (va_up (va_up (va_up (fun _ => none) 0 (some q_9)) 1 (some q_10)) 2 (some q_11))))))), (q_9, .inr (3, [.int 10, .int 10, .int 0, .int 0, .int 0, .int 0, .int 0, .int 0, .int 0, .int 0, .int 0])), (q_10, .inr (3, [.int 10, .int 10, .int 0, .int 0, .int 0, .int 0, .int 0, .int 0, .int 0, .int 0, .int 0])), (q_11, .inr (3, [.int 10, .int 10, .int 0, .int 0, .int 0, .int 0, .int 0, .int 0, .int 0, .int 0, .int 0]))]) (w1 := [(q_12, .inr (3, [.int 10, .int 10, .int 0, .int 0, .int 0, .int 0, .int 0, .int 0, .int 0, .int 0, .int 0]))]) hP hD [8] [0, 1, 2, 3, 4, 5, 6, 7] rfl rfl (by decide) (by decide) hk1 hFc hP1 hD1
  have hK := hK.app hK1
  generalize H1 = H at hP hS ⊢
  have hP : va_P D vwCl [(h0, .inr (6, [.int 10, .int 10, .int 0, .int 0, .int 0, .int 0, .int 0, .ref q_1, .ref q_3, .int 0, .int 0, .int 0, .int (-1), .null, .ref q_5, .int 0, .ref q_7, .int 0])), (q_1, .inl (c_2, 12, .inl (fun _ => 0))), (q_3, .inl (c_4, 12, .inl (fun _ => 0))), (q_5, .inl (c_6, 40, .inl (fun _ => 0))), (q_7, .inl (c_8, 10, .inr (.inr (.inr (.inr (va_up (va_up (va_up (fun _ => none) 0 (some q_9)) 1 (some q_10)) 2 (some q_11))))))), (q_9, .inr (3, [.int 10, .int 10, .int 0, .int 0, .int 0, .int 0, .int 0, .int 0, .int 0, .int 0, .int 0])), (q_10, .inr (3, [.int 10, .int 10, .int 0, .int 0, .int 0, .int 0, .int 0, .int 0, .int 0, .int 0, .int 0])), (q_11, .inr (3, [.int 10, .int 10, .int 0, .int 0, .int 0, .int 0, .int 0, .int 0, .int 0, .int 0, .int 0])), (q_12, .inr (3, [.int 10, .int 10, .int 0, .int 0, .int 0, .int 0, .int 0, .int 0, .int 0, .int 0, .int 0]))] H := hP
  have hD : va_D Ar [(h0, .inr (6, [.int 10, .int 10, .int 0, .int 0, .int 0, .int 0, .int 0, .ref q_1, .ref q_3, .int 0, .int 0, .int 0, .int (-1), .null, .ref q_5, .int 0, .ref q_7, .int 0])), (q_1, .inl (c_2, 12, .inl (fun _ => 0))), (q_3, .inl (c_4, 12, .inl (fun _ => 0))), (q_5, .inl (c_6, 40, .inl (fun _ => 0))), (q_7, .inl (c_8, 10, .inr (.inr (.inr (.inr (va_up (va_up (va_up (fun _ => none) 0 (some q_9)) 1 (some q_10)) 2 (some q_11))))))), (q_9, .inr (3, [.int 10, .int 10, .int 0, .int 0, .int 0, .int 0, .int 0, .int 0, .int 0, .int 0, .int 0])), (q_10, .inr (3, [.int 10, .int 10, .int 0, .int 0, .int 0, .int 0, .int 0, .int 0, .int 0, .int 0, .int 0])), (q_11, .inr (3, [.int 10, .int 10, .int 0, .int 0, .int 0, .int 0, .int 0, .int 0, .int 0, .int 0, .int 0])), (q_12, .inr (3, [.int 10, .int 10, .int 0, .int 0, .int 0, .int 0, .int 0, .int 0, .int 0, .int 0, .int 0]))] := hD
  have hK : va_K D vwCl [(c_2, .int), (c_4, .int), (c_6, .int), (c_8, .object "DownByAHair$Reading")] s := hK
  refine va_astq (r := (RX3, TX3, 11)) (i := 3) hx hb hK hP hD hS 4 3 8 3 rfl rfl rfl rfl (inb_in (by decide +kernel)) dX6_init_65 (fun H locs hP hD hS => ?_)
  have hP : va_P D vwCl [(h0, .inr (6, [.int 10, .int 10, .int 0, .int 0, .int 0, .int 0, .int 0, .ref q_1, .ref q_3, .int 0, .int 0, .int 0, .int (-1), .null, .ref q_5, .int 0, .ref q_7, .int 0])), (q_1, .inl (c_2, 12, .inl (fun _ => 0))), (q_3, .inl (c_4, 12, .inl (fun _ => 0))), (q_5, .inl (c_6, 40, .inl (fun _ => 0))), (q_7, .inl (c_8, 10, .inr (.inr (.inr (.inr (va_up (va_up (va_up (va_up (fun _ => none) 0 (some q_9)) 1 (some q_10)) 2 (some q_11)) 3 (some q_12))))))), (q_9, .inr (3, [.int 10, .int 10, .int 0, .int 0, .int 0, .int 0, .int 0, .int 0, .int 0, .int 0, .int 0])), (q_10, .inr (3, [.int 10, .int 10, .int 0, .int 0, .int 0, .int 0, .int 0, .int 0, .int 0, .int 0, .int 0])), (q_11, .inr (3, [.int 10, .int 10, .int 0, .int 0, .int 0, .int 0, .int 0, .int 0, .int 0, .int 0, .int 0])), (q_12, .inr (3, [.int 10, .int 10, .int 0, .int 0, .int 0, .int 0, .int 0, .int 0, .int 0, .int 0, .int 0]))] H := hP
  have hD : va_D Ar [(h0, .inr (6, [.int 10, .int 10, .int 0, .int 0, .int 0, .int 0, .int 0, .ref q_1, .ref q_3, .int 0, .int 0, .int 0, .int (-1), .null, .ref q_5, .int 0, .ref q_7, .int 0])), (q_1, .inl (c_2, 12, .inl (fun _ => 0))), (q_3, .inl (c_4, 12, .inl (fun _ => 0))), (q_5, .inl (c_6, 40, .inl (fun _ => 0))), (q_7, .inl (c_8, 10, .inr (.inr (.inr (.inr (va_up (va_up (va_up (va_up (fun _ => none) 0 (some q_9)) 1 (some q_10)) 2 (some q_11)) 3 (some q_12))))))), (q_9, .inr (3, [.int 10, .int 10, .int 0, .int 0, .int 0, .int 0, .int 0, .int 0, .int 0, .int 0, .int 0])), (q_10, .inr (3, [.int 10, .int 10, .int 0, .int 0, .int 0, .int 0, .int 0, .int 0, .int 0, .int 0, .int 0])), (q_11, .inr (3, [.int 10, .int 10, .int 0, .int 0, .int 0, .int 0, .int 0, .int 0, .int 0, .int 0, .int 0])), (q_12, .inr (3, [.int 10, .int 10, .int 0, .int 0, .int 0, .int 0, .int 0, .int 0, .int 0, .int 0, .int 0]))] := hD
  refine lv_iinc (v := 4) (k := 0) (lv' := [(1, .int 4), (0, .ref h0)]) hx hb dX6_init_66 hl rfl (by decide) (by decide) rfl (fun ls hl => ?_)
  refine lv_goto (tgt := 44) hx hb dX6_init_69 (by decide) ?_
  refine lv_iload_n hx hb dX6_init_44 rfl (lv_at hl 0 rfl) ?_
  refine lv_aload_n hx hb dX6_init_45 rfl (lv_at hl 1 rfl) ?_
  refine va_get (D := D) (ci := 6) (v := .ref q_7) (C := RX6) (T := TX6) (N := 18) hx hb hts inA6 hown hK hP 0 rfl rfl 16 (by decide) (hts _ we_138) (fun _ h9 => h9) rfl dX6_init_46 ?_
  refine va_alen (v := 10) hx hb hK hP 4 3 rfl rfl (show Int32.ofNat 10 = 10 by decide +kernel) dX6_init_49 ?_
  refine lv_icmp_ge (tgt := 72) hx hb dX6_init_50 (by decide) (fun c_ => absurd c_ (by decide)) (fun c_ => ?_)
  refine lv_aload_n hx hb dX6_init_53 rfl (lv_at hl 1 rfl) ?_
  refine va_get (D := D) (ci := 6) (v := .ref q_7) (C := RX6) (T := TX6) (N := 18) hx hb hts inA6 hown hK hP 0 rfl rfl 16 (by decide) (hts _ we_138) (fun _ h9 => h9) rfl dX6_init_54 ?_
  refine lv_iload_n hx hb dX6_init_57 rfl (lv_at hl 0 rfl) ?_
  refine va_new (ci := 3) (fs := [.int 0, .int 0, .int 0, .int 0, .int 0, .int 0, .int 0, .int 0, .int 0, .int 0, .int 0]) (C := RX3) (T := TX3) (N := 11) hx hb hts inA3 tyX3 tyX3_ok hown (hts _ we_36) (hts _ we_38) (hts _ we_4) hK hP hD hS hA rfl df_3 (Nat.le_of_ble_eq_true rfl) (Nat.le_of_ble_eq_true rfl) dX6_init_58 (fun q_13 H hP hD hS => ?_)
  have hP : va_P D vwCl [(h0, .inr (6, [.int 10, .int 10, .int 0, .int 0, .int 0, .int 0, .int 0, .ref q_1, .ref q_3, .int 0, .int 0, .int 0, .int (-1), .null, .ref q_5, .int 0, .ref q_7, .int 0])), (q_1, .inl (c_2, 12, .inl (fun _ => 0))), (q_3, .inl (c_4, 12, .inl (fun _ => 0))), (q_5, .inl (c_6, 40, .inl (fun _ => 0))), (q_7, .inl (c_8, 10, .inr (.inr (.inr (.inr (va_up (va_up (va_up (va_up (fun _ => none) 0 (some q_9)) 1 (some q_10)) 2 (some q_11)) 3 (some q_12))))))), (q_9, .inr (3, [.int 10, .int 10, .int 0, .int 0, .int 0, .int 0, .int 0, .int 0, .int 0, .int 0, .int 0])), (q_10, .inr (3, [.int 10, .int 10, .int 0, .int 0, .int 0, .int 0, .int 0, .int 0, .int 0, .int 0, .int 0])), (q_11, .inr (3, [.int 10, .int 10, .int 0, .int 0, .int 0, .int 0, .int 0, .int 0, .int 0, .int 0, .int 0])), (q_12, .inr (3, [.int 10, .int 10, .int 0, .int 0, .int 0, .int 0, .int 0, .int 0, .int 0, .int 0, .int 0])), (q_13, .inr (3, [.int 0, .int 0, .int 0, .int 0, .int 0, .int 0, .int 0, .int 0, .int 0, .int 0, .int 0]))] H := hP
  have hD : va_D Ar [(h0, .inr (6, [.int 10, .int 10, .int 0, .int 0, .int 0, .int 0, .int 0, .ref q_1, .ref q_3, .int 0, .int 0, .int 0, .int (-1), .null, .ref q_5, .int 0, .ref q_7, .int 0])), (q_1, .inl (c_2, 12, .inl (fun _ => 0))), (q_3, .inl (c_4, 12, .inl (fun _ => 0))), (q_5, .inl (c_6, 40, .inl (fun _ => 0))), (q_7, .inl (c_8, 10, .inr (.inr (.inr (.inr (va_up (va_up (va_up (va_up (fun _ => none) 0 (some q_9)) 1 (some q_10)) 2 (some q_11)) 3 (some q_12))))))), (q_9, .inr (3, [.int 10, .int 10, .int 0, .int 0, .int 0, .int 0, .int 0, .int 0, .int 0, .int 0, .int 0])), (q_10, .inr (3, [.int 10, .int 10, .int 0, .int 0, .int 0, .int 0, .int 0, .int 0, .int 0, .int 0, .int 0])), (q_11, .inr (3, [.int 10, .int 10, .int 0, .int 0, .int 0, .int 0, .int 0, .int 0, .int 0, .int 0, .int 0])), (q_12, .inr (3, [.int 10, .int 10, .int 0, .int 0, .int 0, .int 0, .int 0, .int 0, .int 0, .int 0, .int 0])), (q_13, .inr (3, [.int 0, .int 0, .int 0, .int 0, .int 0, .int 0, .int 0, .int 0, .int 0, .int 0, .int 0]))] := hD
  refine lv_dup hx hb dX6_init_61 rfl ?_
  have hPc := hP.sub (ws' := [(q_13, .inr (3, [.int 0, .int 0, .int 0, .int 0, .int 0, .int 0, .int 0, .int 0, .int 0, .int 0, .int 0]))]) [9] rfl
  have hDc := hD.sub (ws' := [(q_13, .inr (3, [.int 0, .int 0, .int 0, .int 0, .int 0, .int 0, .int 0, .int 0, .int 0, .int 0, .int 0]))]) [9] (by decide) rfl
  have hKc := hK.sub (tys' := []) [] rfl
  have hFc := va_free (wc := [(q_13, .inr (3, [.int 0, .int 0, .int 0, .int 0, .int 0, .int 0, .int 0, .int 0, .int 0, .int 0, .int 0]))]) hD hS hA [9] rfl
  refine va_callv (va_runIN (As := []) (rest := [.ref q_13, .int 4, .ref q_7]) ⟨hx, hb, hml, hown, hts⟩ (cX3_init_3 l D q_13 H.size) ⟨va_cnB 0 hts (good_A we_41) rfl rfl rfl (hSD.1 (RX6, 31, yX3_init, "DownByAHair") (by decide +kernel)) (hts _ we_4) (by decide +kernel) ⟨Nat.le_of_ble_eq_true rfl, Nat.le_of_ble_eq_true rfl⟩, rfl, hts _ we_40⟩ ⟨PcC.blind, fun U hU hW => ⟨rfl, by rw [hU], by rw [hU]; exact hPc, va_K.moved hW.alike hKc, hDc.weaken (fun _ _ _ _ => trivial), hSD.warm hW⟩⟩ rfl rfl hl.1 rfl (lv_room (Nat.le_of_ble_eq_true rfl)) dX6_init_62 ⟨Nat.le_of_ble_eq_true rfl, Nat.le_of_ble_eq_true rfl⟩) hS (fun q _ h => hFc q h) hFc (fun u_ t_ H1 locs ht hvm hw hB hz1 hk1 hS => ?_)
  obtain ⟨hP1, hK1, hD1⟩ := hB
  rw [ht] at hP1
  have hK1 := va_K.moved hvm.symm hK1
  obtain ⟨hP, hD⟩ := va_join (wr := [(h0, .inr (6, [.int 10, .int 10, .int 0, .int 0, .int 0, .int 0, .int 0, .ref q_1, .ref q_3, .int 0, .int 0, .int 0, .int (-1), .null, .ref q_5, .int 0, .ref q_7, .int 0])), (q_1, .inl (c_2, 12, .inl (fun _ => 0))), (q_3, .inl (c_4, 12, .inl (fun _ => 0))), (q_5, .inl (c_6, 40, .inl (fun _ => 0))), (q_7, .inl (c_8, 10, .inr (.inr (.inr (.inr (va_up (va_up (va_up (va_up (fun _ => none) 0 (some q_9)) 1 (some q_10)) 2 (some q_11)) 3 (some q_12))))))), (q_9, .inr (3, [.int 10, .int 10, .int 0, .int 0, .int 0, .int 0, .int 0, .int 0, .int 0, .int 0, .int 0])), (q_10, .inr (3, [.int 10, .int 10, .int 0, .int 0, .int 0, .int 0, .int 0, .int 0, .int 0, .int 0, .int 0])), (q_11, .inr (3, [.int 10, .int 10, .int 0, .int 0, .int 0, .int 0, .int 0, .int 0, .int 0, .int 0, .int 0])), (q_12, .inr (3, [.int 10, .int 10, .int 0, .int 0, .int 0, .int 0, .int 0, .int 0, .int 0, .int 0, .int 0]))]) (w1 := [(q_13, .inr (3, [.int 10, .int 10, .int 0, .int 0, .int 0, .int 0, .int 0, .int 0, .int 0, .int 0, .int 0]))]) hP hD [9] [0, 1, 2, 3, 4, 5, 6, 7, 8] rfl rfl (by decide) (by decide) hk1 hFc hP1 hD1
  have hK := hK.app hK1
  generalize H1 = H at hP hS ⊢
  have hP : va_P D vwCl [(h0, .inr (6, [.int 10, .int 10, .int 0, .int 0, .int 0, .int 0, .int 0, .ref q_1, .ref q_3, .int 0, .int 0, .int 0, .int (-1), .null, .ref q_5, .int 0, .ref q_7, .int 0])), (q_1, .inl (c_2, 12, .inl (fun _ => 0))), (q_3, .inl (c_4, 12, .inl (fun _ => 0))), (q_5, .inl (c_6, 40, .inl (fun _ => 0))), (q_7, .inl (c_8, 10, .inr (.inr (.inr (.inr (va_up (va_up (va_up (va_up (fun _ => none) 0 (some q_9)) 1 (some q_10)) 2 (some q_11)) 3 (some q_12))))))), (q_9, .inr (3, [.int 10, .int 10, .int 0, .int 0, .int 0, .int 0, .int 0, .int 0, .int 0, .int 0, .int 0])), (q_10, .inr (3, [.int 10, .int 10, .int 0, .int 0, .int 0, .int 0, .int 0, .int 0, .int 0, .int 0, .int 0])), (q_11, .inr (3, [.int 10, .int 10, .int 0, .int 0, .int 0, .int 0, .int 0, .int 0, .int 0, .int 0, .int 0])), (q_12, .inr (3, [.int 10, .int 10, .int 0, .int 0, .int 0, .int 0, .int 0, .int 0, .int 0, .int 0, .int 0])), (q_13, .inr (3, [.int 10, .int 10, .int 0, .int 0, .int 0, .int 0, .int 0, .int 0, .int 0, .int 0, .int 0]))] H := hP
  have hD : va_D Ar [(h0, .inr (6, [.int 10, .int 10, .int 0, .int 0, .int 0, .int 0, .int 0, .ref q_1, .ref q_3, .int 0, .int 0, .int 0, .int (-1), .null, .ref q_5, .int 0, .ref q_7, .int 0])), (q_1, .inl (c_2, 12, .inl (fun _ => 0))), (q_3, .inl (c_4, 12, .inl (fun _ => 0))), (q_5, .inl (c_6, 40, .inl (fun _ => 0))), (q_7, .inl (c_8, 10, .inr (.inr (.inr (.inr (va_up (va_up (va_up (va_up (fun _ => none) 0 (some q_9)) 1 (some q_10)) 2 (some q_11)) 3 (some q_12))))))), (q_9, .inr (3, [.int 10, .int 10, .int 0, .int 0, .int 0, .int 0, .int 0, .int 0, .int 0, .int 0, .int 0])), (q_10, .inr (3, [.int 10, .int 10, .int 0, .int 0, .int 0, .int 0, .int 0, .int 0, .int 0, .int 0, .int 0])), (q_11, .inr (3, [.int 10, .int 10, .int 0, .int 0, .int 0, .int 0, .int 0, .int 0, .int 0, .int 0, .int 0])), (q_12, .inr (3, [.int 10, .int 10, .int 0, .int 0, .int 0, .int 0, .int 0, .int 0, .int 0, .int 0, .int 0])), (q_13, .inr (3, [.int 10, .int 10, .int 0, .int 0, .int 0, .int 0, .int 0, .int 0, .int 0, .int 0, .int 0]))] := hD
  have hK : va_K D vwCl [(c_2, .int), (c_4, .int), (c_6, .int), (c_8, .object "DownByAHair$Reading")] s := hK
  refine va_astq (r := (RX3, TX3, 11)) (i := 4) hx hb hK hP hD hS 4 3 9 3 rfl rfl rfl rfl (inb_in (by decide +kernel)) dX6_init_65 (fun H locs hP hD hS => ?_)
  have hP : va_P D vwCl [(h0, .inr (6, [.int 10, .int 10, .int 0, .int 0, .int 0, .int 0, .int 0, .ref q_1, .ref q_3, .int 0, .int 0, .int 0, .int (-1), .null, .ref q_5, .int 0, .ref q_7, .int 0])), (q_1, .inl (c_2, 12, .inl (fun _ => 0))), (q_3, .inl (c_4, 12, .inl (fun _ => 0))), (q_5, .inl (c_6, 40, .inl (fun _ => 0))), (q_7, .inl (c_8, 10, .inr (.inr (.inr (.inr (va_up (va_up (va_up (va_up (va_up (fun _ => none) 0 (some q_9)) 1 (some q_10)) 2 (some q_11)) 3 (some q_12)) 4 (some q_13))))))), (q_9, .inr (3, [.int 10, .int 10, .int 0, .int 0, .int 0, .int 0, .int 0, .int 0, .int 0, .int 0, .int 0])), (q_10, .inr (3, [.int 10, .int 10, .int 0, .int 0, .int 0, .int 0, .int 0, .int 0, .int 0, .int 0, .int 0])), (q_11, .inr (3, [.int 10, .int 10, .int 0, .int 0, .int 0, .int 0, .int 0, .int 0, .int 0, .int 0, .int 0])), (q_12, .inr (3, [.int 10, .int 10, .int 0, .int 0, .int 0, .int 0, .int 0, .int 0, .int 0, .int 0, .int 0])), (q_13, .inr (3, [.int 10, .int 10, .int 0, .int 0, .int 0, .int 0, .int 0, .int 0, .int 0, .int 0, .int 0]))] H := hP
  have hD : va_D Ar [(h0, .inr (6, [.int 10, .int 10, .int 0, .int 0, .int 0, .int 0, .int 0, .ref q_1, .ref q_3, .int 0, .int 0, .int 0, .int (-1), .null, .ref q_5, .int 0, .ref q_7, .int 0])), (q_1, .inl (c_2, 12, .inl (fun _ => 0))), (q_3, .inl (c_4, 12, .inl (fun _ => 0))), (q_5, .inl (c_6, 40, .inl (fun _ => 0))), (q_7, .inl (c_8, 10, .inr (.inr (.inr (.inr (va_up (va_up (va_up (va_up (va_up (fun _ => none) 0 (some q_9)) 1 (some q_10)) 2 (some q_11)) 3 (some q_12)) 4 (some q_13))))))), (q_9, .inr (3, [.int 10, .int 10, .int 0, .int 0, .int 0, .int 0, .int 0, .int 0, .int 0, .int 0, .int 0])), (q_10, .inr (3, [.int 10, .int 10, .int 0, .int 0, .int 0, .int 0, .int 0, .int 0, .int 0, .int 0, .int 0])), (q_11, .inr (3, [.int 10, .int 10, .int 0, .int 0, .int 0, .int 0, .int 0, .int 0, .int 0, .int 0, .int 0])), (q_12, .inr (3, [.int 10, .int 10, .int 0, .int 0, .int 0, .int 0, .int 0, .int 0, .int 0, .int 0, .int 0])), (q_13, .inr (3, [.int 10, .int 10, .int 0, .int 0, .int 0, .int 0, .int 0, .int 0, .int 0, .int 0, .int 0]))] := hD
  refine lv_iinc (v := 5) (k := 0) (lv' := [(1, .int 5), (0, .ref h0)]) hx hb dX6_init_66 hl rfl (by decide) (by decide) rfl (fun ls hl => ?_)
  refine lv_goto (tgt := 44) hx hb dX6_init_69 (by decide) ?_
  refine lv_iload_n hx hb dX6_init_44 rfl (lv_at hl 0 rfl) ?_
  refine lv_aload_n hx hb dX6_init_45 rfl (lv_at hl 1 rfl) ?_
  refine va_get (D := D) (ci := 6) (v := .ref q_7) (C := RX6) (T := TX6) (N := 18) hx hb hts inA6 hown hK hP 0 rfl rfl 16 (by decide) (hts _ we_138) (fun _ h9 => h9) rfl dX6_init_46 ?_
  refine va_alen (v := 10) hx hb hK hP 4 3 rfl rfl (show Int32.ofNat 10 = 10 by decide +kernel) dX6_init_49 ?_
  refine lv_icmp_ge (tgt := 72) hx hb dX6_init_50 (by decide) (fun c_ => absurd c_ (by decide)) (fun c_ => ?_)
  refine lv_aload_n hx hb dX6_init_53 rfl (lv_at hl 1 rfl) ?_
  refine va_get (D := D) (ci := 6) (v := .ref q_7) (C := RX6) (T := TX6) (N := 18) hx hb hts inA6 hown hK hP 0 rfl rfl 16 (by decide) (hts _ we_138) (fun _ h9 => h9) rfl dX6_init_54 ?_
  refine lv_iload_n hx hb dX6_init_57 rfl (lv_at hl 0 rfl) ?_
  refine va_new (ci := 3) (fs := [.int 0, .int 0, .int 0, .int 0, .int 0, .int 0, .int 0, .int 0, .int 0, .int 0, .int 0]) (C := RX3) (T := TX3) (N := 11) hx hb hts inA3 tyX3 tyX3_ok hown (hts _ we_36) (hts _ we_38) (hts _ we_4) hK hP hD hS hA rfl df_3 (Nat.le_of_ble_eq_true rfl) (Nat.le_of_ble_eq_true rfl) dX6_init_58 (fun q_14 H hP hD hS => ?_)
  have hP : va_P D vwCl [(h0, .inr (6, [.int 10, .int 10, .int 0, .int 0, .int 0, .int 0, .int 0, .ref q_1, .ref q_3, .int 0, .int 0, .int 0, .int (-1), .null, .ref q_5, .int 0, .ref q_7, .int 0])), (q_1, .inl (c_2, 12, .inl (fun _ => 0))), (q_3, .inl (c_4, 12, .inl (fun _ => 0))), (q_5, .inl (c_6, 40, .inl (fun _ => 0))), (q_7, .inl (c_8, 10, .inr (.inr (.inr (.inr (va_up (va_up (va_up (va_up (va_up (fun _ => none) 0 (some q_9)) 1 (some q_10)) 2 (some q_11)) 3 (some q_12)) 4 (some q_13))))))), (q_9, .inr (3, [.int 10, .int 10, .int 0, .int 0, .int 0, .int 0, .int 0, .int 0, .int 0, .int 0, .int 0])), (q_10, .inr (3, [.int 10, .int 10, .int 0, .int 0, .int 0, .int 0, .int 0, .int 0, .int 0, .int 0, .int 0])), (q_11, .inr (3, [.int 10, .int 10, .int 0, .int 0, .int 0, .int 0, .int 0, .int 0, .int 0, .int 0, .int 0])), (q_12, .inr (3, [.int 10, .int 10, .int 0, .int 0, .int 0, .int 0, .int 0, .int 0, .int 0, .int 0, .int 0])), (q_13, .inr (3, [.int 10, .int 10, .int 0, .int 0, .int 0, .int 0, .int 0, .int 0, .int 0, .int 0, .int 0])), (q_14, .inr (3, [.int 0, .int 0, .int 0, .int 0, .int 0, .int 0, .int 0, .int 0, .int 0, .int 0, .int 0]))] H := hP
  have hD : va_D Ar [(h0, .inr (6, [.int 10, .int 10, .int 0, .int 0, .int 0, .int 0, .int 0, .ref q_1, .ref q_3, .int 0, .int 0, .int 0, .int (-1), .null, .ref q_5, .int 0, .ref q_7, .int 0])), (q_1, .inl (c_2, 12, .inl (fun _ => 0))), (q_3, .inl (c_4, 12, .inl (fun _ => 0))), (q_5, .inl (c_6, 40, .inl (fun _ => 0))), (q_7, .inl (c_8, 10, .inr (.inr (.inr (.inr (va_up (va_up (va_up (va_up (va_up (fun _ => none) 0 (some q_9)) 1 (some q_10)) 2 (some q_11)) 3 (some q_12)) 4 (some q_13))))))), (q_9, .inr (3, [.int 10, .int 10, .int 0, .int 0, .int 0, .int 0, .int 0, .int 0, .int 0, .int 0, .int 0])), (q_10, .inr (3, [.int 10, .int 10, .int 0, .int 0, .int 0, .int 0, .int 0, .int 0, .int 0, .int 0, .int 0])), (q_11, .inr (3, [.int 10, .int 10, .int 0, .int 0, .int 0, .int 0, .int 0, .int 0, .int 0, .int 0, .int 0])), (q_12, .inr (3, [.int 10, .int 10, .int 0, .int 0, .int 0, .int 0, .int 0, .int 0, .int 0, .int 0, .int 0])), (q_13, .inr (3, [.int 10, .int 10, .int 0, .int 0, .int 0, .int 0, .int 0, .int 0, .int 0, .int 0, .int 0])), (q_14, .inr (3, [.int 0, .int 0, .int 0, .int 0, .int 0, .int 0, .int 0, .int 0, .int 0, .int 0, .int 0]))] := hD
  refine lv_dup hx hb dX6_init_61 rfl ?_
  have hPc := hP.sub (ws' := [(q_14, .inr (3, [.int 0, .int 0, .int 0, .int 0, .int 0, .int 0, .int 0, .int 0, .int 0, .int 0, .int 0]))]) [10] rfl
  have hDc := hD.sub (ws' := [(q_14, .inr (3, [.int 0, .int 0, .int 0, .int 0, .int 0, .int 0, .int 0, .int 0, .int 0, .int 0, .int 0]))]) [10] (by decide) rfl
  have hKc := hK.sub (tys' := []) [] rfl
  have hFc := va_free (wc := [(q_14, .inr (3, [.int 0, .int 0, .int 0, .int 0, .int 0, .int 0, .int 0, .int 0, .int 0, .int 0, .int 0]))]) hD hS hA [10] rfl
  refine va_callv (va_runIN (As := []) (rest := [.ref q_14, .int 5, .ref q_7]) ⟨hx, hb, hml, hown, hts⟩ (cX3_init_3 l D q_14 H.size) ⟨va_cnB 0 hts (good_A we_41) rfl rfl rfl (hSD.1 (RX6, 31, yX3_init, "DownByAHair") (by decide +kernel)) (hts _ we_4) (by decide +kernel) ⟨Nat.le_of_ble_eq_true rfl, Nat.le_of_ble_eq_true rfl⟩, rfl, hts _ we_40⟩ ⟨PcC.blind, fun U hU hW => ⟨rfl, by rw [hU], by rw [hU]; exact hPc, va_K.moved hW.alike hKc, hDc.weaken (fun _ _ _ _ => trivial), hSD.warm hW⟩⟩ rfl rfl hl.1 rfl (lv_room (Nat.le_of_ble_eq_true rfl)) dX6_init_62 ⟨Nat.le_of_ble_eq_true rfl, Nat.le_of_ble_eq_true rfl⟩) hS (fun q _ h => hFc q h) hFc (fun u_ t_ H1 locs ht hvm hw hB hz1 hk1 hS => ?_)
  obtain ⟨hP1, hK1, hD1⟩ := hB
  rw [ht] at hP1
  have hK1 := va_K.moved hvm.symm hK1
  obtain ⟨hP, hD⟩ := va_join (wr := [(h0, .inr (6, [.int 10, .int 10, .int 0, .int 0, .int 0, .int 0, .int 0, .ref q_1, .ref q_3, .int 0, .int 0, .int 0, .int (-1), .null, .ref q_5, .int 0, .ref q_7, .int 0])), (q_1, .inl (c_2, 12, .inl (fun _ => 0))), (q_3, .inl (c_4, 12, .inl (fun _ => 0))), (q_5, .inl (c_6, 40, .inl (fun _ => 0))), (q_7, .inl (c_8, 10, .inr (.inr (.inr (.inr (va_up (va_up (va_up (va_up (va_up (fun _ => none) 0 (some q_9)) 1 (some q_10)) 2 (some q_11)) 3 (some q_12)) 4 (some q_13))))))), (q_9, .inr (3, [.int 10, .int 10, .int 0, .int 0, .int 0, .int 0, .int 0, .int 0, .int 0, .int 0, .int 0])), (q_10, .inr (3, [.int 10, .int 10, .int 0, .int 0, .int 0, .int 0, .int 0, .int 0, .int 0, .int 0, .int 0])), (q_11, .inr (3, [.int 10, .int 10, .int 0, .int 0, .int 0, .int 0, .int 0, .int 0, .int 0, .int 0, .int 0])), (q_12, .inr (3, [.int 10, .int 10, .int 0, .int 0, .int 0, .int 0, .int 0, .int 0, .int 0, .int 0, .int 0])), (q_13, .inr (3, [.int 10, .int 10, .int 0, .int 0, .int 0, .int 0, .int 0, .int 0, .int 0, .int 0, .int 0]))]) (w1 := [(q_14, .inr (3, [.int 10, .int 10, .int 0, .int 0, .int 0, .int 0, .int 0, .int 0, .int 0, .int 0, .int 0]))]) hP hD [10] [0, 1, 2, 3, 4, 5, 6, 7, 8, 9] rfl rfl (by decide) (by decide) hk1 hFc hP1 hD1
  have hK := hK.app hK1
  generalize H1 = H at hP hS ⊢
  have hP : va_P D vwCl [(h0, .inr (6, [.int 10, .int 10, .int 0, .int 0, .int 0, .int 0, .int 0, .ref q_1, .ref q_3, .int 0, .int 0, .int 0, .int (-1), .null, .ref q_5, .int 0, .ref q_7, .int 0])), (q_1, .inl (c_2, 12, .inl (fun _ => 0))), (q_3, .inl (c_4, 12, .inl (fun _ => 0))), (q_5, .inl (c_6, 40, .inl (fun _ => 0))), (q_7, .inl (c_8, 10, .inr (.inr (.inr (.inr (va_up (va_up (va_up (va_up (va_up (fun _ => none) 0 (some q_9)) 1 (some q_10)) 2 (some q_11)) 3 (some q_12)) 4 (some q_13))))))), (q_9, .inr (3, [.int 10, .int 10, .int 0, .int 0, .int 0, .int 0, .int 0, .int 0, .int 0, .int 0, .int 0])), (q_10, .inr (3, [.int 10, .int 10, .int 0, .int 0, .int 0, .int 0, .int 0, .int 0, .int 0, .int 0, .int 0])), (q_11, .inr (3, [.int 10, .int 10, .int 0, .int 0, .int 0, .int 0, .int 0, .int 0, .int 0, .int 0, .int 0])), (q_12, .inr (3, [.int 10, .int 10, .int 0, .int 0, .int 0, .int 0, .int 0, .int 0, .int 0, .int 0, .int 0])), (q_13, .inr (3, [.int 10, .int 10, .int 0, .int 0, .int 0, .int 0, .int 0, .int 0, .int 0, .int 0, .int 0])), (q_14, .inr (3, [.int 10, .int 10, .int 0, .int 0, .int 0, .int 0, .int 0, .int 0, .int 0, .int 0, .int 0]))] H := hP
  have hD : va_D Ar [(h0, .inr (6, [.int 10, .int 10, .int 0, .int 0, .int 0, .int 0, .int 0, .ref q_1, .ref q_3, .int 0, .int 0, .int 0, .int (-1), .null, .ref q_5, .int 0, .ref q_7, .int 0])), (q_1, .inl (c_2, 12, .inl (fun _ => 0))), (q_3, .inl (c_4, 12, .inl (fun _ => 0))), (q_5, .inl (c_6, 40, .inl (fun _ => 0))), (q_7, .inl (c_8, 10, .inr (.inr (.inr (.inr (va_up (va_up (va_up (va_up (va_up (fun _ => none) 0 (some q_9)) 1 (some q_10)) 2 (some q_11)) 3 (some q_12)) 4 (some q_13))))))), (q_9, .inr (3, [.int 10, .int 10, .int 0, .int 0, .int 0, .int 0, .int 0, .int 0, .int 0, .int 0, .int 0])), (q_10, .inr (3, [.int 10, .int 10, .int 0, .int 0, .int 0, .int 0, .int 0, .int 0, .int 0, .int 0, .int 0])), (q_11, .inr (3, [.int 10, .int 10, .int 0, .int 0, .int 0, .int 0, .int 0, .int 0, .int 0, .int 0, .int 0])), (q_12, .inr (3, [.int 10, .int 10, .int 0, .int 0, .int 0, .int 0, .int 0, .int 0, .int 0, .int 0, .int 0])), (q_13, .inr (3, [.int 10, .int 10, .int 0, .int 0, .int 0, .int 0, .int 0, .int 0, .int 0, .int 0, .int 0])), (q_14, .inr (3, [.int 10, .int 10, .int 0, .int 0, .int 0, .int 0, .int 0, .int 0, .int 0, .int 0, .int 0]))] := hD
  have hK : va_K D vwCl [(c_2, .int), (c_4, .int), (c_6, .int), (c_8, .object "DownByAHair$Reading")] s := hK
  refine va_astq (r := (RX3, TX3, 11)) (i := 5) hx hb hK hP hD hS 4 3 10 3 rfl rfl rfl rfl (inb_in (by decide +kernel)) dX6_init_65 (fun H locs hP hD hS => ?_)
  have hP : va_P D vwCl [(h0, .inr (6, [.int 10, .int 10, .int 0, .int 0, .int 0, .int 0, .int 0, .ref q_1, .ref q_3, .int 0, .int 0, .int 0, .int (-1), .null, .ref q_5, .int 0, .ref q_7, .int 0])), (q_1, .inl (c_2, 12, .inl (fun _ => 0))), (q_3, .inl (c_4, 12, .inl (fun _ => 0))), (q_5, .inl (c_6, 40, .inl (fun _ => 0))), (q_7, .inl (c_8, 10, .inr (.inr (.inr (.inr (va_up (va_up (va_up (va_up (va_up (va_up (fun _ => none) 0 (some q_9)) 1 (some q_10)) 2 (some q_11)) 3 (some q_12)) 4 (some q_13)) 5 (some q_14))))))), (q_9, .inr (3, [.int 10, .int 10, .int 0, .int 0, .int 0, .int 0, .int 0, .int 0, .int 0, .int 0, .int 0])), (q_10, .inr (3, [.int 10, .int 10, .int 0, .int 0, .int 0, .int 0, .int 0, .int 0, .int 0, .int 0, .int 0])), (q_11, .inr (3, [.int 10, .int 10, .int 0, .int 0, .int 0, .int 0, .int 0, .int 0, .int 0, .int 0, .int 0])), (q_12, .inr (3, [.int 10, .int 10, .int 0, .int 0, .int 0, .int 0, .int 0, .int 0, .int 0, .int 0, .int 0])), (q_13, .inr (3, [.int 10, .int 10, .int 0, .int 0, .int 0, .int 0, .int 0, .int 0, .int 0, .int 0, .int 0])), (q_14, .inr (3, [.int 10, .int 10, .int 0, .int 0, .int 0, .int 0, .int 0, .int 0, .int 0, .int 0, .int 0]))] H := hP
  have hD : va_D Ar [(h0, .inr (6, [.int 10, .int 10, .int 0, .int 0, .int 0, .int 0, .int 0, .ref q_1, .ref q_3, .int 0, .int 0, .int 0, .int (-1), .null, .ref q_5, .int 0, .ref q_7, .int 0])), (q_1, .inl (c_2, 12, .inl (fun _ => 0))), (q_3, .inl (c_4, 12, .inl (fun _ => 0))), (q_5, .inl (c_6, 40, .inl (fun _ => 0))), (q_7, .inl (c_8, 10, .inr (.inr (.inr (.inr (va_up (va_up (va_up (va_up (va_up (va_up (fun _ => none) 0 (some q_9)) 1 (some q_10)) 2 (some q_11)) 3 (some q_12)) 4 (some q_13)) 5 (some q_14))))))), (q_9, .inr (3, [.int 10, .int 10, .int 0, .int 0, .int 0, .int 0, .int 0, .int 0, .int 0, .int 0, .int 0])), (q_10, .inr (3, [.int 10, .int 10, .int 0, .int 0, .int 0, .int 0, .int 0, .int 0, .int 0, .int 0, .int 0])), (q_11, .inr (3, [.int 10, .int 10, .int 0, .int 0, .int 0, .int 0, .int 0, .int 0, .int 0, .int 0, .int 0])), (q_12, .inr (3, [.int 10, .int 10, .int 0, .int 0, .int 0, .int 0, .int 0, .int 0, .int 0, .int 0, .int 0])), (q_13, .inr (3, [.int 10, .int 10, .int 0, .int 0, .int 0, .int 0, .int 0, .int 0, .int 0, .int 0, .int 0])), (q_14, .inr (3, [.int 10, .int 10, .int 0, .int 0, .int 0, .int 0, .int 0, .int 0, .int 0, .int 0, .int 0]))] := hD
  refine lv_iinc (v := 6) (k := 0) (lv' := [(1, .int 6), (0, .ref h0)]) hx hb dX6_init_66 hl rfl (by decide) (by decide) rfl (fun ls hl => ?_)
  refine lv_goto (tgt := 44) hx hb dX6_init_69 (by decide) ?_
  refine lv_iload_n hx hb dX6_init_44 rfl (lv_at hl 0 rfl) ?_
  refine lv_aload_n hx hb dX6_init_45 rfl (lv_at hl 1 rfl) ?_
  refine va_get (D := D) (ci := 6) (v := .ref q_7) (C := RX6) (T := TX6) (N := 18) hx hb hts inA6 hown hK hP 0 rfl rfl 16 (by decide) (hts _ we_138) (fun _ h9 => h9) rfl dX6_init_46 ?_
  refine va_alen (v := 10) hx hb hK hP 4 3 rfl rfl (show Int32.ofNat 10 = 10 by decide +kernel) dX6_init_49 ?_
  refine lv_icmp_ge (tgt := 72) hx hb dX6_init_50 (by decide) (fun c_ => absurd c_ (by decide)) (fun c_ => ?_)
  refine lv_aload_n hx hb dX6_init_53 rfl (lv_at hl 1 rfl) ?_
  refine va_get (D := D) (ci := 6) (v := .ref q_7) (C := RX6) (T := TX6) (N := 18) hx hb hts inA6 hown hK hP 0 rfl rfl 16 (by decide) (hts _ we_138) (fun _ h9 => h9) rfl dX6_init_54 ?_
  refine lv_iload_n hx hb dX6_init_57 rfl (lv_at hl 0 rfl) ?_
  refine va_new (ci := 3) (fs := [.int 0, .int 0, .int 0, .int 0, .int 0, .int 0, .int 0, .int 0, .int 0, .int 0, .int 0]) (C := RX3) (T := TX3) (N := 11) hx hb hts inA3 tyX3 tyX3_ok hown (hts _ we_36) (hts _ we_38) (hts _ we_4) hK hP hD hS hA rfl df_3 (Nat.le_of_ble_eq_true rfl) (Nat.le_of_ble_eq_true rfl) dX6_init_58 (fun q_15 H hP hD hS => ?_)
  have hP : va_P D vwCl [(h0, .inr (6, [.int 10, .int 10, .int 0, .int 0, .int 0, .int 0, .int 0, .ref q_1, .ref q_3, .int 0, .int 0, .int 0, .int (-1), .null, .ref q_5, .int 0, .ref q_7, .int 0])), (q_1, .inl (c_2, 12, .inl (fun _ => 0))), (q_3, .inl (c_4, 12, .inl (fun _ => 0))), (q_5, .inl (c_6, 40, .inl (fun _ => 0))), (q_7, .inl (c_8, 10, .inr (.inr (.inr (.inr (va_up (va_up (va_up (va_up (va_up (va_up (fun _ => none) 0 (some q_9)) 1 (some q_10)) 2 (some q_11)) 3 (some q_12)) 4 (some q_13)) 5 (some q_14))))))), (q_9, .inr (3, [.int 10, .int 10, .int 0, .int 0, .int 0, .int 0, .int 0, .int 0, .int 0, .int 0, .int 0])), (q_10, .inr (3, [.int 10, .int 10, .int 0, .int 0, .int 0, .int 0, .int 0, .int 0, .int 0, .int 0, .int 0])), (q_11, .inr (3, [.int 10, .int 10, .int 0, .int 0, .int 0, .int 0, .int 0, .int 0, .int 0, .int 0, .int 0])), (q_12, .inr (3, [.int 10, .int 10, .int 0, .int 0, .int 0, .int 0, .int 0, .int 0, .int 0, .int 0, .int 0])), (q_13, .inr (3, [.int 10, .int 10, .int 0, .int 0, .int 0, .int 0, .int 0, .int 0, .int 0, .int 0, .int 0])), (q_14, .inr (3, [.int 10, .int 10, .int 0, .int 0, .int 0, .int 0, .int 0, .int 0, .int 0, .int 0, .int 0])), (q_15, .inr (3, [.int 0, .int 0, .int 0, .int 0, .int 0, .int 0, .int 0, .int 0, .int 0, .int 0, .int 0]))] H := hP
  have hD : va_D Ar [(h0, .inr (6, [.int 10, .int 10, .int 0, .int 0, .int 0, .int 0, .int 0, .ref q_1, .ref q_3, .int 0, .int 0, .int 0, .int (-1), .null, .ref q_5, .int 0, .ref q_7, .int 0])), (q_1, .inl (c_2, 12, .inl (fun _ => 0))), (q_3, .inl (c_4, 12, .inl (fun _ => 0))), (q_5, .inl (c_6, 40, .inl (fun _ => 0))), (q_7, .inl (c_8, 10, .inr (.inr (.inr (.inr (va_up (va_up (va_up (va_up (va_up (va_up (fun _ => none) 0 (some q_9)) 1 (some q_10)) 2 (some q_11)) 3 (some q_12)) 4 (some q_13)) 5 (some q_14))))))), (q_9, .inr (3, [.int 10, .int 10, .int 0, .int 0, .int 0, .int 0, .int 0, .int 0, .int 0, .int 0, .int 0])), (q_10, .inr (3, [.int 10, .int 10, .int 0, .int 0, .int 0, .int 0, .int 0, .int 0, .int 0, .int 0, .int 0])), (q_11, .inr (3, [.int 10, .int 10, .int 0, .int 0, .int 0, .int 0, .int 0, .int 0, .int 0, .int 0, .int 0])), (q_12, .inr (3, [.int 10, .int 10, .int 0, .int 0, .int 0, .int 0, .int 0, .int 0, .int 0, .int 0, .int 0])), (q_13, .inr (3, [.int 10, .int 10, .int 0, .int 0, .int 0, .int 0, .int 0, .int 0, .int 0, .int 0, .int 0])), (q_14, .inr (3, [.int 10, .int 10, .int 0, .int 0, .int 0, .int 0, .int 0, .int 0, .int 0, .int 0, .int 0])), (q_15, .inr (3, [.int 0, .int 0, .int 0, .int 0, .int 0, .int 0, .int 0, .int 0, .int 0, .int 0, .int 0]))] := hD
  refine lv_dup hx hb dX6_init_61 rfl ?_
  have hPc := hP.sub (ws' := [(q_15, .inr (3, [.int 0, .int 0, .int 0, .int 0, .int 0, .int 0, .int 0, .int 0, .int 0, .int 0, .int 0]))]) [11] rfl
  have hDc := hD.sub (ws' := [(q_15, .inr (3, [.int 0, .int 0, .int 0, .int 0, .int 0, .int 0, .int 0, .int 0, .int 0, .int 0, .int 0]))]) [11] (by decide) rfl
  have hKc := hK.sub (tys' := []) [] rfl
  have hFc := va_free (wc := [(q_15, .inr (3, [.int 0, .int 0, .int 0, .int 0, .int 0, .int 0, .int 0, .int 0, .int 0, .int 0, .int 0]))]) hD hS hA [11] rfl
  refine va_callv (va_runIN (As := []) (rest := [.ref q_15, .int 6, .ref q_7]) ⟨hx, hb, hml, hown, hts⟩ (cX3_init_3 l D q_15 H.size) ⟨va_cnB 0 hts (good_A we_41) rfl rfl rfl (hSD.1 (RX6, 31, yX3_init, "DownByAHair") (by decide +kernel)) (hts _ we_4) (by decide +kernel) ⟨Nat.le_of_ble_eq_true rfl, Nat.le_of_ble_eq_true rfl⟩, rfl, hts _ we_40⟩ ⟨PcC.blind, fun U hU hW => ⟨rfl, by rw [hU], by rw [hU]; exact hPc, va_K.moved hW.alike hKc, hDc.weaken (fun _ _ _ _ => trivial), hSD.warm hW⟩⟩ rfl rfl hl.1 rfl (lv_room (Nat.le_of_ble_eq_true rfl)) dX6_init_62 ⟨Nat.le_of_ble_eq_true rfl, Nat.le_of_ble_eq_true rfl⟩) hS (fun q _ h => hFc q h) hFc (fun u_ t_ H1 locs ht hvm hw hB hz1 hk1 hS => ?_)
  obtain ⟨hP1, hK1, hD1⟩ := hB
  rw [ht] at hP1
  have hK1 := va_K.moved hvm.symm hK1
  obtain ⟨hP, hD⟩ := va_join (wr := [(h0, .inr (6, [.int 10, .int 10, .int 0, .int 0, .int 0, .int 0, .int 0, .ref q_1, .ref q_3, .int 0, .int 0, .int 0, .int (-1), .null, .ref q_5, .int 0, .ref q_7, .int 0])), (q_1, .inl (c_2, 12, .inl (fun _ => 0))), (q_3, .inl (c_4, 12, .inl (fun _ => 0))), (q_5, .inl (c_6, 40, .inl (fun _ => 0))), (q_7, .inl (c_8, 10, .inr (.inr (.inr (.inr (va_up (va_up (va_up (va_up (va_up (va_up (fun _ => none) 0 (some q_9)) 1 (some q_10)) 2 (some q_11)) 3 (some q_12)) 4 (some q_13)) 5 (some q_14))))))), (q_9, .inr (3, [.int 10, .int 10, .int 0, .int 0, .int 0, .int 0, .int 0, .int 0, .int 0, .int 0, .int 0])), (q_10, .inr (3, [.int 10, .int 10, .int 0, .int 0, .int 0, .int 0, .int 0, .int 0, .int 0, .int 0, .int 0])), (q_11, .inr (3, [.int 10, .int 10, .int 0, .int 0, .int 0, .int 0, .int 0, .int 0, .int 0, .int 0, .int 0])), (q_12, .inr (3, [.int 10, .int 10, .int 0, .int 0, .int 0, .int 0, .int 0, .int 0, .int 0, .int 0, .int 0])), (q_13, .inr (3, [.int 10, .int 10, .int 0, .int 0, .int 0, .int 0, .int 0, .int 0, .int 0, .int 0, .int 0])), (q_14, .inr (3, [.int 10, .int 10, .int 0, .int 0, .int 0, .int 0, .int 0, .int 0, .int 0, .int 0, .int 0]))]) (w1 := [(q_15, .inr (3, [.int 10, .int 10, .int 0, .int 0, .int 0, .int 0, .int 0, .int 0, .int 0, .int 0, .int 0]))]) hP hD [11] [0, 1, 2, 3, 4, 5, 6, 7, 8, 9, 10] rfl rfl (by decide) (by decide) hk1 hFc hP1 hD1
  have hK := hK.app hK1
  generalize H1 = H at hP hS ⊢
  have hP : va_P D vwCl [(h0, .inr (6, [.int 10, .int 10, .int 0, .int 0, .int 0, .int 0, .int 0, .ref q_1, .ref q_3, .int 0, .int 0, .int 0, .int (-1), .null, .ref q_5, .int 0, .ref q_7, .int 0])), (q_1, .inl (c_2, 12, .inl (fun _ => 0))), (q_3, .inl (c_4, 12, .inl (fun _ => 0))), (q_5, .inl (c_6, 40, .inl (fun _ => 0))), (q_7, .inl (c_8, 10, .inr (.inr (.inr (.inr (va_up (va_up (va_up (va_up (va_up (va_up (fun _ => none) 0 (some q_9)) 1 (some q_10)) 2 (some q_11)) 3 (some q_12)) 4 (some q_13)) 5 (some q_14))))))), (q_9, .inr (3, [.int 10, .int 10, .int 0, .int 0, .int 0, .int 0, .int 0, .int 0, .int 0, .int 0, .int 0])), (q_10, .inr (3, [.int 10, .int 10, .int 0, .int 0, .int 0, .int 0, .int 0, .int 0, .int 0, .int 0, .int 0])), (q_11, .inr (3, [.int 10, .int 10, .int 0, .int 0, .int 0, .int 0, .int 0, .int 0, .int 0, .int 0, .int 0])), (q_12, .inr (3, [.int 10, .int 10, .int 0, .int 0, .int 0, .int 0, .int 0, .int 0, .int 0, .int 0, .int 0])), (q_13, .inr (3, [.int 10, .int 10, .int 0, .int 0, .int 0, .int 0, .int 0, .int 0, .int 0, .int 0, .int 0])), (q_14, .inr (3, [.int 10, .int 10, .int 0, .int 0, .int 0, .int 0, .int 0, .int 0, .int 0, .int 0, .int 0])), (q_15, .inr (3, [.int 10, .int 10, .int 0, .int 0, .int 0, .int 0, .int 0, .int 0, .int 0, .int 0, .int 0]))] H := hP
  have hD : va_D Ar [(h0, .inr (6, [.int 10, .int 10, .int 0, .int 0, .int 0, .int 0, .int 0, .ref q_1, .ref q_3, .int 0, .int 0, .int 0, .int (-1), .null, .ref q_5, .int 0, .ref q_7, .int 0])), (q_1, .inl (c_2, 12, .inl (fun _ => 0))), (q_3, .inl (c_4, 12, .inl (fun _ => 0))), (q_5, .inl (c_6, 40, .inl (fun _ => 0))), (q_7, .inl (c_8, 10, .inr (.inr (.inr (.inr (va_up (va_up (va_up (va_up (va_up (va_up (fun _ => none) 0 (some q_9)) 1 (some q_10)) 2 (some q_11)) 3 (some q_12)) 4 (some q_13)) 5 (some q_14))))))), (q_9, .inr (3, [.int 10, .int 10, .int 0, .int 0, .int 0, .int 0, .int 0, .int 0, .int 0, .int 0, .int 0])), (q_10, .inr (3, [.int 10, .int 10, .int 0, .int 0, .int 0, .int 0, .int 0, .int 0, .int 0, .int 0, .int 0])), (q_11, .inr (3, [.int 10, .int 10, .int 0, .int 0, .int 0, .int 0, .int 0, .int 0, .int 0, .int 0, .int 0])), (q_12, .inr (3, [.int 10, .int 10, .int 0, .int 0, .int 0, .int 0, .int 0, .int 0, .int 0, .int 0, .int 0])), (q_13, .inr (3, [.int 10, .int 10, .int 0, .int 0, .int 0, .int 0, .int 0, .int 0, .int 0, .int 0, .int 0])), (q_14, .inr (3, [.int 10, .int 10, .int 0, .int 0, .int 0, .int 0, .int 0, .int 0, .int 0, .int 0, .int 0])), (q_15, .inr (3, [.int 10, .int 10, .int 0, .int 0, .int 0, .int 0, .int 0, .int 0, .int 0, .int 0, .int 0]))] := hD
  have hK : va_K D vwCl [(c_2, .int), (c_4, .int), (c_6, .int), (c_8, .object "DownByAHair$Reading")] s := hK
  refine va_astq (r := (RX3, TX3, 11)) (i := 6) hx hb hK hP hD hS 4 3 11 3 rfl rfl rfl rfl (inb_in (by decide +kernel)) dX6_init_65 (fun H locs hP hD hS => ?_)
  have hP : va_P D vwCl [(h0, .inr (6, [.int 10, .int 10, .int 0, .int 0, .int 0, .int 0, .int 0, .ref q_1, .ref q_3, .int 0, .int 0, .int 0, .int (-1), .null, .ref q_5, .int 0, .ref q_7, .int 0])), (q_1, .inl (c_2, 12, .inl (fun _ => 0))), (q_3, .inl (c_4, 12, .inl (fun _ => 0))), (q_5, .inl (c_6, 40, .inl (fun _ => 0))), (q_7, .inl (c_8, 10, .inr (.inr (.inr (.inr (va_up (va_up (va_up (va_up (va_up (va_up (va_up (fun _ => none) 0 (some q_9)) 1 (some q_10)) 2 (some q_11)) 3 (some q_12)) 4 (some q_13)) 5 (some q_14)) 6 (some q_15))))))), (q_9, .inr (3, [.int 10, .int 10, .int 0, .int 0, .int 0, .int 0, .int 0, .int 0, .int 0, .int 0, .int 0])), (q_10, .inr (3, [.int 10, .int 10, .int 0, .int 0, .int 0, .int 0, .int 0, .int 0, .int 0, .int 0, .int 0])), (q_11, .inr (3, [.int 10, .int 10, .int 0, .int 0, .int 0, .int 0, .int 0, .int 0, .int 0, .int 0, .int 0])), (q_12, .inr (3, [.int 10, .int 10, .int 0, .int 0, .int 0, .int 0, .int 0, .int 0, .int 0, .int 0, .int 0])), (q_13, .inr (3, [.int 10, .int 10, .int 0, .int 0, .int 0, .int 0, .int 0, .int 0, .int 0, .int 0, .int 0])), (q_14, .inr (3, [.int 10, .int 10, .int 0, .int 0, .int 0, .int 0, .int 0, .int 0, .int 0, .int 0, .int 0])), (q_15, .inr (3, [.int 10, .int 10, .int 0, .int 0, .int 0, .int 0, .int 0, .int 0, .int 0, .int 0, .int 0]))] H := hP
  have hD : va_D Ar [(h0, .inr (6, [.int 10, .int 10, .int 0, .int 0, .int 0, .int 0, .int 0, .ref q_1, .ref q_3, .int 0, .int 0, .int 0, .int (-1), .null, .ref q_5, .int 0, .ref q_7, .int 0])), (q_1, .inl (c_2, 12, .inl (fun _ => 0))), (q_3, .inl (c_4, 12, .inl (fun _ => 0))), (q_5, .inl (c_6, 40, .inl (fun _ => 0))), (q_7, .inl (c_8, 10, .inr (.inr (.inr (.inr (va_up (va_up (va_up (va_up (va_up (va_up (va_up (fun _ => none) 0 (some q_9)) 1 (some q_10)) 2 (some q_11)) 3 (some q_12)) 4 (some q_13)) 5 (some q_14)) 6 (some q_15))))))), (q_9, .inr (3, [.int 10, .int 10, .int 0, .int 0, .int 0, .int 0, .int 0, .int 0, .int 0, .int 0, .int 0])), (q_10, .inr (3, [.int 10, .int 10, .int 0, .int 0, .int 0, .int 0, .int 0, .int 0, .int 0, .int 0, .int 0])), (q_11, .inr (3, [.int 10, .int 10, .int 0, .int 0, .int 0, .int 0, .int 0, .int 0, .int 0, .int 0, .int 0])), (q_12, .inr (3, [.int 10, .int 10, .int 0, .int 0, .int 0, .int 0, .int 0, .int 0, .int 0, .int 0, .int 0])), (q_13, .inr (3, [.int 10, .int 10, .int 0, .int 0, .int 0, .int 0, .int 0, .int 0, .int 0, .int 0, .int 0])), (q_14, .inr (3, [.int 10, .int 10, .int 0, .int 0, .int 0, .int 0, .int 0, .int 0, .int 0, .int 0, .int 0])), (q_15, .inr (3, [.int 10, .int 10, .int 0, .int 0, .int 0, .int 0, .int 0, .int 0, .int 0, .int 0, .int 0]))] := hD
  refine lv_iinc (v := 7) (k := 0) (lv' := [(1, .int 7), (0, .ref h0)]) hx hb dX6_init_66 hl rfl (by decide) (by decide) rfl (fun ls hl => ?_)
  refine lv_goto (tgt := 44) hx hb dX6_init_69 (by decide) ?_
  refine lv_iload_n hx hb dX6_init_44 rfl (lv_at hl 0 rfl) ?_
  refine lv_aload_n hx hb dX6_init_45 rfl (lv_at hl 1 rfl) ?_
  refine va_get (D := D) (ci := 6) (v := .ref q_7) (C := RX6) (T := TX6) (N := 18) hx hb hts inA6 hown hK hP 0 rfl rfl 16 (by decide) (hts _ we_138) (fun _ h9 => h9) rfl dX6_init_46 ?_
  refine va_alen (v := 10) hx hb hK hP 4 3 rfl rfl (show Int32.ofNat 10 = 10 by decide +kernel) dX6_init_49 ?_
  refine lv_icmp_ge (tgt := 72) hx hb dX6_init_50 (by decide) (fun c_ => absurd c_ (by decide)) (fun c_ => ?_)
  refine lv_aload_n hx hb dX6_init_53 rfl (lv_at hl 1 rfl) ?_
  refine va_get (D := D) (ci := 6) (v := .ref q_7) (C := RX6) (T := TX6) (N := 18) hx hb hts inA6 hown hK hP 0 rfl rfl 16 (by decide) (hts _ we_138) (fun _ h9 => h9) rfl dX6_init_54 ?_
  refine lv_iload_n hx hb dX6_init_57 rfl (lv_at hl 0 rfl) ?_
  refine va_new (ci := 3) (fs := [.int 0, .int 0, .int 0, .int 0, .int 0, .int 0, .int 0, .int 0, .int 0, .int 0, .int 0]) (C := RX3) (T := TX3) (N := 11) hx hb hts inA3 tyX3 tyX3_ok hown (hts _ we_36) (hts _ we_38) (hts _ we_4) hK hP hD hS hA rfl df_3 (Nat.le_of_ble_eq_true rfl) (Nat.le_of_ble_eq_true rfl) dX6_init_58 (fun q_16 H hP hD hS => ?_)
  have hP : va_P D vwCl [(h0, .inr (6, [.int 10, .int 10, .int 0, .int 0, .int 0, .int 0, .int 0, .ref q_1, .ref q_3, .int 0, .int 0, .int 0, .int (-1), .null, .ref q_5, .int 0, .ref q_7, .int 0])), (q_1, .inl (c_2, 12, .inl (fun _ => 0))), (q_3, .inl (c_4, 12, .inl (fun _ => 0))), (q_5, .inl (c_6, 40, .inl (fun _ => 0))), (q_7, .inl (c_8, 10, .inr (.inr (.inr (.inr (va_up (va_up (va_up (va_up (va_up (va_up (va_up (fun _ => none) 0 (some q_9)) 1 (some q_10)) 2 (some q_11)) 3 (some q_12)) 4 (some q_13)) 5 (some q_14)) 6 (some q_15))))))), (q_9, .inr (3, [.int 10, .int 10, .int 0, .int 0, .int 0, .int 0, .int 0, .int 0, .int 0, .int 0, .int 0])), (q_10, .inr (3, [.int 10, .int 10, .int 0, .int 0, .int 0, .int 0, .int 0, .int 0, .int 0, .int 0, .int 0])), (q_11, .inr (3, [.int 10, .int 10, .int 0, .int 0, .int 0, .int 0, .int 0, .int 0, .int 0, .int 0, .int 0])), (q_12, .inr (3, [.int 10, .int 10, .int 0, .int 0, .int 0, .int 0, .int 0, .int 0, .int 0, .int 0, .int 0])), (q_13, .inr (3, [.int 10, .int 10, .int 0, .int 0, .int 0, .int 0, .int 0, .int 0, .int 0, .int 0, .int 0])), (q_14, .inr (3, [.int 10, .int 10, .int 0, .int 0, .int 0, .int 0, .int 0, .int 0, .int 0, .int 0, .int 0])), (q_15, .inr (3, [.int 10, .int 10, .int 0, .int 0, .int 0, .int 0, .int 0, .int 0, .int 0, .int 0, .int 0])), (q_16, .inr (3, [.int 0, .int 0, .int 0, .int 0, .int 0, .int 0, .int 0, .int 0, .int 0, .int 0, .int 0]))] H := hP
  have hD : va_D Ar [(h0, .inr (6, [.int 10, .int 10, .int 0, .int 0, .int 0, .int 0, .int 0, .ref q_1, .ref q_3, .int 0, .int 0, .int 0, .int (-1), .null, .ref q_5, .int 0, .ref q_7, .int 0])), (q_1, .inl (c_2, 12, .inl (fun _ => 0))), (q_3, .inl (c_4, 12, .inl (fun _ => 0))), (q_5, .inl (c_6, 40, .inl (fun _ => 0))), (q_7, .inl (c_8, 10, .inr (.inr (.inr (.inr (va_up (va_up (va_up (va_up (va_up (va_up (va_up (fun _ => none) 0 (some q_9)) 1 (some q_10)) 2 (some q_11)) 3 (some q_12)) 4 (some q_13)) 5 (some q_14)) 6 (some q_15))))))), (q_9, .inr (3, [.int 10, .int 10, .int 0, .int 0, .int 0, .int 0, .int 0, .int 0, .int 0, .int 0, .int 0])), (q_10, .inr (3, [.int 10, .int 10, .int 0, .int 0, .int 0, .int 0, .int 0, .int 0, .int 0, .int 0, .int 0])), (q_11, .inr (3, [.int 10, .int 10, .int 0, .int 0, .int 0, .int 0, .int 0, .int 0, .int 0, .int 0, .int 0])), (q_12, .inr (3, [.int 10, .int 10, .int 0, .int 0, .int 0, .int 0, .int 0, .int 0, .int 0, .int 0, .int 0])), (q_13, .inr (3, [.int 10, .int 10, .int 0, .int 0, .int 0, .int 0, .int 0, .int 0, .int 0, .int 0, .int 0])), (q_14, .inr (3, [.int 10, .int 10, .int 0, .int 0, .int 0, .int 0, .int 0, .int 0, .int 0, .int 0, .int 0])), (q_15, .inr (3, [.int 10, .int 10, .int 0, .int 0, .int 0, .int 0, .int 0, .int 0, .int 0, .int 0, .int 0])), (q_16, .inr (3, [.int 0, .int 0, .int 0, .int 0, .int 0, .int 0, .int 0, .int 0, .int 0, .int 0, .int 0]))] := hD
  refine lv_dup hx hb dX6_init_61 rfl ?_
  have hPc := hP.sub (ws' := [(q_16, .inr (3, [.int 0, .int 0, .int 0, .int 0, .int 0, .int 0, .int 0, .int 0, .int 0, .int 0, .int 0]))]) [12] rfl
  have hDc := hD.sub (ws' := [(q_16, .inr (3, [.int 0, .int 0, .int 0, .int 0, .int 0, .int 0, .int 0, .int 0, .int 0, .int 0, .int 0]))]) [12] (by decide) rfl
  have hKc := hK.sub (tys' := []) [] rfl
  have hFc := va_free (wc := [(q_16, .inr (3, [.int 0, .int 0, .int 0, .int 0, .int 0, .int 0, .int 0, .int 0, .int 0, .int 0, .int 0]))]) hD hS hA [12] rfl
  refine va_callv (va_runIN (As := []) (rest := [.ref q_16, .int 7, .ref q_7]) ⟨hx, hb, hml, hown, hts⟩ (cX3_init_3 l D q_16 H.size) ⟨va_cnB 0 hts (good_A we_41) rfl rfl rfl (hSD.1 (RX6, 31, yX3_init, "DownByAHair") (by decide +kernel)) (hts _ we_4) (by decide +kernel) ⟨Nat.le_of_ble_eq_true rfl, Nat.le_of_ble_eq_true rfl⟩, rfl, hts _ we_40⟩ ⟨PcC.blind, fun U hU hW => ⟨rfl, by rw [hU], by rw [hU]; exact hPc, va_K.moved hW.alike hKc, hDc.weaken (fun _ _ _ _ => trivial), hSD.warm hW⟩⟩ rfl rfl hl.1 rfl (lv_room (Nat.le_of_ble_eq_true rfl)) dX6_init_62 ⟨Nat.le_of_ble_eq_true rfl, Nat.le_of_ble_eq_true rfl⟩) hS (fun q _ h => hFc q h) hFc (fun u_ t_ H1 locs ht hvm hw hB hz1 hk1 hS => ?_)
  obtain ⟨hP1, hK1, hD1⟩ := hB
  rw [ht] at hP1
  have hK1 := va_K.moved hvm.symm hK1
  obtain ⟨hP, hD⟩ := va_join (wr := [(h0, .inr (6, [.int 10, .int 10, .int 0, .int 0, .int 0, .int 0, .int 0, .ref q_1, .ref q_3, .int 0, .int 0, .int 0, .int (-1), .null, .ref q_5, .int 0, .ref q_7, .int 0])), (q_1, .inl (c_2, 12, .inl (fun _ => 0))), (q_3, .inl (c_4, 12, .inl (fun _ => 0))), (q_5, .inl (c_6, 40, .inl (fun _ => 0))), (q_7, .inl (c_8, 10, .inr (.inr (.inr (.inr (va_up (va_up (va_up (va_up (va_up (va_up (va_up (fun _ => none) 0 (some q_9)) 1 (some q_10)) 2 (some q_11)) 3 (some q_12)) 4 (some q_13)) 5 (some q_14)) 6 (some q_15))))))), (q_9, .inr (3, [.int 10, .int 10, .int 0, .int 0, .int 0, .int 0, .int 0, .int 0, .int 0, .int 0, .int 0])), (q_10, .inr (3, [.int 10, .int 10, .int 0, .int 0, .int 0, .int 0, .int 0, .int 0, .int 0, .int 0, .int 0])), (q_11, .inr (3, [.int 10, .int 10, .int 0, .int 0, .int 0, .int 0, .int 0, .int 0, .int 0, .int 0, .int 0])), (q_12, .inr (3, [.int 10, .int 10, .int 0, .int 0, .int 0, .int 0, .int 0, .int 0, .int 0, .int 0, .int 0])), (q_13, .inr (3, [.int 10, .int 10, .int 0, .int 0, .int 0, .int 0, .int 0, .int 0, .int 0, .int 0, .int 0])), (q_14, .inr (3, [.int 10, .int 10, .int 0, .int 0, .int 0, .int 0, .int 0, .int 0, .int 0, .int 0, .int 0])), (q_15, .inr (3, [.int 10, .int 10, .int 0, .int 0, .int 0, .int 0, .int 0, .int 0, .int 0, .int 0, .int 0]))]) (w1 := [(q_16, .inr (3, [.int 10, .int 10, .int 0, .int 0, .int 0, .int 0, .int 0, .int 0, .int 0, .int 0, .int 0]))]) hP hD [12] [0, 1, 2, 3, 4, 5, 6, 7, 8, 9, 10, 11] rfl rfl (by decide) (by decide) hk1 hFc hP1 hD1
  have hK := hK.app hK1
  generalize H1 = H at hP hS ⊢
  have hP : va_P D vwCl [(h0, .inr (6, [.int 10, .int 10, .int 0, .int 0, .int 0, .int 0, .int 0, .ref q_1, .ref q_3, .int 0, .int 0, .int 0, .int (-1), .null, .ref q_5, .int 0, .ref q_7, .int 0])), (q_1, .inl (c_2, 12, .inl (fun _ => 0))), (q_3, .inl (c_4, 12, .inl (fun _ => 0))), (q_5, .inl (c_6, 40, .inl (fun _ => 0))), (q_7, .inl (c_8, 10, .inr (.inr (.inr (.inr (va_up (va_up (va_up (va_up (va_up (va_up (va_up (fun _ => none) 0 (some q_9)) 1 (some q_10)) 2 (some q_11)) 3 (some q_12)) 4 (some q_13)) 5 (some q_14)) 6 (some q_15))))))), (q_9, .inr (3, [.int 10, .int 10, .int 0, .int 0, .int 0, .int 0, .int 0, .int 0, .int 0, .int 0, .int 0])), (q_10, .inr (3, [.int 10, .int 10, .int 0, .int 0, .int 0, .int 0, .int 0, .int 0, .int 0, .int 0, .int 0])), (q_11, .inr (3, [.int 10, .int 10, .int 0, .int 0, .int 0, .int 0, .int 0, .int 0, .int 0, .int 0, .int 0])), (q_12, .inr (3, [.int 10, .int 10, .int 0, .int 0, .int 0, .int 0, .int 0, .int 0, .int 0, .int 0, .int 0])), (q_13, .inr (3, [.int 10, .int 10, .int 0, .int 0, .int 0, .int 0, .int 0, .int 0, .int 0, .int 0, .int 0])), (q_14, .inr (3, [.int 10, .int 10, .int 0, .int 0, .int 0, .int 0, .int 0, .int 0, .int 0, .int 0, .int 0])), (q_15, .inr (3, [.int 10, .int 10, .int 0, .int 0, .int 0, .int 0, .int 0, .int 0, .int 0, .int 0, .int 0])), (q_16, .inr (3, [.int 10, .int 10, .int 0, .int 0, .int 0, .int 0, .int 0, .int 0, .int 0, .int 0, .int 0]))] H := hP
  have hD : va_D Ar [(h0, .inr (6, [.int 10, .int 10, .int 0, .int 0, .int 0, .int 0, .int 0, .ref q_1, .ref q_3, .int 0, .int 0, .int 0, .int (-1), .null, .ref q_5, .int 0, .ref q_7, .int 0])), (q_1, .inl (c_2, 12, .inl (fun _ => 0))), (q_3, .inl (c_4, 12, .inl (fun _ => 0))), (q_5, .inl (c_6, 40, .inl (fun _ => 0))), (q_7, .inl (c_8, 10, .inr (.inr (.inr (.inr (va_up (va_up (va_up (va_up (va_up (va_up (va_up (fun _ => none) 0 (some q_9)) 1 (some q_10)) 2 (some q_11)) 3 (some q_12)) 4 (some q_13)) 5 (some q_14)) 6 (some q_15))))))), (q_9, .inr (3, [.int 10, .int 10, .int 0, .int 0, .int 0, .int 0, .int 0, .int 0, .int 0, .int 0, .int 0])), (q_10, .inr (3, [.int 10, .int 10, .int 0, .int 0, .int 0, .int 0, .int 0, .int 0, .int 0, .int 0, .int 0])), (q_11, .inr (3, [.int 10, .int 10, .int 0, .int 0, .int 0, .int 0, .int 0, .int 0, .int 0, .int 0, .int 0])), (q_12, .inr (3, [.int 10, .int 10, .int 0, .int 0, .int 0, .int 0, .int 0, .int 0, .int 0, .int 0, .int 0])), (q_13, .inr (3, [.int 10, .int 10, .int 0, .int 0, .int 0, .int 0, .int 0, .int 0, .int 0, .int 0, .int 0])), (q_14, .inr (3, [.int 10, .int 10, .int 0, .int 0, .int 0, .int 0, .int 0, .int 0, .int 0, .int 0, .int 0])), (q_15, .inr (3, [.int 10, .int 10, .int 0, .int 0, .int 0, .int 0, .int 0, .int 0, .int 0, .int 0, .int 0])), (q_16, .inr (3, [.int 10, .int 10, .int 0, .int 0, .int 0, .int 0, .int 0, .int 0, .int 0, .int 0, .int 0]))] := hD
  have hK : va_K D vwCl [(c_2, .int), (c_4, .int), (c_6, .int), (c_8, .object "DownByAHair$Reading")] s := hK
  refine va_astq (r := (RX3, TX3, 11)) (i := 7) hx hb hK hP hD hS 4 3 12 3 rfl rfl rfl rfl (inb_in (by decide +kernel)) dX6_init_65 (fun H locs hP hD hS => ?_)
  have hP : va_P D vwCl [(h0, .inr (6, [.int 10, .int 10, .int 0, .int 0, .int 0, .int 0, .int 0, .ref q_1, .ref q_3, .int 0, .int 0, .int 0, .int (-1), .null, .ref q_5, .int 0, .ref q_7, .int 0])), (q_1, .inl (c_2, 12, .inl (fun _ => 0))), (q_3, .inl (c_4, 12, .inl (fun _ => 0))), (q_5, .inl (c_6, 40, .inl (fun _ => 0))), (q_7, .inl (c_8, 10, .inr (.inr (.inr (.inr (va_up (va_up (va_up (va_up (va_up (va_up (va_up (va_up (fun _ => none) 0 (some q_9)) 1 (some q_10)) 2 (some q_11)) 3 (some q_12)) 4 (some q_13)) 5 (some q_14)) 6 (some q_15)) 7 (some q_16))))))), (q_9, .inr (3, [.int 10, .int 10, .int 0, .int 0, .int 0, .int 0, .int 0, .int 0, .int 0, .int 0, .int 0])), (q_10, .inr (3, [.int 10, .int 10, .int 0, .int 0, .int 0, .int 0, .int 0, .int 0, .int 0, .int 0, .int 0])), (q_11, .inr (3, [.int 10, .int 10, .int 0, .int 0, .int 0, .int 0, .int 0, .int 0, .int 0, .int 0, .int 0])), (q_12, .inr (3, [.int 10, .int 10, .int 0, .int 0, .int 0, .int 0, .int 0, .int 0, .int 0, .int 0, .int 0])), (q_13, .inr (3, [.int 10, .int 10, .int 0, .int 0, .int 0, .int 0, .int 0, .int 0, .int 0, .int 0, .int 0])), (q_14, .inr (3, [.int 10, .int 10, .int 0, .int 0, .int 0, .int 0, .int 0, .int 0, .int 0, .int 0, .int 0])), (q_15, .inr (3, [.int 10, .int 10, .int 0, .int 0, .int 0, .int 0, .int 0, .int 0, .int 0, .int 0, .int 0])), (q_16, .inr (3, [.int 10, .int 10, .int 0, .int 0, .int 0, .int 0, .int 0, .int 0, .int 0, .int 0, .int 0]))] H := hP
  have hD : va_D Ar [(h0, .inr (6, [.int 10, .int 10, .int 0, .int 0, .int 0, .int 0, .int 0, .ref q_1, .ref q_3, .int 0, .int 0, .int 0, .int (-1), .null, .ref q_5, .int 0, .ref q_7, .int 0])), (q_1, .inl (c_2, 12, .inl (fun _ => 0))), (q_3, .inl (c_4, 12, .inl (fun _ => 0))), (q_5, .inl (c_6, 40, .inl (fun _ => 0))), (q_7, .inl (c_8, 10, .inr (.inr (.inr (.inr (va_up (va_up (va_up (va_up (va_up (va_up (va_up (va_up (fun _ => none) 0 (some q_9)) 1 (some q_10)) 2 (some q_11)) 3 (some q_12)) 4 (some q_13)) 5 (some q_14)) 6 (some q_15)) 7 (some q_16))))))), (q_9, .inr (3, [.int 10, .int 10, .int 0, .int 0, .int 0, .int 0, .int 0, .int 0, .int 0, .int 0, .int 0])), (q_10, .inr (3, [.int 10, .int 10, .int 0, .int 0, .int 0, .int 0, .int 0, .int 0, .int 0, .int 0, .int 0])), (q_11, .inr (3, [.int 10, .int 10, .int 0, .int 0, .int 0, .int 0, .int 0, .int 0, .int 0, .int 0, .int 0])), (q_12, .inr (3, [.int 10, .int 10, .int 0, .int 0, .int 0, .int 0, .int 0, .int 0, .int 0, .int 0, .int 0])), (q_13, .inr (3, [.int 10, .int 10, .int 0, .int 0, .int 0, .int 0, .int 0, .int 0, .int 0, .int 0, .int 0])), (q_14, .inr (3, [.int 10, .int 10, .int 0, .int 0, .int 0, .int 0, .int 0, .int 0, .int 0, .int 0, .int 0])), (q_15, .inr (3, [.int 10, .int 10, .int 0, .int 0, .int 0, .int 0, .int 0, .int 0, .int 0, .int 0, .int 0])), (q_16, .inr (3, [.int 10, .int 10, .int 0, .int 0, .int 0, .int 0, .int 0, .int 0, .int 0, .int 0, .int 0]))] := hD
  refine lv_iinc (v := 8) (k := 0) (lv' := [(1, .int 8), (0, .ref h0)]) hx hb dX6_init_66 hl rfl (by decide) (by decide) rfl (fun ls hl => ?_)
  refine lv_goto (tgt := 44) hx hb dX6_init_69 (by decide) ?_
  refine lv_iload_n hx hb dX6_init_44 rfl (lv_at hl 0 rfl) ?_
  refine lv_aload_n hx hb dX6_init_45 rfl (lv_at hl 1 rfl) ?_
  refine va_get (D := D) (ci := 6) (v := .ref q_7) (C := RX6) (T := TX6) (N := 18) hx hb hts inA6 hown hK hP 0 rfl rfl 16 (by decide) (hts _ we_138) (fun _ h9 => h9) rfl dX6_init_46 ?_
  refine va_alen (v := 10) hx hb hK hP 4 3 rfl rfl (show Int32.ofNat 10 = 10 by decide +kernel) dX6_init_49 ?_
  refine lv_icmp_ge (tgt := 72) hx hb dX6_init_50 (by decide) (fun c_ => absurd c_ (by decide)) (fun c_ => ?_)
  refine lv_aload_n hx hb dX6_init_53 rfl (lv_at hl 1 rfl) ?_
  refine va_get (D := D) (ci := 6) (v := .ref q_7) (C := RX6) (T := TX6) (N := 18) hx hb hts inA6 hown hK hP 0 rfl rfl 16 (by decide) (hts _ we_138) (fun _ h9 => h9) rfl dX6_init_54 ?_
  refine lv_iload_n hx hb dX6_init_57 rfl (lv_at hl 0 rfl) ?_
  refine va_new (ci := 3) (fs := [.int 0, .int 0, .int 0, .int 0, .int 0, .int 0, .int 0, .int 0, .int 0, .int 0, .int 0]) (C := RX3) (T := TX3) (N := 11) hx hb hts inA3 tyX3 tyX3_ok hown (hts _ we_36) (hts _ we_38) (hts _ we_4) hK hP hD hS hA rfl df_3 (Nat.le_of_ble_eq_true rfl) (Nat.le_of_ble_eq_true rfl) dX6_init_58 (fun q_17 H hP hD hS => ?_)
  have hP : va_P D vwCl [(h0, .inr (6, [.int 10, .int 10, .int 0, .int 0, .int 0, .int 0, .int 0, .ref q_1, .ref q_3, .int 0, .int 0, .int 0, .int (-1), .null, .ref q_5, .int 0, .ref q_7, .int 0])), (q_1, .inl (c_2, 12, .inl (fun _ => 0))), (q_3, .inl (c_4, 12, .inl (fun _ => 0))), (q_5, .inl (c_6, 40, .inl (fun _ => 0))), (q_7, .inl (c_8, 10, .inr (.inr (.inr (.inr (va_up (va_up (va_up (va_up (va_up (va_up (va_up (va_up (fun _ => none) 0 (some q_9)) 1 (some q_10)) 2 (some q_11)) 3 (some q_12)) 4 (some q_13)) 5 (some q_14)) 6 (some q_15)) 7 (some q_16))))))), (q_9, .inr (3, [.int 10, .int 10, .int 0, .int 0, .int 0, .int 0, .int 0, .int 0, .int 0, .int 0, .int 0])), (q_10, .inr (3, [.int 10, .int 10, .int 0, .int 0, .int 0, .int 0, .int 0, .int 0, .int 0, .int 0, .int 0])), (q_11, .inr (3, [.int 10, .int 10, .int 0, .int 0, .int 0, .int 0, .int 0, .int 0, .int 0, .int 0, .int 0])), (q_12, .inr (3, [.int 10, .int 10, .int 0, .int 0, .int 0, .int 0, .int 0, .int 0, .int 0, .int 0, .int 0])), (q_13, .inr (3, [.int 10, .int 10, .int 0, .int 0, .int 0, .int 0, .int 0, .int 0, .int 0, .int 0, .int 0])), (q_14, .inr (3, [.int 10, .int 10, .int 0, .int 0, .int 0, .int 0, .int 0, .int 0, .int 0, .int 0, .int 0])), (q_15, .inr (3, [.int 10, .int 10, .int 0, .int 0, .int 0, .int 0, .int 0, .int 0, .int 0, .int 0, .int 0])), (q_16, .inr (3, [.int 10, .int 10, .int 0, .int 0, .int 0, .int 0, .int 0, .int 0, .int 0, .int 0, .int 0])), (q_17, .inr (3, [.int 0, .int 0, .int 0, .int 0, .int 0, .int 0, .int 0, .int 0, .int 0, .int 0, .int 0]))] H := hP
  have hD : va_D Ar [(h0, .inr (6, [.int 10, .int 10, .int 0, .int 0, .int 0, .int 0, .int 0, .ref q_1, .ref q_3, .int 0, .int 0, .int 0, .int (-1), .null, .ref q_5, .int 0, .ref q_7, .int 0])), (q_1, .inl (c_2, 12, .inl (fun _ => 0))), (q_3, .inl (c_4, 12, .inl (fun _ => 0))), (q_5, .inl (c_6, 40, .inl (fun _ => 0))), (q_7, .inl (c_8, 10, .inr (.inr (.inr (.inr (va_up (va_up (va_up (va_up (va_up (va_up (va_up (va_up (fun _ => none) 0 (some q_9)) 1 (some q_10)) 2 (some q_11)) 3 (some q_12)) 4 (some q_13)) 5 (some q_14)) 6 (some q_15)) 7 (some q_16))))))), (q_9, .inr (3, [.int 10, .int 10, .int 0, .int 0, .int 0, .int 0, .int 0, .int 0, .int 0, .int 0, .int 0])), (q_10, .inr (3, [.int 10, .int 10, .int 0, .int 0, .int 0, .int 0, .int 0, .int 0, .int 0, .int 0, .int 0])), (q_11, .inr (3, [.int 10, .int 10, .int 0, .int 0, .int 0, .int 0, .int 0, .int 0, .int 0, .int 0, .int 0])), (q_12, .inr (3, [.int 10, .int 10, .int 0, .int 0, .int 0, .int 0, .int 0, .int 0, .int 0, .int 0, .int 0])), (q_13, .inr (3, [.int 10, .int 10, .int 0, .int 0, .int 0, .int 0, .int 0, .int 0, .int 0, .int 0, .int 0])), (q_14, .inr (3, [.int 10, .int 10, .int 0, .int 0, .int 0, .int 0, .int 0, .int 0, .int 0, .int 0, .int 0])), (q_15, .inr (3, [.int 10, .int 10, .int 0, .int 0, .int 0, .int 0, .int 0, .int 0, .int 0, .int 0, .int 0])), (q_16, .inr (3, [.int 10, .int 10, .int 0, .int 0, .int 0, .int 0, .int 0, .int 0, .int 0, .int 0, .int 0])), (q_17, .inr (3, [.int 0, .int 0, .int 0, .int 0, .int 0, .int 0, .int 0, .int 0, .int 0, .int 0, .int 0]))] := hD
  refine lv_dup hx hb dX6_init_61 rfl ?_
  have hPc := hP.sub (ws' := [(q_17, .inr (3, [.int 0, .int 0, .int 0, .int 0, .int 0, .int 0, .int 0, .int 0, .int 0, .int 0, .int 0]))]) [13] rfl
  have hDc := hD.sub (ws' := [(q_17, .inr (3, [.int 0, .int 0, .int 0, .int 0, .int 0, .int 0, .int 0, .int 0, .int 0, .int 0, .int 0]))]) [13] (by decide) rfl
  have hKc := hK.sub (tys' := []) [] rfl
  have hFc := va_free (wc := [(q_17, .inr (3, [.int 0, .int 0, .int 0, .int 0, .int 0, .int 0, .int 0, .int 0, .int 0, .int 0, .int 0]))]) hD hS hA [13] rfl
  refine va_callv (va_runIN (As := []) (rest := [.ref q_17, .int 8, .ref q_7]) ⟨hx, hb, hml, hown, hts⟩ (cX3_init_3 l D q_17 H.size) ⟨va_cnB 0 hts (good_A we_41) rfl rfl rfl (hSD.1 (RX6, 31, yX3_init, "DownByAHair") (by decide +kernel)) (hts _ we_4) (by decide +kernel) ⟨Nat.le_of_ble_eq_true rfl, Nat.le_of_ble_eq_true rfl⟩, rfl, hts _ we_40⟩ ⟨PcC.blind, fun U hU hW => ⟨rfl, by rw [hU], by rw [hU]; exact hPc, va_K.moved hW.alike hKc, hDc.weaken (fun _ _ _ _ => trivial), hSD.warm hW⟩⟩ rfl rfl hl.1 rfl (lv_room (Nat.le_of_ble_eq_true rfl)) dX6_init_62 ⟨Nat.le_of_ble_eq_true rfl, Nat.le_of_ble_eq_true rfl⟩) hS (fun q _ h => hFc q h) hFc (fun u_ t_ H1 locs ht hvm hw hB hz1 hk1 hS => ?_)
  obtain ⟨hP1, hK1, hD1⟩ := hB
  rw [ht] at hP1
  have hK1 := va_K.moved hvm.symm hK1
  obtain ⟨hP, hD⟩ := va_join (wr := [(h0, .inr (6, [.int 10, .int 10, .int 0, .int 0, .int 0, .int 0, .int 0, .ref q_1, .ref q_3, .int 0, .int 0, .int 0, .int (-1), .null, .ref q_5, .int 0, .ref q_7, .int 0])), (q_1, .inl (c_2, 12, .inl (fun _ => 0))), (q_3, .inl (c_4, 12, .inl (fun _ => 0))), (q_5, .inl (c_6, 40, .inl (fun _ => 0))), (q_7, .inl (c_8, 10, .inr (.inr (.inr (.inr (va_up (va_up (va_up (va_up (va_up (va_up (va_up (va_up (fun _ => none) 0 (some q_9)) 1 (some q_10)) 2 (some q_11)) 3 (some q_12)) 4 (some q_13)) 5 (some q_14)) 6 (some q_15)) 7 (some q_16))))))), (q_9, .inr (3, [.int 10, .int 10, .int 0, .int 0, .int 0, .int 0, .int 0, .int 0, .int 0, .int 0, .int 0])), (q_10, .inr (3, [.int 10, .int 10, .int 0, .int 0, .int 0, .int 0, .int 0, .int 0, .int 0, .int 0, .int 0])), (q_11, .inr (3, [.int 10, .int 10, .int 0, .int 0, .int 0, .int 0, .int 0, .int 0, .int 0, .int 0, .int 0])), (q_12, .inr (3, [.int 10, .int 10, .int 0, .int 0, .int 0, .int 0, .int 0, .int 0, .int 0, .int 0, .int 0])), (q_13, .inr (3, [.int 10, .int 10, .int 0, .int 0, .int 0, .int 0, .int 0, .int 0, .int 0, .int 0, .int 0])), (q_14, .inr (3, [.int 10, .int 10, .int 0, .int 0, .int 0, .int 0, .int 0, .int 0, .int 0, .int 0, .int 0])), (q_15, .inr (3, [.int 10, .int 10, .int 0, .int 0, .int 0, .int 0, .int 0, .int 0, .int 0, .int 0, .int 0])), (q_16, .inr (3, [.int 10, .int 10, .int 0, .int 0, .int 0, .int 0, .int 0, .int 0, .int 0, .int 0, .int 0]))]) (w1 := [(q_17, .inr (3, [.int 10, .int 10, .int 0, .int 0, .int 0, .int 0, .int 0, .int 0, .int 0, .int 0, .int 0]))]) hP hD [13] [0, 1, 2, 3, 4, 5, 6, 7, 8, 9, 10, 11, 12] rfl rfl (by decide) (by decide) hk1 hFc hP1 hD1
  have hK := hK.app hK1
  generalize H1 = H at hP hS ⊢
  have hP : va_P D vwCl [(h0, .inr (6, [.int 10, .int 10, .int 0, .int 0, .int 0, .int 0, .int 0, .ref q_1, .ref q_3, .int 0, .int 0, .int 0, .int (-1), .null, .ref q_5, .int 0, .ref q_7, .int 0])), (q_1, .inl (c_2, 12, .inl (fun _ => 0))), (q_3, .inl (c_4, 12, .inl (fun _ => 0))), (q_5, .inl (c_6, 40, .inl (fun _ => 0))), (q_7, .inl (c_8, 10, .inr (.inr (.inr (.inr (va_up (va_up (va_up (va_up (va_up (va_up (va_up (va_up (fun _ => none) 0 (some q_9)) 1 (some q_10)) 2 (some q_11)) 3 (some q_12)) 4 (some q_13)) 5 (some q_14)) 6 (some q_15)) 7 (some q_16))))))), (q_9, .inr (3, [.int 10, .int 10, .int 0, .int 0, .int 0, .int 0, .int 0, .int 0, .int 0, .int 0, .int 0])), (q_10, .inr (3, [.int 10, .int 10, .int 0, .int 0, .int 0, .int 0, .int 0, .int 0, .int 0, .int 0, .int 0])), (q_11, .inr (3, [.int 10, .int 10, .int 0, .int 0, .int 0, .int 0, .int 0, .int 0, .int 0, .int 0, .int 0])), (q_12, .inr (3, [.int 10, .int 10, .int 0, .int 0, .int 0, .int 0, .int 0, .int 0, .int 0, .int 0, .int 0])), (q_13, .inr (3, [.int 10, .int 10, .int 0, .int 0, .int 0, .int 0, .int 0, .int 0, .int 0, .int 0, .int 0])), (q_14, .inr (3, [.int 10, .int 10, .int 0, .int 0, .int 0, .int 0, .int 0, .int 0, .int 0, .int 0, .int 0])), (q_15, .inr (3, [.int 10, .int 10, .int 0, .int 0, .int 0, .int 0, .int 0, .int 0, .int 0, .int 0, .int 0])), (q_16, .inr (3, [.int 10, .int 10, .int 0, .int 0, .int 0, .int 0, .int 0, .int 0, .int 0, .int 0, .int 0])), (q_17, .inr (3, [.int 10, .int 10, .int 0, .int 0, .int 0, .int 0, .int 0, .int 0, .int 0, .int 0, .int 0]))] H := hP
  have hD : va_D Ar [(h0, .inr (6, [.int 10, .int 10, .int 0, .int 0, .int 0, .int 0, .int 0, .ref q_1, .ref q_3, .int 0, .int 0, .int 0, .int (-1), .null, .ref q_5, .int 0, .ref q_7, .int 0])), (q_1, .inl (c_2, 12, .inl (fun _ => 0))), (q_3, .inl (c_4, 12, .inl (fun _ => 0))), (q_5, .inl (c_6, 40, .inl (fun _ => 0))), (q_7, .inl (c_8, 10, .inr (.inr (.inr (.inr (va_up (va_up (va_up (va_up (va_up (va_up (va_up (va_up (fun _ => none) 0 (some q_9)) 1 (some q_10)) 2 (some q_11)) 3 (some q_12)) 4 (some q_13)) 5 (some q_14)) 6 (some q_15)) 7 (some q_16))))))), (q_9, .inr (3, [.int 10, .int 10, .int 0, .int 0, .int 0, .int 0, .int 0, .int 0, .int 0, .int 0, .int 0])), (q_10, .inr (3, [.int 10, .int 10, .int 0, .int 0, .int 0, .int 0, .int 0, .int 0, .int 0, .int 0, .int 0])), (q_11, .inr (3, [.int 10, .int 10, .int 0, .int 0, .int 0, .int 0, .int 0, .int 0, .int 0, .int 0, .int 0])), (q_12, .inr (3, [.int 10, .int 10, .int 0, .int 0, .int 0, .int 0, .int 0, .int 0, .int 0, .int 0, .int 0])), (q_13, .inr (3, [.int 10, .int 10, .int 0, .int 0, .int 0, .int 0, .int 0, .int 0, .int 0, .int 0, .int 0])), (q_14, .inr (3, [.int 10, .int 10, .int 0, .int 0, .int 0, .int 0, .int 0, .int 0, .int 0, .int 0, .int 0])), (q_15, .inr (3, [.int 10, .int 10, .int 0, .int 0, .int 0, .int 0, .int 0, .int 0, .int 0, .int 0, .int 0])), (q_16, .inr (3, [.int 10, .int 10, .int 0, .int 0, .int 0, .int 0, .int 0, .int 0, .int 0, .int 0, .int 0])), (q_17, .inr (3, [.int 10, .int 10, .int 0, .int 0, .int 0, .int 0, .int 0, .int 0, .int 0, .int 0, .int 0]))] := hD
  have hK : va_K D vwCl [(c_2, .int), (c_4, .int), (c_6, .int), (c_8, .object "DownByAHair$Reading")] s := hK
  refine va_astq (r := (RX3, TX3, 11)) (i := 8) hx hb hK hP hD hS 4 3 13 3 rfl rfl rfl rfl (inb_in (by decide +kernel)) dX6_init_65 (fun H locs hP hD hS => ?_)
  have hP : va_P D vwCl [(h0, .inr (6, [.int 10, .int 10, .int 0, .int 0, .int 0, .int 0, .int 0, .ref q_1, .ref q_3, .int 0, .int 0, .int 0, .int (-1), .null, .ref q_5, .int 0, .ref q_7, .int 0])), (q_1, .inl (c_2, 12, .inl (fun _ => 0))), (q_3, .inl (c_4, 12, .inl (fun _ => 0))), (q_5, .inl (c_6, 40, .inl (fun _ => 0))), (q_7, .inl (c_8, 10, .inr (.inr (.inr (.inr (va_up (va_up (va_up (va_up (va_up (va_up (va_up (va_up (va_up (fun _ => none) 0 (some q_9)) 1 (some q_10)) 2 (some q_11)) 3 (some q_12)) 4 (some q_13)) 5 (some q_14)) 6 (some q_15)) 7 (some q_16)) 8 (some q_17))))))), (q_9, .inr (3, [.int 10, .int 10, .int 0, .int 0, .int 0, .int 0, .int 0, .int 0, .int 0, .int 0, .int 0])), (q_10, .inr (3, [.int 10, .int 10, .int 0, .int 0, .int 0, .int 0, .int 0, .int 0, .int 0, .int 0, .int 0])), (q_11, .inr (3, [.int 10, .int 10, .int 0, .int 0, .int 0, .int 0, .int 0, .int 0, .int 0, .int 0, .int 0])), (q_12, .inr (3, [.int 10, .int 10, .int 0, .int 0, .int 0, .int 0, .int 0, .int 0, .int 0, .int 0, .int 0])), (q_13, .inr (3, [.int 10, .int 10, .int 0, .int 0, .int 0, .int 0, .int 0, .int 0, .int 0, .int 0, .int 0])), (q_14, .inr (3, [.int 10, .int 10, .int 0, .int 0, .int 0, .int 0, .int 0, .int 0, .int 0, .int 0, .int 0])), (q_15, .inr (3, [.int 10, .int 10, .int 0, .int 0, .int 0, .int 0, .int 0, .int 0, .int 0, .int 0, .int 0])), (q_16, .inr (3, [.int 10, .int 10, .int 0, .int 0, .int 0, .int 0, .int 0, .int 0, .int 0, .int 0, .int 0])), (q_17, .inr (3, [.int 10, .int 10, .int 0, .int 0, .int 0, .int 0, .int 0, .int 0, .int 0, .int 0, .int 0]))] H := hP
  have hD : va_D Ar [(h0, .inr (6, [.int 10, .int 10, .int 0, .int 0, .int 0, .int 0, .int 0, .ref q_1, .ref q_3, .int 0, .int 0, .int 0, .int (-1), .null, .ref q_5, .int 0, .ref q_7, .int 0])), (q_1, .inl (c_2, 12, .inl (fun _ => 0))), (q_3, .inl (c_4, 12, .inl (fun _ => 0))), (q_5, .inl (c_6, 40, .inl (fun _ => 0))), (q_7, .inl (c_8, 10, .inr (.inr (.inr (.inr (va_up (va_up (va_up (va_up (va_up (va_up (va_up (va_up (va_up (fun _ => none) 0 (some q_9)) 1 (some q_10)) 2 (some q_11)) 3 (some q_12)) 4 (some q_13)) 5 (some q_14)) 6 (some q_15)) 7 (some q_16)) 8 (some q_17))))))), (q_9, .inr (3, [.int 10, .int 10, .int 0, .int 0, .int 0, .int 0, .int 0, .int 0, .int 0, .int 0, .int 0])), (q_10, .inr (3, [.int 10, .int 10, .int 0, .int 0, .int 0, .int 0, .int 0, .int 0, .int 0, .int 0, .int 0])), (q_11, .inr (3, [.int 10, .int 10, .int 0, .int 0, .int 0, .int 0, .int 0, .int 0, .int 0, .int 0, .int 0])), (q_12, .inr (3, [.int 10, .int 10, .int 0, .int 0, .int 0, .int 0, .int 0, .int 0, .int 0, .int 0, .int 0])), (q_13, .inr (3, [.int 10, .int 10, .int 0, .int 0, .int 0, .int 0, .int 0, .int 0, .int 0, .int 0, .int 0])), (q_14, .inr (3, [.int 10, .int 10, .int 0, .int 0, .int 0, .int 0, .int 0, .int 0, .int 0, .int 0, .int 0])), (q_15, .inr (3, [.int 10, .int 10, .int 0, .int 0, .int 0, .int 0, .int 0, .int 0, .int 0, .int 0, .int 0])), (q_16, .inr (3, [.int 10, .int 10, .int 0, .int 0, .int 0, .int 0, .int 0, .int 0, .int 0, .int 0, .int 0])), (q_17, .inr (3, [.int 10, .int 10, .int 0, .int 0, .int 0, .int 0, .int 0, .int 0, .int 0, .int 0, .int 0]))] := hD
  refine lv_iinc (v := 9) (k := 0) (lv' := [(1, .int 9), (0, .ref h0)]) hx hb dX6_init_66 hl rfl (by decide) (by decide) rfl (fun ls hl => ?_)
  refine lv_goto (tgt := 44) hx hb dX6_init_69 (by decide) ?_
  refine lv_iload_n hx hb dX6_init_44 rfl (lv_at hl 0 rfl) ?_
  refine lv_aload_n hx hb dX6_init_45 rfl (lv_at hl 1 rfl) ?_
  refine va_get (D := D) (ci := 6) (v := .ref q_7) (C := RX6) (T := TX6) (N := 18) hx hb hts inA6 hown hK hP 0 rfl rfl 16 (by decide) (hts _ we_138) (fun _ h9 => h9) rfl dX6_init_46 ?_
  refine va_alen (v := 10) hx hb hK hP 4 3 rfl rfl (show Int32.ofNat 10 = 10 by decide +kernel) dX6_init_49 ?_
  refine lv_icmp_ge (tgt := 72) hx hb dX6_init_50 (by decide) (fun c_ => absurd c_ (by decide)) (fun c_ => ?_)
  refine lv_aload_n hx hb dX6_init_53 rfl (lv_at hl 1 rfl) ?_
  refine va_get (D := D) (ci := 6) (v := .ref q_7) (C := RX6) (T := TX6) (N := 18) hx hb hts inA6 hown hK hP 0 rfl rfl 16 (by decide) (hts _ we_138) (fun _ h9 => h9) rfl dX6_init_54 ?_
  refine lv_iload_n hx hb dX6_init_57 rfl (lv_at hl 0 rfl) ?_
  refine va_new (ci := 3) (fs := [.int 0, .int 0, .int 0, .int 0, .int 0, .int 0, .int 0, .int 0, .int 0, .int 0, .int 0]) (C := RX3) (T := TX3) (N := 11) hx hb hts inA3 tyX3 tyX3_ok hown (hts _ we_36) (hts _ we_38) (hts _ we_4) hK hP hD hS hA rfl df_3 (Nat.le_of_ble_eq_true rfl) (Nat.le_of_ble_eq_true rfl) dX6_init_58 (fun q_18 H hP hD hS => ?_)
  have hP : va_P D vwCl [(h0, .inr (6, [.int 10, .int 10, .int 0, .int 0, .int 0, .int 0, .int 0, .ref q_1, .ref q_3, .int 0, .int 0, .int 0, .int (-1), .null, .ref q_5, .int 0, .ref q_7, .int 0])), (q_1, .inl (c_2, 12, .inl (fun _ => 0))), (q_3, .inl (c_4, 12, .inl (fun _ => 0))), (q_5, .inl (c_6, 40, .inl (fun _ => 0))), (q_7, .inl (c_8, 10, .inr (.inr (.inr (.inr (va_up (va_up (va_up (va_up (va_up (va_up (va_up (va_up (va_up (fun _ => none) 0 (some q_9)) 1 (some q_10)) 2 (some q_11)) 3 (some q_12)) 4 (some q_13)) 5 (some q_14)) 6 (some q_15)) 7 (some q_16)) 8 (some q_17))))))), (q_9, .inr (3, [.int 10, .int 10, .int 0, .int 0, .int 0, .int 0, .int 0, .int 0, .int 0, .int 0, .int 0])), (q_10, .inr (3, [.int 10, .int 10, .int 0, .int 0, .int 0, .int 0, .int 0, .int 0, .int 0, .int 0, .int 0])), (q_11, .inr (3, [.int 10, .int 10, .int 0, .int 0, .int 0, .int 0, .int 0, .int 0, .int 0, .int 0, .int 0])), (q_12, .inr (3, [.int 10, .int 10, .int 0, .int 0, .int 0, .int 0, .int 0, .int 0, .int 0, .int 0, .int 0])), (q_13, .inr (3, [.int 10, .int 10, .int 0, .int 0, .int 0, .int 0, .int 0, .int 0, .int 0, .int 0, .int 0])), (q_14, .inr (3, [.int 10, .int 10, .int 0, .int 0, .int 0, .int 0, .int 0, .int 0, .int 0, .int 0, .int 0])), (q_15, .inr (3, [.int 10, .int 10, .int 0, .int 0, .int 0, .int 0, .int 0, .int 0, .int 0, .int 0, .int 0])), (q_16, .inr (3, [.int 10, .int 10, .int 0, .int 0, .int 0, .int 0, .int 0, .int 0, .int 0, .int 0, .int 0])), (q_17, .inr (3, [.int 10, .int 10, .int 0, .int 0, .int 0, .int 0, .int 0, .int 0, .int 0, .int 0, .int 0])), (q_18, .inr (3, [.int 0, .int 0, .int 0, .int 0, .int 0, .int 0, .int 0, .int 0, .int 0, .int 0, .int 0]))] H := hP
  have hD : va_D Ar [(h0, .inr (6, [.int 10, .int 10, .int 0, .int 0, .int 0, .int 0, .int 0, .ref q_1, .ref q_3, .int 0, .int 0, .int 0, .int (-1), .null, .ref q_5, .int 0, .ref q_7, .int 0])), (q_1, .inl (c_2, 12, .inl (fun _ => 0))), (q_3, .inl (c_4, 12, .inl (fun _ => 0))), (q_5, .inl (c_6, 40, .inl (fun _ => 0))), (q_7, .inl (c_8, 10, .inr (.inr (.inr (.inr (va_up (va_up (va_up (va_up (va_up (va_up (va_up (va_up (va_up (fun _ => none) 0 (some q_9)) 1 (some q_10)) 2 (some q_11)) 3 (some q_12)) 4 (some q_13)) 5 (some q_14)) 6 (some q_15)) 7 (some q_16)) 8 (some q_17))))))), (q_9, .inr (3, [.int 10, .int 10, .int 0, .int 0, .int 0, .int 0, .int 0, .int 0, .int 0, .int 0, .int 0])), (q_10, .inr (3, [.int 10, .int 10, .int 0, .int 0, .int 0, .int 0, .int 0, .int 0, .int 0, .int 0, .int 0])), (q_11, .inr (3, [.int 10, .int 10, .int 0, .int 0, .int 0, .int 0, .int 0, .int 0, .int 0, .int 0, .int 0])), (q_12, .inr (3, [.int 10, .int 10, .int 0, .int 0, .int 0, .int 0, .int 0, .int 0, .int 0, .int 0, .int 0])), (q_13, .inr (3, [.int 10, .int 10, .int 0, .int 0, .int 0, .int 0, .int 0, .int 0, .int 0, .int 0, .int 0])), (q_14, .inr (3, [.int 10, .int 10, .int 0, .int 0, .int 0, .int 0, .int 0, .int 0, .int 0, .int 0, .int 0])), (q_15, .inr (3, [.int 10, .int 10, .int 0, .int 0, .int 0, .int 0, .int 0, .int 0, .int 0, .int 0, .int 0])), (q_16, .inr (3, [.int 10, .int 10, .int 0, .int 0, .int 0, .int 0, .int 0, .int 0, .int 0, .int 0, .int 0])), (q_17, .inr (3, [.int 10, .int 10, .int 0, .int 0, .int 0, .int 0, .int 0, .int 0, .int 0, .int 0, .int 0])), (q_18, .inr (3, [.int 0, .int 0, .int 0, .int 0, .int 0, .int 0, .int 0, .int 0, .int 0, .int 0, .int 0]))] := hD
  refine lv_dup hx hb dX6_init_61 rfl ?_
  have hPc := hP.sub (ws' := [(q_18, .inr (3, [.int 0, .int 0, .int 0, .int 0, .int 0, .int 0, .int 0, .int 0, .int 0, .int 0, .int 0]))]) [14] rfl
  have hDc := hD.sub (ws' := [(q_18, .inr (3, [.int 0, .int 0, .int 0, .int 0, .int 0, .int 0, .int 0, .int 0, .int 0, .int 0, .int 0]))]) [14] (by decide) rfl
  have hKc := hK.sub (tys' := []) [] rfl
  have hFc := va_free (wc := [(q_18, .inr (3, [.int 0, .int 0, .int 0, .int 0, .int 0, .int 0, .int 0, .int 0, .int 0, .int 0, .int 0]))]) hD hS hA [14] rfl
  refine va_callv (va_runIN (As := []) (rest := [.ref q_18, .int 9, .ref q_7]) ⟨hx, hb, hml, hown, hts⟩ (cX3_init_3 l D q_18 H.size) ⟨va_cnB 0 hts (good_A we_41) rfl rfl rfl (hSD.1 (RX6, 31, yX3_init, "DownByAHair") (by decide +kernel)) (hts _ we_4) (by decide +kernel) ⟨Nat.le_of_ble_eq_true rfl, Nat.le_of_ble_eq_true rfl⟩, rfl, hts _ we_40⟩ ⟨PcC.blind, fun U hU hW => ⟨rfl, by rw [hU], by rw [hU]; exact hPc, va_K.moved hW.alike hKc, hDc.weaken (fun _ _ _ _ => trivial), hSD.warm hW⟩⟩ rfl rfl hl.1 rfl (lv_room (Nat.le_of_ble_eq_true rfl)) dX6_init_62 ⟨Nat.le_of_ble_eq_true rfl, Nat.le_of_ble_eq_true rfl⟩) hS (fun q _ h => hFc q h) hFc (fun u_ t_ H1 locs ht hvm hw hB hz1 hk1 hS => ?_)
  obtain ⟨hP1, hK1, hD1⟩ := hB
  rw [ht] at hP1
  have hK1 := va_K.moved hvm.symm hK1
  obtain ⟨hP, hD⟩ := va_join (wr := [(h0, .inr (6, [.int 10, .int 10, .int 0, .int 0, .int 0, .int 0, .int 0, .ref q_1, .ref q_3, .int 0, .int 0, .int 0, .int (-1), .null, .ref q_5, .int 0, .ref q_7, .int 0])), (q_1, .inl (c_2, 12, .inl (fun _ => 0))), (q_3, .inl (c_4, 12, .inl (fun _ => 0))), (q_5, .inl (c_6, 40, .inl (fun _ => 0))), (q_7, .inl (c_8, 10, .inr (.inr (.inr (.inr (va_up (va_up (va_up (va_up (va_up (va_up (va_up (va_up (va_up (fun _ => none) 0 (some q_9)) 1 (some q_10)) 2 (some q_11)) 3 (some q_12)) 4 (some q_13)) 5 (some q_14)) 6 (some q_15)) 7 (some q_16)) 8 (some q_17))))))), (q_9, .inr (3, [.int 10, .int 10, .int 0, .int 0, .int 0, .int 0, .int 0, .int 0, .int 0, .int 0, .int 0])), (q_10, .inr (3, [.int 10, .int 10, .int 0, .int 0, .int 0, .int 0, .int 0, .int 0, .int 0, .int 0, .int 0])), (q_11, .inr (3, [.int 10, .int 10, .int 0, .int 0, .int 0, .int 0, .int 0, .int 0, .int 0, .int 0, .int 0])), (q_12, .inr (3, [.int 10, .int 10, .int 0, .int 0, .int 0, .int 0, .int 0, .int 0, .int 0, .int 0, .int 0])), (q_13, .inr (3, [.int 10, .int 10, .int 0, .int 0, .int 0, .int 0, .int 0, .int 0, .int 0, .int 0, .int 0])), (q_14, .inr (3, [.int 10, .int 10, .int 0, .int 0, .int 0, .int 0, .int 0, .int 0, .int 0, .int 0, .int 0])), (q_15, .inr (3, [.int 10, .int 10, .int 0, .int 0, .int 0, .int 0, .int 0, .int 0, .int 0, .int 0, .int 0])), (q_16, .inr (3, [.int 10, .int 10, .int 0, .int 0, .int 0, .int 0, .int 0, .int 0, .int 0, .int 0, .int 0])), (q_17, .inr (3, [.int 10, .int 10, .int 0, .int 0, .int 0, .int 0, .int 0, .int 0, .int 0, .int 0, .int 0]))]) (w1 := [(q_18, .inr (3, [.int 10, .int 10, .int 0, .int 0, .int 0, .int 0, .int 0, .int 0, .int 0, .int 0, .int 0]))]) hP hD [14] [0, 1, 2, 3, 4, 5, 6, 7, 8, 9, 10, 11, 12, 13] rfl rfl (by decide) (by decide) hk1 hFc hP1 hD1
  have hK := hK.app hK1
  generalize H1 = H at hP hS ⊢
  have hP : va_P D vwCl [(h0, .inr (6, [.int 10, .int 10, .int 0, .int 0, .int 0, .int 0, .int 0, .ref q_1, .ref q_3, .int 0, .int 0, .int 0, .int (-1), .null, .ref q_5, .int 0, .ref q_7, .int 0])), (q_1, .inl (c_2, 12, .inl (fun _ => 0))), (q_3, .inl (c_4, 12, .inl (fun _ => 0))), (q_5, .inl (c_6, 40, .inl (fun _ => 0))), (q_7, .inl (c_8, 10, .inr (.inr (.inr (.inr (va_up (va_up (va_up (va_up (va_up (va_up (va_up (va_up (va_up (fun _ => none) 0 (some q_9)) 1 (some q_10)) 2 (some q_11)) 3 (some q_12)) 4 (some q_13)) 5 (some q_14)) 6 (some q_15)) 7 (some q_16)) 8 (some q_17))))))), (q_9, .inr (3, [.int 10, .int 10, .int 0, .int 0, .int 0, .int 0, .int 0, .int 0, .int 0, .int 0, .int 0])), (q_10, .inr (3, [.int 10, .int 10, .int 0, .int 0, .int 0, .int 0, .int 0, .int 0, .int 0, .int 0, .int 0])), (q_11, .inr (3, [.int 10, .int 10, .int 0, .int 0, .int 0, .int 0, .int 0, .int 0, .int 0, .int 0, .int 0])), (q_12, .inr (3, [.int 10, .int 10, .int 0, .int 0, .int 0, .int 0, .int 0, .int 0, .int 0, .int 0, .int 0])), (q_13, .inr (3, [.int 10, .int 10, .int 0, .int 0, .int 0, .int 0, .int 0, .int 0, .int 0, .int 0, .int 0])), (q_14, .inr (3, [.int 10, .int 10, .int 0, .int 0, .int 0, .int 0, .int 0, .int 0, .int 0, .int 0, .int 0])), (q_15, .inr (3, [.int 10, .int 10, .int 0, .int 0, .int 0, .int 0, .int 0, .int 0, .int 0, .int 0, .int 0])), (q_16, .inr (3, [.int 10, .int 10, .int 0, .int 0, .int 0, .int 0, .int 0, .int 0, .int 0, .int 0, .int 0])), (q_17, .inr (3, [.int 10, .int 10, .int 0, .int 0, .int 0, .int 0, .int 0, .int 0, .int 0, .int 0, .int 0])), (q_18, .inr (3, [.int 10, .int 10, .int 0, .int 0, .int 0, .int 0, .int 0, .int 0, .int 0, .int 0, .int 0]))] H := hP
  have hD : va_D Ar [(h0, .inr (6, [.int 10, .int 10, .int 0, .int 0, .int 0, .int 0, .int 0, .ref q_1, .ref q_3, .int 0, .int 0, .int 0, .int (-1), .null, .ref q_5, .int 0, .ref q_7, .int 0])), (q_1, .inl (c_2, 12, .inl (fun _ => 0))), (q_3, .inl (c_4, 12, .inl (fun _ => 0))), (q_5, .inl (c_6, 40, .inl (fun _ => 0))), (q_7, .inl (c_8, 10, .inr (.inr (.inr (.inr (va_up (va_up (va_up (va_up (va_up (va_up (va_up (va_up (va_up (fun _ => none) 0 (some q_9)) 1 (some q_10)) 2 (some q_11)) 3 (some q_12)) 4 (some q_13)) 5 (some q_14)) 6 (some q_15)) 7 (some q_16)) 8 (some q_17))))))), (q_9, .inr (3, [.int 10, .int 10, .int 0, .int 0, .int 0, .int 0, .int 0, .int 0, .int 0, .int 0, .int 0])), (q_10, .inr (3, [.int 10, .int 10, .int 0, .int 0, .int 0, .int 0, .int 0, .int 0, .int 0, .int 0, .int 0])), (q_11, .inr (3, [.int 10, .int 10, .int 0, .int 0, .int 0, .int 0, .int 0, .int 0, .int 0, .int 0, .int 0])), (q_12, .inr (3, [.int 10, .int 10, .int 0, .int 0, .int 0, .int 0, .int 0, .int 0, .int 0, .int 0, .int 0])), (q_13, .inr (3, [.int 10, .int 10, .int 0, .int 0, .int 0, .int 0, .int 0, .int 0, .int 0, .int 0, .int 0])), (q_14, .inr (3, [.int 10, .int 10, .int 0, .int 0, .int 0, .int 0, .int 0, .int 0, .int 0, .int 0, .int 0])), (q_15, .inr (3, [.int 10, .int 10, .int 0, .int 0, .int 0, .int 0, .int 0, .int 0, .int 0, .int 0, .int 0])), (q_16, .inr (3, [.int 10, .int 10, .int 0, .int 0, .int 0, .int 0, .int 0, .int 0, .int 0, .int 0, .int 0])), (q_17, .inr (3, [.int 10, .int 10, .int 0, .int 0, .int 0, .int 0, .int 0, .int 0, .int 0, .int 0, .int 0])), (q_18, .inr (3, [.int 10, .int 10, .int 0, .int 0, .int 0, .int 0, .int 0, .int 0, .int 0, .int 0, .int 0]))] := hD
  have hK : va_K D vwCl [(c_2, .int), (c_4, .int), (c_6, .int), (c_8, .object "DownByAHair$Reading")] s := hK
  refine va_astq (r := (RX3, TX3, 11)) (i := 9) hx hb hK hP hD hS 4 3 14 3 rfl rfl rfl rfl (inb_in (by decide +kernel)) dX6_init_65 (fun H locs hP hD hS => ?_)
  have hP : va_P D vwCl [(h0, .inr (6, [.int 10, .int 10, .int 0, .int 0, .int 0, .int 0, .int 0, .ref q_1, .ref q_3, .int 0, .int 0, .int 0, .int (-1), .null, .ref q_5, .int 0, .ref q_7, .int 0])), (q_1, .inl (c_2, 12, .inl (fun _ => 0))), (q_3, .inl (c_4, 12, .inl (fun _ => 0))), (q_5, .inl (c_6, 40, .inl (fun _ => 0))), (q_7, .inl (c_8, 10, .inr (.inr (.inr (.inr (va_up (va_up (va_up (va_up (va_up (va_up (va_up (va_up (va_up (va_up (fun _ => none) 0 (some q_9)) 1 (some q_10)) 2 (some q_11)) 3 (some q_12)) 4 (some q_13)) 5 (some q_14)) 6 (some q_15)) 7 (some q_16)) 8 (some q_17)) 9 (some q_18))))))), (q_9, .inr (3, [.int 10, .int 10, .int 0, .int 0, .int 0, .int 0, .int 0, .int 0, .int 0, .int 0, .int 0])), (q_10, .inr (3, [.int 10, .int 10, .int 0, .int 0, .int 0, .int 0, .int 0, .int 0, .int 0, .int 0, .int 0])), (q_11, .inr (3, [.int 10, .int 10, .int 0, .int 0, .int 0, .int 0, .int 0, .int 0, .int 0, .int 0, .int 0])), (q_12, .inr (3, [.int 10, .int 10, .int 0, .int 0, .int 0, .int 0, .int 0, .int 0, .int 0, .int 0, .int 0])), (q_13, .inr (3, [.int 10, .int 10, .int 0, .int 0, .int 0, .int 0, .int 0, .int 0, .int 0, .int 0, .int 0])), (q_14, .inr (3, [.int 10, .int 10, .int 0, .int 0, .int 0, .int 0, .int 0, .int 0, .int 0, .int 0, .int 0])), (q_15, .inr (3, [.int 10, .int 10, .int 0, .int 0, .int 0, .int 0, .int 0, .int 0, .int 0, .int 0, .int 0])), (q_16, .inr (3, [.int 10, .int 10, .int 0, .int 0, .int 0, .int 0, .int 0, .int 0, .int 0, .int 0, .int 0])), (q_17, .inr (3, [.int 10, .int 10, .int 0, .int 0, .int 0, .int 0, .int 0, .int 0, .int 0, .int 0, .int 0])), (q_18, .inr (3, [.int 10, .int 10, .int 0, .int 0, .int 0, .int 0, .int 0, .int 0, .int 0, .int 0, .int 0]))] H := hP
  have hD : va_D Ar [(h0, .inr (6, [.int 10, .int 10, .int 0, .int 0, .int 0, .int 0, .int 0, .ref q_1, .ref q_3, .int 0, .int 0, .int 0, .int (-1), .null, .ref q_5, .int 0, .ref q_7, .int 0])), (q_1, .inl (c_2, 12, .inl (fun _ => 0))), (q_3, .inl (c_4, 12, .inl (fun _ => 0))), (q_5, .inl (c_6, 40, .inl (fun _ => 0))), (q_7, .inl (c_8, 10, .inr (.inr (.inr (.inr (va_up (va_up (va_up (va_up (va_up (va_up (va_up (va_up (va_up (va_up (fun _ => none) 0 (some q_9)) 1 (some q_10)) 2 (some q_11)) 3 (some q_12)) 4 (some q_13)) 5 (some q_14)) 6 (some q_15)) 7 (some q_16)) 8 (some q_17)) 9 (some q_18))))))), (q_9, .inr (3, [.int 10, .int 10, .int 0, .int 0, .int 0, .int 0, .int 0, .int 0, .int 0, .int 0, .int 0])), (q_10, .inr (3, [.int 10, .int 10, .int 0, .int 0, .int 0, .int 0, .int 0, .int 0, .int 0, .int 0, .int 0])), (q_11, .inr (3, [.int 10, .int 10, .int 0, .int 0, .int 0, .int 0, .int 0, .int 0, .int 0, .int 0, .int 0])), (q_12, .inr (3, [.int 10, .int 10, .int 0, .int 0, .int 0, .int 0, .int 0, .int 0, .int 0, .int 0, .int 0])), (q_13, .inr (3, [.int 10, .int 10, .int 0, .int 0, .int 0, .int 0, .int 0, .int 0, .int 0, .int 0, .int 0])), (q_14, .inr (3, [.int 10, .int 10, .int 0, .int 0, .int 0, .int 0, .int 0, .int 0, .int 0, .int 0, .int 0])), (q_15, .inr (3, [.int 10, .int 10, .int 0, .int 0, .int 0, .int 0, .int 0, .int 0, .int 0, .int 0, .int 0])), (q_16, .inr (3, [.int 10, .int 10, .int 0, .int 0, .int 0, .int 0, .int 0, .int 0, .int 0, .int 0, .int 0])), (q_17, .inr (3, [.int 10, .int 10, .int 0, .int 0, .int 0, .int 0, .int 0, .int 0, .int 0, .int 0, .int 0])), (q_18, .inr (3, [.int 10, .int 10, .int 0, .int 0, .int 0, .int 0, .int 0, .int 0, .int 0, .int 0, .int 0]))] := hD
  refine lv_iinc (v := 10) (k := 0) (lv' := [(1, .int 10), (0, .ref h0)]) hx hb dX6_init_66 hl rfl (by decide) (by decide) rfl (fun ls hl => ?_)
  refine lv_goto (tgt := 44) hx hb dX6_init_69 (by decide) ?_
  refine lv_iload_n hx hb dX6_init_44 rfl (lv_at hl 0 rfl) ?_
  refine lv_aload_n hx hb dX6_init_45 rfl (lv_at hl 1 rfl) ?_
  refine va_get (D := D) (ci := 6) (v := .ref q_7) (C := RX6) (T := TX6) (N := 18) hx hb hts inA6 hown hK hP 0 rfl rfl 16 (by decide) (hts _ we_138) (fun _ h9 => h9) rfl dX6_init_46 ?_
  refine va_alen (v := 10) hx hb hK hP 4 3 rfl rfl (show Int32.ofNat 10 = 10 by decide +kernel) dX6_init_49 ?_
  refine lv_icmp_ge (tgt := 72) hx hb dX6_init_50 (by decide) (fun c_ => ?_) (fun c_ => absurd (by decide) c_)
  refine W.widen (k := 14) (n := 184) (Nat.le_of_ble_eq_true rfl) (Nat.le_of_ble_eq_true rfl) ?_
  exact W.vret hx hb hr (fun t ht hW => ⟨⟨(), rfl, trivial, q_1, q_3, q_5, q_7, q_9, q_10, q_11, q_12, q_13, q_14, q_15, q_16, q_17, q_18, c_2, c_4, c_6, c_8, by rw [ht]; exact hP, va_K.moved hW.alike hK, hD⟩, hS.F ht⟩) hS.2.2 dX6_init_72

set_option maxRecDepth 20000 in
theorem we_178 : Cond.methodLink RX7 3 objectInit ∈ AL := AL_t1 (List.mem_of_getElem? (i := 178) rfl) rfl
set_option maxRecDepth 20000 in
theorem we_202 : Cond.arrayClass .byte ∈ AL := AL_t1 (List.mem_of_getElem? (i := 202) rfl) rfl
set_option maxRecDepth 20000 in
theorem we_179 : Cond.fieldLink RX7 9 "DownByAHair$Tokens" "tape" "[B" ∈ AL := AL_t1 (List.mem_of_getElem? (i := 179) rfl) rfl
set_option maxHeartbeats 4000000 in
set_option maxRecDepth 100000 in
theorem cX7_init_7 (l : Launch) (D : va_G) (h0 : Nat) (sz : Nat) : Met l yX7_init (Cond.code yX7_init cX7_init 1 none :: AL) (rmC 1 1 300) (PcC D [.ref h0] sz [(h0, .inr (7, [.null, .int 0, .int 0, .int 0, .int 0, .int 0]))]) (va_Qv (fun _ : Unit => True) (fun (_ : Unit) (t : State) => ∃ (q_1 : Nat) (c_2 : ClassId), va_P D vwCl [(h0, .inr (7, [.ref q_1, .int 0, .int 0, .int 0, .int 0, .int 0])), (q_1, .inl (c_2, 300, .inl (fun _ => 0)))] t.heap ∧ va_K D vwCl [(c_2, .byte)] t ∧ va_D (va_A [(h0, .inr (7, [.null, .int 0, .int 0, .int 0, .int 0, .int 0]))] sz) [(h0, .inr (7, [.ref q_1, .int 0, .int 0, .int 0, .int 0, .int 0])), (q_1, .inl (c_2, 300, .inl (fun _ => 0)))]) (va_A [(h0, .inr (7, [.null, .int 0, .int 0, .int 0, .int 0, .int 0]))] sz)) 1 300 (va_A [(h0, .inr (7, [.null, .int 0, .int 0, .int 0, .int 0, .int 0]))] sz) := by
  refine Met.ofW (cc := cX7_init) (maxL := 1) (ret := none) (by decide +kernel) rfl ?_
  intro p e s m args below meth c s₁ B hml hv
  obtain ⟨rfl, hsz, hP, hK, hD0, hSD⟩ := hv
  have hx := B.exec
  have hb := B.bytes
  have hr := B.returns
  have hts0 := atoms_spec (ws := Cond.code yX7_init cX7_init 1 none :: AL) B.pre
  have hts : ∀ w ∈ AL, w.before _ s = true := fun w hw => hts0 w (List.mem_cons_of_mem _ hw)
  have hown : s.vm.findClass yX7_init.cls = some m.cls := findClass_of_methodNamed B.named
  have hlocks := B.notSynchronized
  have hin : meth.name = "<init>" := (name_of_methodNamed B.named B.method).1
  refine (show W p l e (rmC 1 1 300) s m _ below meth c s.heap [] 0 0 _ _ from ?_)
  subst hsz
  have hD := hD0.self (sz := s.heap.size)
  generalize hAe : va_A [(h0, .inr (7, [.null, .int 0, .int 0, .int 0, .int 0, .int 0]))] s.heap.size = Ar at hD ⊢
  have hA : ∀ q : Nat, s.heap.size ≤ q → Ar q := fun q h => by rw [← hAe]; exact Or.inr h
  have hS : va_S Ar s.heap s.heap [] := va_S.rf
  have hP : va_P D vwCl [(h0, .inr (7, [.null, .int 0, .int 0, .int 0, .int 0, .int 0]))] s.heap := hP
  have hl := lv_entry ([.ref h0]) (n := 1) (Nat.le_of_ble_eq_true rfl)
  rw [lg_entry_eq]
  generalize (lg_sl ([.ref h0]) ++ List.replicate (1 - (lg_sl ([.ref h0])).length) Slot.unset).toArray = ls at hl ⊢
  have hl : lv_has ls 1 [(0, .ref h0)] := hl
  refine lv_aload_n hx hb dX7_init_0 rfl (lv_at hl 0 rfl) ?_
  refine W.objInit hx hb hown (hts _ we_178) (hts _ we_25) (hts _ we_26) rfl (by rw [hml]; exact hl.1) rfl dX7_init_1 (Nat.le_of_ble_eq_true rfl) (Nat.le_of_ble_eq_true rfl) ?_
  refine W.eq (g2 := F0 m 4 ls []) rfl ?_
  refine lv_aload_n hx hb dX7_init_4 rfl (lv_at hl 0 rfl) ?_
  refine lv_sipush hx hb dX7_init_5 cs_300 ?_
  refine va_newa (atype := .byte) (n := 300) (N' := 300) (ty := .byte) (a0 := (300, .inl (fun _ => 0))) hx hb (hts _ we_202) rfl hK hP hD hS hA (nw_byte 300) (by decide +kernel) (by decide +kernel) (by decide +kernel) (Nat.le_of_ble_eq_true rfl) (Nat.le_of_ble_eq_true rfl) dX7_init_8 (fun q_1 c_2 H hK hP hD hS => ?_)
  have hP : va_P D vwCl [(h0, .inr (7, [.null, .int 0, .int 0, .int 0, .int 0, .int 0])), (q_1, .inl (c_2, 300, .inl (fun _ => 0)))] H := hP
  have hD : va_D Ar [(h0, .inr (7, [.null, .int 0, .int 0, .int 0, .int 0, .int 0])), (q_1, .inl (c_2, 300, .inl (fun _ => 0)))] := hD
  have hK : va_K D vwCl [(c_2, .byte)] s := hK
  refine va_putF (D := D) (ci := 7) (v := .ref q_1) (ty := (.array .byte)) (C := RX7) (T := TX7) (N := 6) hx hb hts inA7 tyX7 tyX7_ok nmX7 hown hK hP hD hS 0 rfl rfl 0 (by decide) (hts _ we_179) (fun _ h9 => h9) rfl hin rfl (by decide +kernel) rfl rfl (Nat.le_of_ble_eq_true rfl) dX7_init_10 (fun H locs hP hD hS => ?_)
  have hP : va_P D vwCl [(h0, .inr (7, [.ref q_1, .int 0, .int 0, .int 0, .int 0, .int 0])), (q_1, .inl (c_2, 300, .inl (fun _ => 0)))] H := hP
  have hD : va_D Ar [(h0, .inr (7, [.ref q_1, .int 0, .int 0, .int 0, .int 0, .int 0])), (q_1, .inl (c_2, 300, .inl (fun _ => 0)))] := hD
  refine W.widen (k := 1) (n := 300) (Nat.le_of_ble_eq_true rfl) (Nat.le_of_ble_eq_true rfl) ?_
  exact W.vret hx hb hr (fun t ht hW => ⟨⟨(), rfl, trivial, q_1, c_2, by rw [ht]; exact hP, va_K.moved hW.alike hK, hD⟩, hS.F ht⟩) hS.2.2 dX7_init_13

set_option maxRecDepth 20000 in
theorem we_328 : Cond.methodLink RX5 3 objectInit ∈ AL := AL_t2 (List.mem_of_getElem? (i := 88) rfl) rfl
set_option maxRecDepth 20000 in
theorem we_329 : Cond.fieldLink RX5 9 "DownByAHair$Script" "code" "[I" ∈ AL := AL_t2 (List.mem_of_getElem? (i := 89) rfl) rfl
set_option maxRecDepth 20000 in
theorem we_343 : Cond.fieldLink RX5 15 "DownByAHair$Script" "kind" "[I" ∈ AL := AL_t2 (List.mem_of_getElem? (i := 103) rfl) rfl
set_option maxRecDepth 20000 in
theorem we_345 : Cond.fieldLink RX5 18 "DownByAHair$Script" "first" "[I" ∈ AL := AL_t2 (List.mem_of_getElem? (i := 105) rfl) rfl
set_option maxRecDepth 20000 in
theorem we_347 : Cond.fieldLink RX5 21 "DownByAHair$Script" "second" "[I" ∈ AL := AL_t2 (List.mem_of_getElem? (i := 107) rfl) rfl
set_option maxHeartbeats 4000000 in
set_option maxRecDepth 100000 in
theorem cX5_init_5 (l : Launch) (D : va_G) (h0 : Nat) (sz : Nat) : Met l yX5_init (Cond.code yX5_init cX5_init 1 none :: AL) (rmC 1 4 372) (PcC D [.ref h0] sz [(h0, .inr (5, [.null, .int 0, .int 0, .int 0, .int 0, .int 0, .null, .null, .null, .int 0]))]) (va_Qv (fun _ : Unit => True) (fun (_ : Unit) (t : State) => ∃ (q_1 q_3 q_5 q_7 : Nat) (c_2 c_4 c_6 c_8 : ClassId), va_P D vwCl [(h0, .inr (5, [.ref q_1, .int 0, .int 0, .int 0, .int 0, .int 0, .ref q_3, .ref q_5, .ref q_7, .int 0])), (q_1, .inl (c_2, 300, .inl (fun _ => 0))), (q_3, .inl (c_4, 24, .inl (fun _ => 0))), (q_5, .inl (c_6, 24, .inl (fun _ => 0))), (q_7, .inl (c_8, 24, .inl (fun _ => 0)))] t.heap ∧ va_K D vwCl [(c_2, .int), (c_4, .int), (c_6, .int), (c_8, .int)] t ∧ va_D (va_A [(h0, .inr (5, [.null, .int 0, .int 0, .int 0, .int 0, .int 0, .null, .null, .null, .int 0]))] sz) [(h0, .inr (5, [.ref q_1, .int 0, .int 0, .int 0, .int 0, .int 0, .ref q_3, .ref q_5, .ref q_7, .int 0])), (q_1, .inl (c_2, 300, .inl (fun _ => 0))), (q_3, .inl (c_4, 24, .inl (fun _ => 0))), (q_5, .inl (c_6, 24, .inl (fun _ => 0))), (q_7, .inl (c_8, 24, .inl (fun _ => 0)))]) (va_A [(h0, .inr (5, [.null, .int 0, .int 0, .int 0, .int 0, .int 0, .null, .null, .null, .int 0]))] sz)) 4 372 (va_A [(h0, .inr (5, [.null, .int 0, .int 0, .int 0, .int 0, .int 0, .null, .null, .null, .int 0]))] sz) := by
  refine Met.ofW (cc := cX5_init) (maxL := 1) (ret := none) (by decide +kernel) rfl ?_
  intro p e s m args below meth c s₁ B hml hv
  obtain ⟨rfl, hsz, hP, hK, hD0, hSD⟩ := hv
  have hx := B.exec
  have hb := B.bytes
  have hr := B.returns
  have hts0 := atoms_spec (ws := Cond.code yX5_init cX5_init 1 none :: AL) B.pre
  have hts : ∀ w ∈ AL, w.before _ s = true := fun w hw => hts0 w (List.mem_cons_of_mem _ hw)
  have hown : s.vm.findClass yX5_init.cls = some m.cls := findClass_of_methodNamed B.named
  have hlocks := B.notSynchronized
  have hin : meth.name = "<init>" := (name_of_methodNamed B.named B.method).1
  refine (show W p l e (rmC 1 4 372) s m _ below meth c s.heap [] 0 0 _ _ from ?_)
  subst hsz
  have hD := hD0.self (sz := s.heap.size)
  generalize hAe : va_A [(h0, .inr (5, [.null, .int 0, .int 0, .int 0, .int 0, .int 0, .null, .null, .null, .int 0]))] s.heap.size = Ar at hD ⊢
  have hA : ∀ q : Nat, s.heap.size ≤ q → Ar q := fun q h => by rw [← hAe]; exact Or.inr h
  have hS : va_S Ar s.heap s.heap [] := va_S.rf
  have hP : va_P D vwCl [(h0, .inr (5, [.null, .int 0, .int 0, .int 0, .int 0, .int 0, .null, .null, .null, .int 0]))] s.heap := hP
  have hl := lv_entry ([.ref h0]) (n := 1) (Nat.le_of_ble_eq_true rfl)
  rw [lg_entry_eq]
  generalize (lg_sl ([.ref h0]) ++ List.replicate (1 - (lg_sl ([.ref h0])).length) Slot.unset).toArray = ls at hl ⊢
  have hl : lv_has ls 1 [(0, .ref h0)] := hl
  refine lv_aload_n hx hb dX5_init_0 rfl (lv_at hl 0 rfl) ?_
  refine W.objInit hx hb hown (hts _ we_328) (hts _ we_25) (hts _ we_26) rfl (by rw [hml]; exact hl.1) rfl dX5_init_1 (Nat.le_of_ble_eq_true rfl) (Nat.le_of_ble_eq_true rfl) ?_
  refine W.eq (g2 := F0 m 4 ls []) rfl ?_
  refine lv_aload_n hx hb dX5_init_4 rfl (lv_at hl 0 rfl) ?_
  refine lv_sipush hx hb dX5_init_5 cs_300 ?_
  refine va_newa (atype := .int) (n := 300) (N' := 300) (ty := .int) (a0 := (300, .inl (fun _ => 0))) hx hb (hts _ we_110) rfl hK hP hD hS hA (nw_int 300) (by decide +kernel) (by decide +kernel) (by decide +kernel) (Nat.le_of_ble_eq_true rfl) (Nat.le_of_ble_eq_true rfl) dX5_init_8 (fun q_1 c_2 H hK hP hD hS => ?_)
  have hP : va_P D vwCl [(h0, .inr (5, [.null, .int 0, .int 0, .int 0, .int 0, .int 0, .null, .null, .null, .int 0])), (q_1, .inl (c_2, 300, .inl (fun _ => 0)))] H := hP
  have hD : va_D Ar [(h0, .inr (5, [.null, .int 0, .int 0, .int 0, .int 0, .int 0, .null, .null, .null, .int 0])), (q_1, .inl (c_2, 300, .inl (fun _ => 0)))] := hD
  have hK : va_K D vwCl [(c_2, .int)] s := hK
  refine va_putF (D := D) (ci := 5) (v := .ref q_1) (ty := (.array .int)) (C := RX5) (T := TX5) (N := 10) hx hb hts inA5 tyX5 tyX5_ok nmX5 hown hK hP hD hS 0 rfl rfl 0 (by decide) (hts _ we_329) (fun _ h9 => h9) rfl hin rfl (by decide +kernel) rfl rfl (Nat.le_of_ble_eq_true rfl) dX5_init_10 (fun H locs hP hD hS => ?_)
  have hP : va_P D vwCl [(h0, .inr (5, [.ref q_1, .int 0, .int 0, .int 0, .int 0, .int 0, .null, .null, .null, .int 0])), (q_1, .inl (c_2, 300, .inl (fun _ => 0)))] H := hP
  have hD : va_D Ar [(h0, .inr (5, [.ref q_1, .int 0, .int 0, .int 0, .int 0, .int 0, .null, .null, .null, .int 0])), (q_1, .inl (c_2, 300, .inl (fun _ => 0)))] := hD
  refine lv_aload_n hx hb dX5_init_13 rfl (lv_at hl 0 rfl) ?_
  refine lv_bipush hx hb dX5_init_14 cb_24 ?_
  refine va_newa (atype := .int) (n := 24) (N' := 24) (ty := .int) (a0 := (24, .inl (fun _ => 0))) hx hb (hts _ we_110) rfl hK hP hD hS hA (nw_int 24) (by decide +kernel) (by decide +kernel) (by decide +kernel) (Nat.le_of_ble_eq_true rfl) (Nat.le_of_ble_eq_true rfl) dX5_init_16 (fun q_3 c_4 H hK hP hD hS => ?_)
  have hP : va_P D vwCl [(h0, .inr (5, [.ref q_1, .int 0, .int 0, .int 0, .int 0, .int 0, .null, .null, .null, .int 0])), (q_1, .inl (c_2, 300, .inl (fun _ => 0))), (q_3, .inl (c_4, 24, .inl (fun _ => 0)))] H := hP
  have hD : va_D Ar [(h0, .inr (5, [.ref q_1, .int 0, .int 0, .int 0, .int 0, .int 0, .null, .null, .null, .int 0])), (q_1, .inl (c_2, 300, .inl (fun _ => 0))), (q_3, .inl (c_4, 24, .inl (fun _ => 0)))] := hD
  have hK : va_K D vwCl [(c_2, .int), (c_4, .int)] s := hK
  refine va_putF (D := D) (ci := 5) (v := .ref q_3) (ty := (.array .int)) (C := RX5) (T := TX5) (N := 10) hx hb hts inA5 tyX5 tyX5_ok nmX5 hown hK hP hD hS 0 rfl rfl 6 (by decide) (hts _ we_343) (fun _ h9 => h9) rfl hin rfl (by decide +kernel) rfl rfl (Nat.le_of_ble_eq_true rfl) dX5_init_18 (fun H locs hP hD hS => ?_)
  have hP : va_P D vwCl [(h0, .inr (5, [.ref q_1, .int 0, .int 0, .int 0, .int 0, .int 0, .ref q_3, .null, .null, .int 0])), (q_1, .inl (c_2, 300, .inl (fun _ => 0))), (q_3, .inl (c_4, 24, .inl (fun _ => 0)))] H := hP
  have hD : va_D Ar [(h0, .inr (5, [.ref q_1, .int 0, .int 0, .int 0, .int 0, .int 0, .ref q_3, .null, .null, .int 0])), (q_1, .inl (c_2, 300, .inl (fun _ => 0))), (q_3, .inl (c_4, 24, .inl (fun _ => 0)))] := hD
  refine lv_aload_n hx hb dX5_init_21 rfl (lv_at hl 0 rfl) ?_
  refine lv_bipush hx hb dX5_init_22 cb_24 ?_
  refine va_newa (atype := .int) (n := 24) (N' := 24) (ty := .int) (a0 := (24, .inl (fun _ => 0))) hx hb (hts _ we_110) rfl hK hP hD hS hA (nw_int 24) (by decide +kernel) (by decide +kernel) (by decide +kernel) (Nat.le_of_ble_eq_true rfl) (Nat.le_of_ble_eq_true rfl) dX5_init_24 (fun q_5 c_6 H hK hP hD hS => ?_)
  have hP : va_P D vwCl [(h0, .inr (5, [.ref q_1, .int 0, .int 0, .int 0, .int 0, .int 0, .ref q_3, .null, .null, .int 0])), (q_1, .inl (c_2, 300, .inl (fun _ => 0))), (q_3, .inl (c_4, 24, .inl (fun _ => 0))), (q_5, .inl (c_6, 24, .inl (fun _ => 0)))] H := hP
  have hD : va_D Ar [(h0, .inr (5, [.ref q_1, .int 0, .int 0, .int 0, .int 0, .int 0, .ref q_3, .null, .null, .int 0])), (q_1, .inl (c_2, 300, .inl (fun _ => 0))), (q_3, .inl (c_4, 24, .inl (fun _ => 0))), (q_5, .inl (c_6, 24, .inl (fun _ => 0)))] := hD
  have hK : va_K D vwCl [(c_2, .int), (c_4, .int), (c_6, .int)] s := hK
  refine va_putF (D := D) (ci := 5) (v := .ref q_5) (ty := (.array .int)) (C := RX5) (T := TX5) (N := 10) hx hb hts inA5 tyX5 tyX5_ok nmX5 hown hK hP hD hS 0 rfl rfl 7 (by decide) (hts _ we_345) (fun _ h9 => h9) rfl hin rfl (by decide +kernel) rfl rfl (Nat.le_of_ble_eq_true rfl) dX5_init_26 (fun H locs hP hD hS => ?_)
  have hP : va_P D vwCl [(h0, .inr (5, [.ref q_1, .int 0, .int 0, .int 0, .int 0, .int 0, .ref q_3, .ref q_5, .null, .int 0])), (q_1, .inl (c_2, 300, .inl (fun _ => 0))), (q_3, .inl (c_4, 24, .inl (fun _ => 0))), (q_5, .inl (c_6, 24, .inl (fun _ => 0)))] H := hP
  have hD : va_D Ar [(h0, .inr (5, [.ref q_1, .int 0, .int 0, .int 0, .int 0, .int 0, .ref q_3, .ref q_5, .null, .int 0])), (q_1, .inl (c_2, 300, .inl (fun _ => 0))), (q_3, .inl (c_4, 24, .inl (fun _ => 0))), (q_5, .inl (c_6, 24, .inl (fun _ => 0)))] := hD
  refine lv_aload_n hx hb dX5_init_29 rfl (lv_at hl 0 rfl) ?_
  refine lv_bipush hx hb dX5_init_30 cb_24 ?_
  refine va_newa (atype := .int) (n := 24) (N' := 24) (ty := .int) (a0 := (24, .inl (fun _ => 0))) hx hb (hts _ we_110) rfl hK hP hD hS hA (nw_int 24) (by decide +kernel) (by decide +kernel) (by decide +kernel) (Nat.le_of_ble_eq_true rfl) (Nat.le_of_ble_eq_true rfl) dX5_init_32 (fun q_7 c_8 H hK hP hD hS => ?_)
  have hP : va_P D vwCl [(h0, .inr (5, [.ref q_1, .int 0, .int 0, .int 0, .int 0, .int 0, .ref q_3, .ref q_5, .null, .int 0])), (q_1, .inl (c_2, 300, .inl (fun _ => 0))), (q_3, .inl (c_4, 24, .inl (fun _ => 0))), (q_5, .inl (c_6, 24, .inl (fun _ => 0))), (q_7, .inl (c_8, 24, .inl (fun _ => 0)))] H := hP
  have hD : va_D Ar [(h0, .inr (5, [.ref q_1, .int 0, .int 0, .int 0, .int 0, .int 0, .ref q_3, .ref q_5, .null, .int 0])), (q_1, .inl (c_2, 300, .inl (fun _ => 0))), (q_3, .inl (c_4, 24, .inl (fun _ => 0))), (q_5, .inl (c_6, 24, .inl (fun _ => 0))), (q_7, .inl (c_8, 24, .inl (fun _ => 0)))] := hD
  have hK : va_K D vwCl [(c_2, .int), (c_4, .int), (c_6, .int), (c_8, .int)] s := hK
  refine va_putF (D := D) (ci := 5) (v := .ref q_7) (ty := (.array .int)) (C := RX5) (T := TX5) (N := 10) hx hb hts inA5 tyX5 tyX5_ok nmX5 hown hK hP hD hS 0 rfl rfl 8 (by decide) (hts _ we_347) (fun _ h9 => h9) rfl hin rfl (by decide +kernel) rfl rfl (Nat.le_of_ble_eq_true rfl) dX5_init_34 (fun H locs hP hD hS => ?_)
  have hP : va_P D vwCl [(h0, .inr (5, [.ref q_1, .int 0, .int 0, .int 0, .int 0, .int 0, .ref q_3, .ref q_5, .ref q_7, .int 0])), (q_1, .inl (c_2, 300, .inl (fun _ => 0))), (q_3, .inl (c_4, 24, .inl (fun _ => 0))), (q_5, .inl (c_6, 24, .inl (fun _ => 0))), (q_7, .inl (c_8, 24, .inl (fun _ => 0)))] H := hP
  have hD : va_D Ar [(h0, .inr (5, [.ref q_1, .int 0, .int 0, .int 0, .int 0, .int 0, .ref q_3, .ref q_5, .ref q_7, .int 0])), (q_1, .inl (c_2, 300, .inl (fun _ => 0))), (q_3, .inl (c_4, 24, .inl (fun _ => 0))), (q_5, .inl (c_6, 24, .inl (fun _ => 0))), (q_7, .inl (c_8, 24, .inl (fun _ => 0)))] := hD
  refine W.widen (k := 4) (n := 372) (Nat.le_of_ble_eq_true rfl) (Nat.le_of_ble_eq_true rfl) ?_
  exact W.vret hx hb hr (fun t ht hW => ⟨⟨(), rfl, trivial, q_1, q_3, q_5, q_7, c_2, c_4, c_6, c_8, by rw [ht]; exact hP, va_K.moved hW.alike hK, hD⟩, hS.F ht⟩) hS.2.2 dX5_init_37

set_option maxRecDepth 20000 in
theorem we_258 : Cond.methodLink RX4 3 objectInit ∈ AL := AL_t2 (List.mem_of_getElem? (i := 18) rfl) rfl
set_option maxRecDepth 20000 in
theorem we_259 : Cond.fieldLink RX4 9 "DownByAHair$Scales" "named" "[I" ∈ AL := AL_t2 (List.mem_of_getElem? (i := 19) rfl) rfl
set_option maxRecDepth 20000 in
theorem we_260 : Cond.fieldLink RX4 15 "DownByAHair$Scales" "values" "[I" ∈ AL := AL_t2 (List.mem_of_getElem? (i := 20) rfl) rfl
set_option maxHeartbeats 4000000 in
set_option maxRecDepth 100000 in
theorem cX4_init_4 (l : Launch) (D : va_G) (h0 : Nat) (sz : Nat) : Met l yX4_init (Cond.code yX4_init cX4_init 1 none :: AL) (rmC 1 2 33) (PcC D [.ref h0] sz [(h0, .inr (4, [.null, .null, .int 0, .int 0, .int 0]))]) (va_Qv (fun _ : Unit => True) (fun (_ : Unit) (t : State) => ∃ (q_1 q_3 : Nat) (c_2 c_4 : ClassId), va_P D vwCl [(h0, .inr (4, [.ref q_1, .ref q_3, .int 0, .int 0, .int 0])), (q_1, .inl (c_2, 11, .inl (fun _ => 0))), (q_3, .inl (c_4, 22, .inl (fun _ => 0)))] t.heap ∧ va_K D vwCl [(c_2, .int), (c_4, .int)] t ∧ va_D (va_A [(h0, .inr (4, [.null, .null, .int 0, .int 0, .int 0]))] sz) [(h0, .inr (4, [.ref q_1, .ref q_3, .int 0, .int 0, .int 0])), (q_1, .inl (c_2, 11, .inl (fun _ => 0))), (q_3, .inl (c_4, 22, .inl (fun _ => 0)))]) (va_A [(h0, .inr (4, [.null, .null, .int 0, .int 0, .int 0]))] sz)) 2 33 (va_A [(h0, .inr (4, [.null, .null, .int 0, .int 0, .int 0]))] sz) := by
  refine Met.ofW (cc := cX4_init) (maxL := 1) (ret := none) (by decide +kernel) rfl ?_
  intro p e s m args below meth c s₁ B hml hv
  obtain ⟨rfl, hsz, hP, hK, hD0, hSD⟩ := hv
  have hx := B.exec
  have hb := B.bytes
  have hr := B.returns
  have hts0 := atoms_spec (ws := Cond.code yX4_init cX4_init 1 none :: AL) B.pre
  have hts : ∀ w ∈ AL, w.before _ s = true := fun w hw => hts0 w (List.mem_cons_of_mem _ hw)
  have hown : s.vm.findClass yX4_init.cls = some m.cls := findClass_of_methodNamed B.named
  have hlocks := B.notSynchronized
  have hin : meth.name = "<init>" := (name_of_methodNamed B.named B.method).1
  refine (show W p l e (rmC 1 2 33) s m _ below meth c s.heap [] 0 0 _ _ from ?_)
  subst hsz
  have hD := hD0.self (sz := s.heap.size)
  generalize hAe : va_A [(h0, .inr (4, [.null, .null, .int 0, .int 0, .int 0]))] s.heap.size = Ar at hD ⊢
  have hA : ∀ q : Nat, s.heap.size ≤ q → Ar q := fun q h => by rw [← hAe]; exact Or.inr h
  have hS : va_S Ar s.heap s.heap [] := va_S.rf
  have hP : va_P D vwCl [(h0, .inr (4, [.null, .null, .int 0, .int 0, .int 0]))] s.heap := hP
  have hl := lv_entry ([.ref h0]) (n := 1) (Nat.le_of_ble_eq_true rfl)
  rw [lg_entry_eq]
  generalize (lg_sl ([.ref h0]) ++ List.replicate (1 - (lg_sl ([.ref h0])).length) Slot.unset).toArray = ls at hl ⊢
  have hl : lv_has ls 1 [(0, .ref h0)] := hl
  refine lv_aload_n hx hb dX4_init_0 rfl (lv_at hl 0 rfl) ?_
  refine W.objInit hx hb hown (hts _ we_258) (hts _ we_25) (hts _ we_26) rfl (by rw [hml]; exact hl.1) rfl dX4_init_1 (Nat.le_of_ble_eq_true rfl) (Nat.le_of_ble_eq_true rfl) ?_
  refine W.eq (g2 := F0 m 4 ls []) rfl ?_
  refine lv_aload_n hx hb dX4_init_4 rfl (lv_at hl 0 rfl) ?_
  refine lv_bipush hx hb dX4_init_5 cb_11 ?_
  refine va_newa (atype := .int) (n := 11) (N' := 11) (ty := .int) (a0 := (11, .inl (fun _ => 0))) hx hb (hts _ we_110) rfl hK hP hD hS hA (nw_int 11) (by decide +kernel) (by decide +kernel) (by decide +kernel) (Nat.le_of_ble_eq_true rfl) (Nat.le_of_ble_eq_true rfl) dX4_init_7 (fun q_1 c_2 H hK hP hD hS => ?_)
  have hP : va_P D vwCl [(h0, .inr (4, [.null, .null, .int 0, .int 0, .int 0])), (q_1, .inl (c_2, 11, .inl (fun _ => 0)))] H := hP
  have hD : va_D Ar [(h0, .inr (4, [.null, .null, .int 0, .int 0, .int 0])), (q_1, .inl (c_2, 11, .inl (fun _ => 0)))] := hD
  have hK : va_K D vwCl [(c_2, .int)] s := hK
  refine va_putF (D := D) (ci := 4) (v := .ref q_1) (ty := (.array .int)) (C := RX4) (T := TX4) (N := 5) hx hb hts inA4 tyX4 tyX4_ok nmX4 hown hK hP hD hS 0 rfl rfl 0 (by decide) (hts _ we_259) (fun _ h9 => h9) rfl hin rfl (by decide +kernel) rfl rfl (Nat.le_of_ble_eq_true rfl) dX4_init_9 (fun H locs hP hD hS => ?_)
  have hP : va_P D vwCl [(h0, .inr (4, [.ref q_1, .null, .int 0, .int 0, .int 0])), (q_1, .inl (c_2, 11, .inl (fun _ => 0)))] H := hP
  have hD : va_D Ar [(h0, .inr (4, [.ref q_1, .null, .int 0, .int 0, .int 0])), (q_1, .inl (c_2, 11, .inl (fun _ => 0)))] := hD
  refine lv_aload_n hx hb dX4_init_12 rfl (lv_at hl 0 rfl) ?_
  refine lv_bipush hx hb dX4_init_13 cb_22 ?_
  refine va_newa (atype := .int) (n := 22) (N' := 22) (ty := .int) (a0 := (22, .inl (fun _ => 0))) hx hb (hts _ we_110) rfl hK hP hD hS hA (nw_int 22) (by decide +kernel) (by decide +kernel) (by decide +kernel) (Nat.le_of_ble_eq_true rfl) (Nat.le_of_ble_eq_true rfl) dX4_init_15 (fun q_3 c_4 H hK hP hD hS => ?_)
  have hP : va_P D vwCl [(h0, .inr (4, [.ref q_1, .null, .int 0, .int 0, .int 0])), (q_1, .inl (c_2, 11, .inl (fun _ => 0))), (q_3, .inl (c_4, 22, .inl (fun _ => 0)))] H := hP
  have hD : va_D Ar [(h0, .inr (4, [.ref q_1, .null, .int 0, .int 0, .int 0])), (q_1, .inl (c_2, 11, .inl (fun _ => 0))), (q_3, .inl (c_4, 22, .inl (fun _ => 0)))] := hD
  have hK : va_K D vwCl [(c_2, .int), (c_4, .int)] s := hK
  refine va_putF (D := D) (ci := 4) (v := .ref q_3) (ty := (.array .int)) (C := RX4) (T := TX4) (N := 5) hx hb hts inA4 tyX4 tyX4_ok nmX4 hown hK hP hD hS 0 rfl rfl 1 (by decide) (hts _ we_260) (fun _ h9 => h9) rfl hin rfl (by decide +kernel) rfl rfl (Nat.le_of_ble_eq_true rfl) dX4_init_17 (fun H locs hP hD hS => ?_)
  have hP : va_P D vwCl [(h0, .inr (4, [.ref q_1, .ref q_3, .int 0, .int 0, .int 0])), (q_1, .inl (c_2, 11, .inl (fun _ => 0))), (q_3, .inl (c_4, 22, .inl (fun _ => 0)))] H := hP
  have hD : va_D Ar [(h0, .inr (4, [.ref q_1, .ref q_3, .int 0, .int 0, .int 0])), (q_1, .inl (c_2, 11, .inl (fun _ => 0))), (q_3, .inl (c_4, 22, .inl (fun _ => 0)))] := hD
  refine W.widen (k := 2) (n := 33) (Nat.le_of_ble_eq_true rfl) (Nat.le_of_ble_eq_true rfl) ?_
  exact W.vret hx hb hr (fun t ht hW => ⟨⟨(), rfl, trivial, q_1, q_3, c_2, c_4, by rw [ht]; exact hP, va_K.moved hW.alike hK, hD⟩, hS.F ht⟩) hS.2.2 dX4_init_20

set_option maxRecDepth 20000 in
theorem we_286 : Cond.methodLink RX1 3 objectInit ∈ AL := AL_t2 (List.mem_of_getElem? (i := 46) rfl) rfl
set_option maxRecDepth 20000 in
theorem we_287 : Cond.fieldLink RX1 9 "DownByAHair$Orders" "member" "[I" ∈ AL := AL_t2 (List.mem_of_getElem? (i := 47) rfl) rfl
set_option maxRecDepth 20000 in
theorem we_289 : Cond.fieldLink RX1 15 "DownByAHair$Orders" "left" "[I" ∈ AL := AL_t2 (List.mem_of_getElem? (i := 49) rfl) rfl
set_option maxRecDepth 20000 in
theorem we_290 : Cond.fieldLink RX1 18 "DownByAHair$Orders" "right" "[I" ∈ AL := AL_t2 (List.mem_of_getElem? (i := 50) rfl) rfl
set_option maxRecDepth 20000 in
theorem we_291 : Cond.fieldLink RX1 21 "DownByAHair$Orders" "turned" "[I" ∈ AL := AL_t2 (List.mem_of_getElem? (i := 51) rfl) rfl
set_option maxRecDepth 20000 in
theorem we_292 : Cond.fieldLink RX1 24 "DownByAHair$Orders" "found" "[I" ∈ AL := AL_t2 (List.mem_of_getElem? (i := 52) rfl) rfl
set_option maxHeartbeats 4000000 in
set_option maxRecDepth 100000 in
theorem cX1_init_1 (l : Launch) (D : va_G) (h0 : Nat) (sz : Nat) : Met l yX1_init (Cond.code yX1_init cX1_init 1 none :: AL) (rmC 1 5 4106) (PcC D [.ref h0] sz [(h0, .inr (1, [.null, .int 0, .null, .null, .null, .null]))]) (va_Qv (fun _ : Unit => True) (fun (_ : Unit) (t : State) => ∃ (q_1 q_3 q_5 q_7 q_9 : Nat) (c_2 c_4 c_6 c_8 c_10 : ClassId), va_P D vwCl [(h0, .inr (1, [.ref q_1, .int 0, .ref q_3, .ref q_5, .ref q_7, .ref q_9])), (q_1, .inl (c_2, 10, .inl (fun _ => 0))), (q_3, .inl (c_4, 1024, .inl (fun _ => 0))), (q_5, .inl (c_6, 1024, .inl (fun _ => 0))), (q_7, .inl (c_8, 1024, .inl (fun _ => 0))), (q_9, .inl (c_10, 1024, .inl (fun _ => 0)))] t.heap ∧ va_K D vwCl [(c_2, .int), (c_4, .int), (c_6, .int), (c_8, .int), (c_10, .int)] t ∧ va_D (va_A [(h0, .inr (1, [.null, .int 0, .null, .null, .null, .null]))] sz) [(h0, .inr (1, [.ref q_1, .int 0, .ref q_3, .ref q_5, .ref q_7, .ref q_9])), (q_1, .inl (c_2, 10, .inl (fun _ => 0))), (q_3, .inl (c_4, 1024, .inl (fun _ => 0))), (q_5, .inl (c_6, 1024, .inl (fun _ => 0))), (q_7, .inl (c_8, 1024, .inl (fun _ => 0))), (q_9, .inl (c_10, 1024, .inl (fun _ => 0)))]) (va_A [(h0, .inr (1, [.null, .int 0, .null, .null, .null, .null]))] sz)) 5 4106 (va_A [(h0, .inr (1, [.null, .int 0, .null, .null, .null, .null]))] sz) := by
  refine Met.ofW (cc := cX1_init) (maxL := 1) (ret := none) (by decide +kernel) rfl ?_
  intro p e s m args below meth c s₁ B hml hv
  obtain ⟨rfl, hsz, hP, hK, hD0, hSD⟩ := hv
  have hx := B.exec
  have hb := B.bytes
  have hr := B.returns
  have hts0 := atoms_spec (ws := Cond.code yX1_init cX1_init 1 none :: AL) B.pre
  have hts : ∀ w ∈ AL, w.before _ s = true := fun w hw => hts0 w (List.mem_cons_of_mem _ hw)
  have hown : s.vm.findClass yX1_init.cls = some m.cls := findClass_of_methodNamed B.named
  have hlocks := B.notSynchronized
  have hin : meth.name = "<init>" := (name_of_methodNamed B.named B.method).1
  refine (show W p l e (rmC 1 5 4106) s m _ below meth c s.heap [] 0 0 _ _ from ?_)
  subst hsz
  have hD := hD0.self (sz := s.heap.size)
  generalize hAe : va_A [(h0, .inr (1, [.null, .int 0, .null, .null, .null, .null]))] s.heap.size = Ar at hD ⊢
  have hA : ∀ q : Nat, s.heap.size ≤ q → Ar q := fun q h => by rw [← hAe]; exact Or.inr h
  have hS : va_S Ar s.heap s.heap [] := va_S.rf
  have hP : va_P D vwCl [(h0, .inr (1, [.null, .int 0, .null, .null, .null, .null]))] s.heap := hP
  have hl := lv_entry ([.ref h0]) (n := 1) (Nat.le_of_ble_eq_true rfl)
  rw [lg_entry_eq]
  generalize (lg_sl ([.ref h0]) ++ List.replicate (1 - (lg_sl ([.ref h0])).length) Slot.unset).toArray = ls at hl ⊢
  have hl : lv_has ls 1 [(0, .ref h0)] := hl
  refine lv_aload_n hx hb dX1_init_0 rfl (lv_at hl 0 rfl) ?_
  refine W.objInit hx hb hown (hts _ we_286) (hts _ we_25) (hts _ we_26) rfl (by rw [hml]; exact hl.1) rfl dX1_init_1 (Nat.le_of_ble_eq_true rfl) (Nat.le_of_ble_eq_true rfl) ?_
  refine W.eq (g2 := F0 m 4 ls []) rfl ?_
  refine lv_aload_n hx hb dX1_init_4 rfl (lv_at hl 0 rfl) ?_
  refine lv_bipush hx hb dX1_init_5 cb_10 ?_
  refine va_newa (atype := .int) (n := 10) (N' := 10) (ty := .int) (a0 := (10, .inl (fun _ => 0))) hx hb (hts _ we_110) rfl hK hP hD hS hA (nw_int 10) (by decide +kernel) (by decide +kernel) (by decide +kernel) (Nat.le_of_ble_eq_true rfl) (Nat.le_of_ble_eq_true rfl) dX1_init_7 (fun q_1 c_2 H hK hP hD hS => ?_)
  have hP : va_P D vwCl [(h0, .inr (1, [.null, .int 0, .null, .null, .null, .null])), (q_1, .inl (c_2, 10, .inl (fun _ => 0)))] H := hP
  have hD : va_D Ar [(h0, .inr (1, [.null, .int 0, .null, .null, .null, .null])), (q_1, .inl (c_2, 10, .inl (fun _ => 0)))] := hD
  have hK : va_K D vwCl [(c_2, .int)] s := hK
  refine va_putF (D := D) (ci := 1) (v := .ref q_1) (ty := (.array .int)) (C := RX1) (T := TX1) (N := 6) hx hb hts inA1 tyX1 tyX1_ok nmX1 hown hK hP hD hS 0 rfl rfl 0 (by decide) (hts _ we_287) (fun _ h9 => h9) rfl hin rfl (by decide +kernel) rfl rfl (Nat.le_of_ble_eq_true rfl) dX1_init_9 (fun H locs hP hD hS => ?_)
  have hP : va_P D vwCl [(h0, .inr (1, [.ref q_1, .int 0, .null, .null, .null, .null])), (q_1, .inl (c_2, 10, .inl (fun _ => 0)))] H := hP
  have hD : va_D Ar [(h0, .inr (1, [.ref q_1, .int 0, .null, .null, .null, .null])), (q_1, .inl (c_2, 10, .inl (fun _ => 0)))] := hD
  refine lv_aload_n hx hb dX1_init_12 rfl (lv_at hl 0 rfl) ?_
  refine lv_sipush hx hb dX1_init_13 cs_1024 ?_
  refine va_newa (atype := .int) (n := 1024) (N' := 1024) (ty := .int) (a0 := (1024, .inl (fun _ => 0))) hx hb (hts _ we_110) rfl hK hP hD hS hA (nw_int 1024) (by decide +kernel) (by decide +kernel) (by decide +kernel) (Nat.le_of_ble_eq_true rfl) (Nat.le_of_ble_eq_true rfl) dX1_init_16 (fun q_3 c_4 H hK hP hD hS => ?_)
  have hP : va_P D vwCl [(h0, .inr (1, [.ref q_1, .int 0, .null, .null, .null, .null])), (q_1, .inl (c_2, 10, .inl (fun _ => 0))), (q_3, .inl (c_4, 1024, .inl (fun _ => 0)))] H := hP
  have hD : va_D Ar [(h0, .inr (1, [.ref q_1, .int 0, .null, .null, .null, .null])), (q_1, .inl (c_2, 10, .inl (fun _ => 0))), (q_3, .inl (c_4, 1024, .inl (fun _ => 0)))] := hD
  have hK : va_K D vwCl [(c_2, .int), (c_4, .int)] s := hK
  refine va_putF (D := D) (ci := 1) (v := .ref q_3) (ty := (.array .int)) (C := RX1) (T := TX1) (N := 6) hx hb hts inA1 tyX1 tyX1_ok nmX1 hown hK hP hD hS 0 rfl rfl 2 (by decide) (hts _ we_289) (fun _ h9 => h9) rfl hin rfl (by decide +kernel) rfl rfl (Nat.le_of_ble_eq_true rfl) dX1_init_18 (fun H locs hP hD hS => ?_)
  have hP : va_P D vwCl [(h0, .inr (1, [.ref q_1, .int 0, .ref q_3, .null, .null, .null])), (q_1, .inl (c_2, 10, .inl (fun _ => 0))), (q_3, .inl (c_4, 1024, .inl (fun _ => 0)))] H := hP
  have hD : va_D Ar [(h0, .inr (1, [.ref q_1, .int 0, .ref q_3, .null, .null, .null])), (q_1, .inl (c_2, 10, .inl (fun _ => 0))), (q_3, .inl (c_4, 1024, .inl (fun _ => 0)))] := hD
  refine lv_aload_n hx hb dX1_init_21 rfl (lv_at hl 0 rfl) ?_
  refine lv_sipush hx hb dX1_init_22 cs_1024 ?_
  refine va_newa (atype := .int) (n := 1024) (N' := 1024) (ty := .int) (a0 := (1024, .inl (fun _ => 0))) hx hb (hts _ we_110) rfl hK hP hD hS hA (nw_int 1024) (by decide +kernel) (by decide +kernel) (by decide +kernel) (Nat.le_of_ble_eq_true rfl) (Nat.le_of_ble_eq_true rfl) dX1_init_25 (fun q_5 c_6 H hK hP hD hS => ?_)
  have hP : va_P D vwCl [(h0, .inr (1, [.ref q_1, .int 0, .ref q_3, .null, .null, .null])), (q_1, .inl (c_2, 10, .inl (fun _ => 0))), (q_3, .inl (c_4, 1024, .inl (fun _ => 0))), (q_5, .inl (c_6, 1024, .inl (fun _ => 0)))] H := hP
  have hD : va_D Ar [(h0, .inr (1, [.ref q_1, .int 0, .ref q_3, .null, .null, .null])), (q_1, .inl (c_2, 10, .inl (fun _ => 0))), (q_3, .inl (c_4, 1024, .inl (fun _ => 0))), (q_5, .inl (c_6, 1024, .inl (fun _ => 0)))] := hD
  have hK : va_K D vwCl [(c_2, .int), (c_4, .int), (c_6, .int)] s := hK
  refine va_putF (D := D) (ci := 1) (v := .ref q_5) (ty := (.array .int)) (C := RX1) (T := TX1) (N := 6) hx hb hts inA1 tyX1 tyX1_ok nmX1 hown hK hP hD hS 0 rfl rfl 3 (by decide) (hts _ we_290) (fun _ h9 => h9) rfl hin rfl (by decide +kernel) rfl rfl (Nat.le_of_ble_eq_true rfl) dX1_init_27 (fun H locs hP hD hS => ?_)
  have hP : va_P D vwCl [(h0, .inr (1, [.ref q_1, .int 0, .ref q_3, .ref q_5, .null, .null])), (q_1, .inl (c_2, 10, .inl (fun _ => 0))), (q_3, .inl (c_4, 1024, .inl (fun _ => 0))), (q_5, .inl (c_6, 1024, .inl (fun _ => 0)))] H := hP
  have hD : va_D Ar [(h0, .inr (1, [.ref q_1, .int 0, .ref q_3, .ref q_5, .null, .null])), (q_1, .inl (c_2, 10, .inl (fun _ => 0))), (q_3, .inl (c_4, 1024, .inl (fun _ => 0))), (q_5, .inl (c_6, 1024, .inl (fun _ => 0)))] := hD
  refine lv_aload_n hx hb dX1_init_30 rfl (lv_at hl 0 rfl) ?_
  refine lv_sipush hx hb dX1_init_31 cs_1024 ?_
  refine va_newa (atype := .int) (n := 1024) (N' := 1024) (ty := .int) (a0 := (1024, .inl (fun _ => 0))) hx hb (hts _ we_110) rfl hK hP hD hS hA (nw_int 1024) (by decide +kernel) (by decide +kernel) (by decide +kernel) (Nat.le_of_ble_eq_true rfl) (Nat.le_of_ble_eq_true rfl) dX1_init_34 (fun q_7 c_8 H hK hP hD hS => ?_)
  have hP : va_P D vwCl [(h0, .inr (1, [.ref q_1, .int 0, .ref q_3, .ref q_5, .null, .null])), (q_1, .inl (c_2, 10, .inl (fun _ => 0))), (q_3, .inl (c_4, 1024, .inl (fun _ => 0))), (q_5, .inl (c_6, 1024, .inl (fun _ => 0))), (q_7, .inl (c_8, 1024, .inl (fun _ => 0)))] H := hP
  have hD : va_D Ar [(h0, .inr (1, [.ref q_1, .int 0, .ref q_3, .ref q_5, .null, .null])), (q_1, .inl (c_2, 10, .inl (fun _ => 0))), (q_3, .inl (c_4, 1024, .inl (fun _ => 0))), (q_5, .inl (c_6, 1024, .inl (fun _ => 0))), (q_7, .inl (c_8, 1024, .inl (fun _ => 0)))] := hD
  have hK : va_K D vwCl [(c_2, .int), (c_4, .int), (c_6, .int), (c_8, .int)] s := hK
  refine va_putF (D := D) (ci := 1) (v := .ref q_7) (ty := (.array .int)) (C := RX1) (T := TX1) (N := 6) hx hb hts inA1 tyX1 tyX1_ok nmX1 hown hK hP hD hS 0 rfl rfl 4 (by decide) (hts _ we_291) (fun _ h9 => h9) rfl hin rfl (by decide +kernel) rfl rfl (Nat.le_of_ble_eq_true rfl) dX1_init_36 (fun H locs hP hD hS => ?_)
  have hP : va_P D vwCl [(h0, .inr (1, [.ref q_1, .int 0, .ref q_3, .ref q_5, .ref q_7, .null])), (q_1, .inl (c_2, 10, .inl (fun _ => 0))), (q_3, .inl (c_4, 1024, .inl (fun _ => 0))), (q_5, .inl (c_6, 1024, .inl (fun _ => 0))), (q_7, .inl (c_8, 1024, .inl (fun _ => 0)))] H := hP
  have hD : va_D Ar [(h0, .inr (1, [.ref q_1, .int 0, .ref q_3, .ref q_5, .ref q_7, .null])), (q_1, .inl (c_2, 10, .inl (fun _ => 0))), (q_3, .inl (c_4, 1024, .inl (fun _ => 0))), (q_5, .inl (c_6, 1024, .inl (fun _ => 0))), (q_7, .inl (c_8, 1024, .inl (fun _ => 0)))] := hD
  refine lv_aload_n hx hb dX1_init_39 rfl (lv_at hl 0 rfl) ?_
  refine lv_sipush hx hb dX1_init_40 cs_1024 ?_
  refine va_newa (atype := .int) (n := 1024) (N' := 1024) (ty := .int) (a0 := (1024, .inl (fun _ => 0))) hx hb (hts _ we_110) rfl hK hP hD hS hA (nw_int 1024) (by decide +kernel) (by decide +kernel) (by decide +kernel) (Nat.le_of_ble_eq_true rfl) (Nat.le_of_ble_eq_true rfl) dX1_init_43 (fun q_9 c_10 H hK hP hD hS => ?_)
  have hP : va_P D vwCl [(h0, .inr (1, [.ref q_1, .int 0, .ref q_3, .ref q_5, .ref q_7, .null])), (q_1, .inl (c_2, 10, .inl (fun _ => 0))), (q_3, .inl (c_4, 1024, .inl (fun _ => 0))), (q_5, .inl (c_6, 1024, .inl (fun _ => 0))), (q_7, .inl (c_8, 1024, .inl (fun _ => 0))), (q_9, .inl (c_10, 1024, .inl (fun _ => 0)))] H := hP
  have hD : va_D Ar [(h0, .inr (1, [.ref q_1, .int 0, .ref q_3, .ref q_5, .ref q_7, .null])), (q_1, .inl (c_2, 10, .inl (fun _ => 0))), (q_3, .inl (c_4, 1024, .inl (fun _ => 0))), (q_5, .inl (c_6, 1024, .inl (fun _ => 0))), (q_7, .inl (c_8, 1024, .inl (fun _ => 0))), (q_9, .inl (c_10, 1024, .inl (fun _ => 0)))] := hD
  have hK : va_K D vwCl [(c_2, .int), (c_4, .int), (c_6, .int), (c_8, .int), (c_10, .int)] s := hK
  refine va_putF (D := D) (ci := 1) (v := .ref q_9) (ty := (.array .int)) (C := RX1) (T := TX1) (N := 6) hx hb hts inA1 tyX1 tyX1_ok nmX1 hown hK hP hD hS 0 rfl rfl 5 (by decide) (hts _ we_292) (fun _ h9 => h9) rfl hin rfl (by decide +kernel) rfl rfl (Nat.le_of_ble_eq_true rfl) dX1_init_45 (fun H locs hP hD hS => ?_)
  have hP : va_P D vwCl [(h0, .inr (1, [.ref q_1, .int 0, .ref q_3, .ref q_5, .ref q_7, .ref q_9])), (q_1, .inl (c_2, 10, .inl (fun _ => 0))), (q_3, .inl (c_4, 1024, .inl (fun _ => 0))), (q_5, .inl (c_6, 1024, .inl (fun _ => 0))), (q_7, .inl (c_8, 1024, .inl (fun _ => 0))), (q_9, .inl (c_10, 1024, .inl (fun _ => 0)))] H := hP
  have hD : va_D Ar [(h0, .inr (1, [.ref q_1, .int 0, .ref q_3, .ref q_5, .ref q_7, .ref q_9])), (q_1, .inl (c_2, 10, .inl (fun _ => 0))), (q_3, .inl (c_4, 1024, .inl (fun _ => 0))), (q_5, .inl (c_6, 1024, .inl (fun _ => 0))), (q_7, .inl (c_8, 1024, .inl (fun _ => 0))), (q_9, .inl (c_10, 1024, .inl (fun _ => 0)))] := hD
  refine W.widen (k := 5) (n := 4106) (Nat.le_of_ble_eq_true rfl) (Nat.le_of_ble_eq_true rfl) ?_
  exact W.vret hx hb hr (fun t ht hW => ⟨⟨(), rfl, trivial, q_1, q_3, q_5, q_7, q_9, c_2, c_4, c_6, c_8, c_10, by rw [ht]; exact hP, va_K.moved hW.alike hK, hD⟩, hS.F ht⟩) hS.2.2 dX1_init_48

set_option maxRecDepth 20000 in
theorem we_311 : Cond.methodLink RX0 3 objectInit ∈ AL := AL_t2 (List.mem_of_getElem? (i := 71) rfl) rfl
set_option maxRecDepth 20000 in
theorem we_312 : Cond.fieldLink RX0 9 "DownByAHair$Counterpoise" "sum" "[I" ∈ AL := AL_t2 (List.mem_of_getElem? (i := 72) rfl) rfl
set_option maxHeartbeats 4000000 in
set_option maxRecDepth 100000 in
theorem cX0_init_0 (l : Launch) (D : va_G) (h0 : Nat) (sz : Nat) : Met l yX0_init (Cond.code yX0_init cX0_init 1 none :: AL) (rmC 1 1 4096) (PcC D [.ref h0] sz [(h0, .inr (0, [.null, .int 0, .int 0]))]) (va_Qv (fun _ : Unit => True) (fun (_ : Unit) (t : State) => ∃ (q_1 : Nat) (c_2 : ClassId), va_P D vwCl [(h0, .inr (0, [.ref q_1, .int 0, .int 0])), (q_1, .inl (c_2, 4096, .inl (fun _ => 0)))] t.heap ∧ va_K D vwCl [(c_2, .int)] t ∧ va_D (va_A [(h0, .inr (0, [.null, .int 0, .int 0]))] sz) [(h0, .inr (0, [.ref q_1, .int 0, .int 0])), (q_1, .inl (c_2, 4096, .inl (fun _ => 0)))]) (va_A [(h0, .inr (0, [.null, .int 0, .int 0]))] sz)) 1 4096 (va_A [(h0, .inr (0, [.null, .int 0, .int 0]))] sz) := by
  refine Met.ofW (cc := cX0_init) (maxL := 1) (ret := none) (by decide +kernel) rfl ?_
  intro p e s m args below meth c s₁ B hml hv
  obtain ⟨rfl, hsz, hP, hK, hD0, hSD⟩ := hv
  have hx := B.exec
  have hb := B.bytes
  have hr := B.returns
  have hts0 := atoms_spec (ws := Cond.code yX0_init cX0_init 1 none :: AL) B.pre
  have hts : ∀ w ∈ AL, w.before _ s = true := fun w hw => hts0 w (List.mem_cons_of_mem _ hw)
  have hown : s.vm.findClass yX0_init.cls = some m.cls := findClass_of_methodNamed B.named
  have hlocks := B.notSynchronized
  have hin : meth.name = "<init>" := (name_of_methodNamed B.named B.method).1
  refine (show W p l e (rmC 1 1 4096) s m _ below meth c s.heap [] 0 0 _ _ from ?_)
  subst hsz
  have hD := hD0.self (sz := s.heap.size)
  generalize hAe : va_A [(h0, .inr (0, [.null, .int 0, .int 0]))] s.heap.size = Ar at hD ⊢
  have hA : ∀ q : Nat, s.heap.size ≤ q → Ar q := fun q h => by rw [← hAe]; exact Or.inr h
  have hS : va_S Ar s.heap s.heap [] := va_S.rf
  have hP : va_P D vwCl [(h0, .inr (0, [.null, .int 0, .int 0]))] s.heap := hP
  have hl := lv_entry ([.ref h0]) (n := 1) (Nat.le_of_ble_eq_true rfl)
  rw [lg_entry_eq]
  generalize (lg_sl ([.ref h0]) ++ List.replicate (1 - (lg_sl ([.ref h0])).length) Slot.unset).toArray = ls at hl ⊢
  have hl : lv_has ls 1 [(0, .ref h0)] := hl
  refine lv_aload_n hx hb dX0_init_0 rfl (lv_at hl 0 rfl) ?_
  refine W.objInit hx hb hown (hts _ we_311) (hts _ we_25) (hts _ we_26) rfl (by rw [hml]; exact hl.1) rfl dX0_init_1 (Nat.le_of_ble_eq_true rfl) (Nat.le_of_ble_eq_true rfl) ?_
  refine W.eq (g2 := F0 m 4 ls []) rfl ?_
  refine lv_aload_n hx hb dX0_init_4 rfl (lv_at hl 0 rfl) ?_
  refine lv_sipush hx hb dX0_init_5 cs_4096 ?_
  refine va_newa (atype := .int) (n := 4096) (N' := 4096) (ty := .int) (a0 := (4096, .inl (fun _ => 0))) hx hb (hts _ we_110) rfl hK hP hD hS hA (nw_int 4096) (by decide +kernel) (by decide +kernel) (by decide +kernel) (Nat.le_of_ble_eq_true rfl) (Nat.le_of_ble_eq_true rfl) dX0_init_8 (fun q_1 c_2 H hK hP hD hS => ?_)
  have hP : va_P D vwCl [(h0, .inr (0, [.null, .int 0, .int 0])), (q_1, .inl (c_2, 4096, .inl (fun _ => 0)))] H := hP
  have hD : va_D Ar [(h0, .inr (0, [.null, .int 0, .int 0])), (q_1, .inl (c_2, 4096, .inl (fun _ => 0)))] := hD
  have hK : va_K D vwCl [(c_2, .int)] s := hK
  refine va_putF (D := D) (ci := 0) (v := .ref q_1) (ty := (.array .int)) (C := RX0) (T := TX0) (N := 3) hx hb hts inA0 tyX0 tyX0_ok nmX0 hown hK hP hD hS 0 rfl rfl 0 (by decide) (hts _ we_312) (fun _ h9 => h9) rfl hin rfl (by decide +kernel) rfl rfl (Nat.le_of_ble_eq_true rfl) dX0_init_10 (fun H locs hP hD hS => ?_)
  have hP : va_P D vwCl [(h0, .inr (0, [.ref q_1, .int 0, .int 0])), (q_1, .inl (c_2, 4096, .inl (fun _ => 0)))] H := hP
  have hD : va_D Ar [(h0, .inr (0, [.ref q_1, .int 0, .int 0])), (q_1, .inl (c_2, 4096, .inl (fun _ => 0)))] := hD
  refine W.widen (k := 1) (n := 4096) (Nat.le_of_ble_eq_true rfl) (Nat.le_of_ble_eq_true rfl) ?_
  exact W.vret hx hb hr (fun t ht hW => ⟨⟨(), rfl, trivial, q_1, c_2, by rw [ht]; exact hP, va_K.moved hW.alike hK, hD⟩, hS.F ht⟩) hS.2.2 dX0_init_13

set_option maxRecDepth 20000 in
theorem we_208 : Cond.methodLink RX2 3 objectInit ∈ AL := AL_t1 (List.mem_of_getElem? (i := 208) rfl) rfl
set_option maxRecDepth 20000 in
theorem we_210 : Cond.fieldLink RX2 11 "DownByAHair$Reader" "waiting" "[I" ∈ AL := AL_t1 (List.mem_of_getElem? (i := 210) rfl) rfl
set_option maxRecDepth 20000 in
theorem we_213 : Cond.fieldLink RX2 15 "DownByAHair$Reader" "fault" "I" ∈ AL := AL_t1 (List.mem_of_getElem? (i := 213) rfl) rfl
set_option maxRecDepth 20000 in
theorem we_215 : Cond.fieldLink RX2 19 "DownByAHair$Reader" "place" "I" ∈ AL := AL_t1 (List.mem_of_getElem? (i := 215) rfl) rfl
set_option maxRecDepth 20000 in
theorem we_209 : Cond.fieldLink RX2 22 "DownByAHair$Reader" "tokens" "LDownByAHair$Tokens;" ∈ AL := AL_t1 (List.mem_of_getElem? (i := 209) rfl) rfl
set_option maxHeartbeats 4000000 in
set_option maxRecDepth 100000 in
theorem cX2_init_2 (l : Launch) (D : va_G) (h0 : Nat) (h1 : Nat) (sz : Nat) : Met l yX2_init (Cond.code yX2_init cX2_init 2 none :: AL) (rmC 1 1 29) (PcC D [.ref h0, .ref h1] sz [(h0, .inr (2, [.null, .null, .int 0, .null, .int 0, .int 0, .int 0, .int 0, .int 0, .int 0, .int 0, .int 0, .int 0]))]) (va_Qv (fun _ : Unit => True) (fun (_ : Unit) (t : State) => ∃ (q_1 : Nat) (c_2 : ClassId), va_P D vwCl [(h0, .inr (2, [.ref h1, .ref q_1, .int 0, .null, .int (-1), .int (-1), .int 0, .int 0, .int 0, .int 0, .int 0, .int 0, .int 0])), (q_1, .inl (c_2, 29, .inl (fun _ => 0)))] t.heap ∧ va_K D vwCl [(c_2, .int)] t ∧ va_D (va_A [(h0, .inr (2, [.null, .null, .int 0, .null, .int 0, .int 0, .int 0, .int 0, .int 0, .int 0, .int 0, .int 0, .int 0]))] sz) [(h0, .inr (2, [.ref h1, .ref q_1, .int 0, .null, .int (-1), .int (-1), .int 0, .int 0, .int 0, .int 0, .int 0, .int 0, .int 0])), (q_1, .inl (c_2, 29, .inl (fun _ => 0)))]) (va_A [(h0, .inr (2, [.null, .null, .int 0, .null, .int 0, .int 0, .int 0, .int 0, .int 0, .int 0, .int 0, .int 0, .int 0]))] sz)) 1 29 (va_A [(h0, .inr (2, [.null, .null, .int 0, .null, .int 0, .int 0, .int 0, .int 0, .int 0, .int 0, .int 0, .int 0, .int 0]))] sz) := by
  refine Met.ofW (cc := cX2_init) (maxL := 2) (ret := none) (by decide +kernel) rfl ?_
  intro p e s m args below meth c s₁ B hml hv
  obtain ⟨rfl, hsz, hP, hK, hD0, hSD⟩ := hv
  have hx := B.exec
  have hb := B.bytes
  have hr := B.returns
  have hts0 := atoms_spec (ws := Cond.code yX2_init cX2_init 2 none :: AL) B.pre
  have hts : ∀ w ∈ AL, w.before _ s = true := fun w hw => hts0 w (List.mem_cons_of_mem _ hw)
  have hown : s.vm.findClass yX2_init.cls = some m.cls := findClass_of_methodNamed B.named
  have hlocks := B.notSynchronized
  have hin : meth.name = "<init>" := (name_of_methodNamed B.named B.method).1
  refine (show W p l e (rmC 1 1 29) s m _ below meth c s.heap [] 0 0 _ _ from ?_)
  subst hsz
  have hD := hD0.self (sz := s.heap.size)
  generalize hAe : va_A [(h0, .inr (2, [.null, .null, .int 0, .null, .int 0, .int 0, .int 0, .int 0, .int 0, .int 0, .int 0, .int 0, .int 0]))] s.heap.size = Ar at hD ⊢
  have hA : ∀ q : Nat, s.heap.size ≤ q → Ar q := fun q h => by rw [← hAe]; exact Or.inr h
  have hS : va_S Ar s.heap s.heap [] := va_S.rf
  have hP : va_P D vwCl [(h0, .inr (2, [.null, .null, .int 0, .null, .int 0, .int 0, .int 0, .int 0, .int 0, .int 0, .int 0, .int 0, .int 0]))] s.heap := hP
  have hl := lv_entry ([.ref h0, .ref h1]) (n := 2) (Nat.le_of_ble_eq_true rfl)
  rw [lg_entry_eq]
  generalize (lg_sl ([.ref h0, .ref h1]) ++ List.replicate (2 - (lg_sl ([.ref h0, .ref h1])).length) Slot.unset).toArray = ls at hl ⊢
  have hl : lv_has ls 2 [(0, .ref h0), (1, .ref h1)] := hl
  refine lv_aload_n hx hb dX2_init_0 rfl (lv_at hl 0 rfl) ?_
  refine W.objInit hx hb hown (hts _ we_208) (hts _ we_25) (hts _ we_26) rfl (by rw [hml]; exact hl.1) rfl dX2_init_1 (Nat.le_of_ble_eq_true rfl) (Nat.le_of_ble_eq_true rfl) ?_
  refine W.eq (g2 := F0 m 4 ls []) rfl ?_
  refine lv_aload_n hx hb dX2_init_4 rfl (lv_at hl 0 rfl) ?_
  refine lv_bipush hx hb dX2_init_5 cb_29 ?_
  refine va_newa (atype := .int) (n := 29) (N' := 29) (ty := .int) (a0 := (29, .inl (fun _ => 0))) hx hb (hts _ we_110) rfl hK hP hD hS hA (nw_int 29) (by decide +kernel) (by decide +kernel) (by decide +kernel) (Nat.le_of_ble_eq_true rfl) (Nat.le_of_ble_eq_true rfl) dX2_init_7 (fun q_1 c_2 H hK hP hD hS => ?_)
  have hP : va_P D vwCl [(h0, .inr (2, [.null, .null, .int 0, .null, .int 0, .int 0, .int 0, .int 0, .int 0, .int 0, .int 0, .int 0, .int 0])), (q_1, .inl (c_2, 29, .inl (fun _ => 0)))] H := hP
  have hD : va_D Ar [(h0, .inr (2, [.null, .null, .int 0, .null, .int 0, .int 0, .int 0, .int 0, .int 0, .int 0, .int 0, .int 0, .int 0])), (q_1, .inl (c_2, 29, .inl (fun _ => 0)))] := hD
  have hK : va_K D vwCl [(c_2, .int)] s := hK
  refine va_putF (D := D) (ci := 2) (v := .ref q_1) (ty := (.array .int)) (C := RX2) (T := TX2) (N := 13) hx hb hts inA2 tyX2 tyX2_ok nmX2 hown hK hP hD hS 0 rfl rfl 1 (by decide) (hts _ we_210) (fun _ h9 => h9) rfl hin rfl (by decide +kernel) rfl rfl (Nat.le_of_ble_eq_true rfl) dX2_init_9 (fun H locs hP hD hS => ?_)
  have hP : va_P D vwCl [(h0, .inr (2, [.null, .ref q_1, .int 0, .null, .int 0, .int 0, .int 0, .int 0, .int 0, .int 0, .int 0, .int 0, .int 0])), (q_1, .inl (c_2, 29, .inl (fun _ => 0)))] H := hP
  have hD : va_D Ar [(h0, .inr (2, [.null, .ref q_1, .int 0, .null, .int 0, .int 0, .int 0, .int 0, .int 0, .int 0, .int 0, .int 0, .int 0])), (q_1, .inl (c_2, 29, .inl (fun _ => 0)))] := hD
  refine lv_aload_n hx hb dX2_init_12 rfl (lv_at hl 0 rfl) ?_
  refine lv_iconst hx hb dX2_init_13 ci_m1 ?_
  refine va_put (D := D) (ci := 2) (v := .int (-1)) (ty := .int) (C := RX2) (T := TX2) (N := 13) hx hb hts inA2 tyX2 tyX2_ok nmX2 hown hK hP hD hS 0 rfl rfl 4 (by decide) (hts _ we_213) (fun _ h9 => h9) rfl (by decide +kernel) rfl rfl (Nat.le_of_ble_eq_true rfl) dX2_init_14 (fun H locs hP hD hS => ?_)
  have hP : va_P D vwCl [(h0, .inr (2, [.null, .ref q_1, .int 0, .null, .int (-1), .int 0, .int 0, .int 0, .int 0, .int 0, .int 0, .int 0, .int 0])), (q_1, .inl (c_2, 29, .inl (fun _ => 0)))] H := hP
  have hD : va_D Ar [(h0, .inr (2, [.null, .ref q_1, .int 0, .null, .int (-1), .int 0, .int 0, .int 0, .int 0, .int 0, .int 0, .int 0, .int 0])), (q_1, .inl (c_2, 29, .inl (fun _ => 0)))] := hD
  refine lv_aload_n hx hb dX2_init_17 rfl (lv_at hl 0 rfl) ?_
  refine lv_iconst hx hb dX2_init_18 ci_m1 ?_
  refine va_put (D := D) (ci := 2) (v := .int (-1)) (ty := .int) (C := RX2) (T := TX2) (N := 13) hx hb hts inA2 tyX2 tyX2_ok nmX2 hown hK hP hD hS 0 rfl rfl 5 (by decide) (hts _ we_215) (fun _ h9 => h9) rfl (by decide +kernel) rfl rfl (Nat.le_of_ble_eq_true rfl) dX2_init_19 (fun H locs hP hD hS => ?_)
  have hP : va_P D vwCl [(h0, .inr (2, [.null, .ref q_1, .int 0, .null, .int (-1), .int (-1), .int 0, .int 0, .int 0, .int 0, .int 0, .int 0, .int 0])), (q_1, .inl (c_2, 29, .inl (fun _ => 0)))] H := hP
  have hD : va_D Ar [(h0, .inr (2, [.null, .ref q_1, .int 0, .null, .int (-1), .int (-1), .int 0, .int 0, .int 0, .int 0, .int 0, .int 0, .int 0])), (q_1, .inl (c_2, 29, .inl (fun _ => 0)))] := hD
  refine lv_aload_n hx hb dX2_init_22 rfl (lv_at hl 0 rfl) ?_
  refine lv_aload_n hx hb dX2_init_23 rfl (lv_at hl 1 rfl) ?_
  refine va_putF (D := D) (ci := 2) (v := .ref h1) (ty := (.object "DownByAHair$Tokens")) (C := RX2) (T := TX2) (N := 13) hx hb hts inA2 tyX2 tyX2_ok nmX2 hown hK hP hD hS 0 rfl rfl 0 (by decide) (hts _ we_209) (fun _ h9 => h9) rfl hin rfl (by decide +kernel) rfl rfl (Nat.le_of_ble_eq_true rfl) dX2_init_24 (fun H locs hP hD hS => ?_)
  have hP : va_P D vwCl [(h0, .inr (2, [.ref h1, .ref q_1, .int 0, .null, .int (-1), .int (-1), .int 0, .int 0, .int 0, .int 0, .int 0, .int 0, .int 0])), (q_1, .inl (c_2, 29, .inl (fun _ => 0)))] H := hP
  have hD : va_D Ar [(h0, .inr (2, [.ref h1, .ref q_1, .int 0, .null, .int (-1), .int (-1), .int 0, .int 0, .int 0, .int 0, .int 0, .int 0, .int 0])), (q_1, .inl (c_2, 29, .inl (fun _ => 0)))] := hD
  refine W.widen (k := 1) (n := 29) (Nat.le_of_ble_eq_true rfl) (Nat.le_of_ble_eq_true rfl) ?_
  exact W.vret hx hb hr (fun t ht hW => ⟨⟨(), rfl, trivial, q_1, c_2, by rw [ht]; exact hP, va_K.moved hW.alike hK, hD⟩, hS.F ht⟩) hS.2.2 dX2_init_27

