def fX10_clauseOf_2_b (a1 : Int32) (s0 : Sg) (rec2 : Int32 → Option (Int32 × Sg)) (x2_1 : Int32) : Option (Int32 × Sg) :=
  if (gi s0 28 (ix 8)) < 0 then
    some ((-1), s0)
  else
    chk (inb 2720 (680 * (gi s0 28 (ix 8)))) <|
    if (gi s0 30 (ix (680 * (gi s0 28 (ix 8))))) ≤ x2_1 then
      some ((-1), s0)
    else
      chk (inb 2720 (((680 * (gi s0 28 (ix 8))) + 1) + (3 * x2_1))) <|
      if (gi s0 30 (ix (((680 * (gi s0 28 (ix 8))) + 1) + (3 * x2_1)))) = a1 then
        some (x2_1, s0)
      else
        bv (x2_1 + 1) fun v_4 =>
        rec2 v_4
def fX10_clauseOf (a1 : Int32) (s0 : Sg) : Option (Int32 × Sg) :=
  lo1 (fX10_clauseOf_2_b a1 s0) FU 0
theorem wX10_clauseOf_2 {p : Program} {l : Launch} {e : Env} {s : State} {m : MethodId} {args : Array Value} {below : List Frame} {meth : Method} {c : Code} {D : va_G} {ct : Nat → ClassId} {A : Nat → Nat} (C : Cx p m c cX10_clauseOf 3 s args yX10_clauseOf.cls meth (some .int) D ct A) (a1 : Int32) (s0 : Sg) : ∀ (n : Nat) (x2_1 : Int32), Wm p l e (rmD 0) s m args below meth c D ct A 3 embI 2 [(0, .ref (A 27)), (1, .int a1), (2, .int x2_1)] [] s0 (lo1 (fX10_clauseOf_2_b a1 s0) n x2_1) := by
  intro n
  induction n with
  | zero => intro x2_1; exact m_none
  | succ n hrec2 =>
    intro x2_1
    refine (show Wm p l e (rmD 0) s m args below meth c D ct A 3 embI 2 [(0, .ref (A 27)), (1, .int a1), (2, .int x2_1)] [] s0 (fX10_clauseOf_2_b a1 s0 (lo1 (fX10_clauseOf_2_b a1 s0) n) x2_1) from ?_)
    generalize lo1 (fX10_clauseOf_2_b a1 s0) n = rec2 at hrec2 ⊢
    unfold fX10_clauseOf_2_b
    refine m_aload_n C dX10_clauseOf_2 rfl ?_
    refine m_get (v := .ref (A 28)) C fl_X10_7_9 rfl (by decide) rfl dX10_clauseOf_3 ?_
    refine m_bipush C dX10_clauseOf_6 cb_8 ?_
    refine m_iald C rfl (by decide +kernel) dX10_clauseOf_8 ?_
    refine m_if_lt (tgt := 66) C dX10_clauseOf_9 rfl ?_ ?_
    · refine m_iconst C dX10_clauseOf_66 ci_m1 ?_
      exact m_iret C dX10_clauseOf_67
    · refine m_iload_n C dX10_clauseOf_12 rfl ?_
      refine m_aload_n C dX10_clauseOf_13 rfl ?_
      refine m_get (v := .ref (A 30)) C fl_X10_16_9 rfl (by decide) rfl dX10_clauseOf_14 ?_
      refine m_sipush C dX10_clauseOf_17 cs_680 ?_
      refine m_aload_n C dX10_clauseOf_20 rfl ?_
      refine m_get (v := .ref (A 28)) C fl_X10_7_9 rfl (by decide) rfl dX10_clauseOf_21 ?_
      refine m_bipush C dX10_clauseOf_24 cb_8 ?_
      refine m_iald C rfl (by decide +kernel) dX10_clauseOf_26 ?_
      refine m_imul C dX10_clauseOf_27 ?_
      refine m_chk (fun h_2 => ?_)
      refine m_iald C rfl h_2 dX10_clauseOf_28 ?_
      refine m_icmp_ge (tgt := 66) C dX10_clauseOf_29 rfl ?_ ?_
      · refine m_iconst C dX10_clauseOf_66 ci_m1 ?_
        exact m_iret C dX10_clauseOf_67
      · refine m_aload_n C dX10_clauseOf_32 rfl ?_
        refine m_get (v := .ref (A 30)) C fl_X10_16_9 rfl (by decide) rfl dX10_clauseOf_33 ?_
        refine m_sipush C dX10_clauseOf_36 cs_680 ?_
        refine m_aload_n C dX10_clauseOf_39 rfl ?_
        refine m_get (v := .ref (A 28)) C fl_X10_7_9 rfl (by decide) rfl dX10_clauseOf_40 ?_
        refine m_bipush C dX10_clauseOf_43 cb_8 ?_
        refine m_iald C rfl (by decide +kernel) dX10_clauseOf_45 ?_
        refine m_imul C dX10_clauseOf_46 ?_
        refine m_iconst C dX10_clauseOf_47 ci_1 ?_
        refine m_iadd C dX10_clauseOf_48 ?_
        refine m_iconst C dX10_clauseOf_49 ci_3 ?_
        refine m_iload_n C dX10_clauseOf_50 rfl ?_
        refine m_imul C dX10_clauseOf_51 ?_
        refine m_iadd C dX10_clauseOf_52 ?_
        refine m_chk (fun h_3 => ?_)
        refine m_iald C rfl h_3 dX10_clauseOf_53 ?_
        refine m_iload_n C dX10_clauseOf_54 rfl ?_
        refine m_icmp_ne (tgt := 60) C dX10_clauseOf_55 rfl ?_ ?_
        · refine m_iincb (L2 := fun v_4 => [(2, .int v_4), (0, .ref (A 27)), (1, .int a1)]) (q := 2) C dX10_clauseOf_60 rfl ci_1 (by decide) (fun _ => rfl) (fun v_4 => ?_)
          refine m_goto (tgt := 2) C dX10_clauseOf_63 rfl ?_
          refine m_loc (L2 := [(0, .ref (A 27)), (1, .int a1), (2, .int v_4)]) [1, 2, 0] rfl ?_
          exact hrec2 v_4
        · refine m_iload_n C dX10_clauseOf_58 rfl ?_
          exact m_iret C dX10_clauseOf_59
theorem kX10_clauseOf (l : Launch) (D : va_G) (ct : Nat → ClassId) (A : Nat → Nat) (a1 : Int32) (s0 : Sg) (o : Int32 × Sg) (ho : fX10_clauseOf a1 s0 = some o) : Con l yX10_clauseOf cX10_clauseOf 3 (some .int) 0 D ct A [.ref (A 27), .int a1] s0 (embI o) := by
  refine con_start (by decide +kernel) (Nat.le_of_ble_eq_true rfl) ho (fun p e s m args below meth c C => ?_)
  refine m_loc (L2 := [(0, .ref (A 27)), (1, .int a1)]) [0, 1] rfl ?_
  unfold fX10_clauseOf
  refine m_iconst C dX10_clauseOf_0 ci_0 ?_
  refine m_istore_n (L2 := [(2, .int 0), (0, .ref (A 27)), (1, .int a1)]) C dX10_clauseOf_1 rfl (by decide) rfl ?_
  refine m_loc (L2 := [(0, .ref (A 27)), (1, .int a1), (2, .int 0)]) [1, 2, 0] rfl ?_
  exact wX10_clauseOf_2 C a1 s0 FU 0
def fX10_name (a1 : Int32) (a2 : Int32) (a3 : Int32) (s0 : Sg) : Option (Sg) :=
  bv (si s0 33 (ix 0) a1) fun s_1 =>
  bv (si s_1 33 (ix 1) a2) fun s_2 =>
  bv (si s_2 33 (ix 2) a3) fun s_3 =>
  some s_3
theorem kX10_name (l : Launch) (D : va_G) (ct : Nat → ClassId) (A : Nat → Nat) (a1 : Int32) (a2 : Int32) (a3 : Int32) (s0 : Sg) (o : Sg) (ho : fX10_name a1 a2 a3 s0 = some o) : Con l yX10_name cX10_name 4 none 0 D ct A [.ref (A 27), .int a1, .int a2, .int a3] s0 (embV o) := by
  refine con_start (by decide +kernel) (Nat.le_of_ble_eq_true rfl) ho (fun p e s m args below meth c C => ?_)
  refine m_loc (L2 := [(0, .ref (A 27)), (1, .int a1), (2, .int a2), (3, .int a3)]) [0, 1, 2, 3] rfl ?_
  unfold fX10_name
  refine m_aload_n C dX10_name_0 rfl ?_
  refine m_get (v := .ref (A 33)) C fl_X10_32_9 rfl (by decide) rfl dX10_name_1 ?_
  refine m_iconst C dX10_name_4 ci_0 ?_
  refine m_iload_n C dX10_name_5 rfl ?_
  refine m_iast C rfl (by decide +kernel) dX10_name_6 (fun s_1 => ?_)
  refine m_aload_n C dX10_name_7 rfl ?_
  refine m_get (v := .ref (A 33)) C fl_X10_32_9 rfl (by decide) rfl dX10_name_8 ?_
  refine m_iconst C dX10_name_11 ci_1 ?_
  refine m_iload_n C dX10_name_12 rfl ?_
  refine m_iast C rfl (by decide +kernel) dX10_name_13 (fun s_2 => ?_)
  refine m_aload_n C dX10_name_14 rfl ?_
  refine m_get (v := .ref (A 33)) C fl_X10_32_9 rfl (by decide) rfl dX10_name_15 ?_
  refine m_iconst C dX10_name_18 ci_2 ?_
  refine m_iload_n C dX10_name_19 rfl ?_
  refine m_iast C rfl (by decide +kernel) dX10_name_20 (fun s_3 => ?_)
  exact m_vret C dX10_name_21
def fX10_borne (a1 : Int32) (a2 : Int32) (a3 : Int32) (a4 : Int32) (s0 : Sg) : Option (Int32 × Sg) :=
  bnd (fX10_clauseOf 0 s0) fun r_1 s_2 =>
  if 0 ≤ r_1 then
    bv (si s_2 33 (ix 3) a1) fun s_3 =>
    bv (si s_3 33 (ix 4) a2) fun s_4 =>
    bv (si s_4 33 (ix 5) a3) fun s_5 =>
    bv (si s_5 33 (ix 6) a4) fun s_6 =>
    bnv (fX10_work r_1 s_6) fun s_7 =>
    bnd (fX10_held (gl s_7 34 (ix 0)) 0 9999 s_7) fun r_8 s_9 =>
    some (r_8, s_9)
  else
    some (a2, s_2)
theorem kX10_borne (l : Launch) (D : va_G) (ct : Nat → ClassId) (A : Nat → Nat) (a1 : Int32) (a2 : Int32) (a3 : Int32) (a4 : Int32) (s0 : Sg) (o : Int32 × Sg) (ho : fX10_borne a1 a2 a3 a4 s0 = some o) : Con l yX10_borne cX10_borne 6 (some .int) 3 D ct A [.ref (A 27), .int a1, .int a2, .int a3, .int a4] s0 (embI o) := by
  refine con_start (by decide +kernel) (Nat.le_of_ble_eq_true rfl) ho (fun p e s m args below meth c C => ?_)
  refine m_loc (L2 := [(0, .ref (A 27)), (1, .int a1), (2, .int a2), (3, .int a3), (4, .int a4)]) [0, 1, 2, 3, 4] rfl ?_
  unfold fX10_borne
  refine m_aload_n C dX10_borne_0 rfl ?_
  refine m_iconst C dX10_borne_1 ci_0 ?_
  refine m_callVI C ml_X10_251 ⟨Nat.le_of_ble_eq_true rfl, Nat.le_of_ble_eq_true rfl⟩ rfl rfl [.int 0] [] rfl rfl (Nat.le_of_ble_eq_true rfl) dX10_borne_2 (fun o ho => kX10_clauseOf l D ct A 0 s0 o ho) (fun r_1 s_2 => ?_)
  refine m_istore (L2 := [(5, .int r_1), (0, .ref (A 27)), (1, .int a1), (2, .int a2), (3, .int a3), (4, .int a4)]) C dX10_borne_5 (by decide) rfl ?_
  refine m_iload C dX10_borne_7 rfl ?_
  refine m_if_ge (tgt := 14) C dX10_borne_9 rfl ?_ ?_
  · refine m_aload_n C dX10_borne_14 rfl ?_
    refine m_get (v := .ref (A 33)) C fl_X10_32_9 rfl (by decide) rfl dX10_borne_15 ?_
    refine m_iconst C dX10_borne_18 ci_3 ?_
    refine m_iload_n C dX10_borne_19 rfl ?_
    refine m_iast C rfl (by decide +kernel) dX10_borne_20 (fun s_3 => ?_)
    refine m_aload_n C dX10_borne_21 rfl ?_
    refine m_get (v := .ref (A 33)) C fl_X10_32_9 rfl (by decide) rfl dX10_borne_22 ?_
    refine m_iconst C dX10_borne_25 ci_4 ?_
    refine m_iload_n C dX10_borne_26 rfl ?_
    refine m_iast C rfl (by decide +kernel) dX10_borne_27 (fun s_4 => ?_)
    refine m_aload_n C dX10_borne_28 rfl ?_
    refine m_get (v := .ref (A 33)) C fl_X10_32_9 rfl (by decide) rfl dX10_borne_29 ?_
    refine m_iconst C dX10_borne_32 ci_5 ?_
    refine m_iload_n C dX10_borne_33 rfl ?_
    refine m_iast C rfl (by decide +kernel) dX10_borne_34 (fun s_5 => ?_)
    refine m_aload_n C dX10_borne_35 rfl ?_
    refine m_get (v := .ref (A 33)) C fl_X10_32_9 rfl (by decide) rfl dX10_borne_36 ?_
    refine m_bipush C dX10_borne_39 cb_6 ?_
    refine m_iload C dX10_borne_41 rfl ?_
    refine m_iast C rfl (by decide +kernel) dX10_borne_43 (fun s_6 => ?_)
    refine m_aload_n C dX10_borne_44 rfl ?_
    refine m_iload C dX10_borne_45 rfl ?_
    refine m_callVV C ml_X10_254 ⟨Nat.le_of_ble_eq_true rfl, Nat.le_of_ble_eq_true rfl⟩ rfl rfl [.int r_1] [] rfl rfl (Nat.le_of_ble_eq_true rfl) dX10_borne_47 (fun o ho => kX10_work l D ct A r_1 s_6 o ho) (fun s_7 => ?_)
    refine m_aload_n C dX10_borne_50 rfl ?_
    refine m_get (v := .ref (A 34)) C fl_X10_35_9 rfl (by decide) rfl dX10_borne_51 ?_
    refine m_iconst C dX10_borne_54 ci_0 ?_
    refine m_lald C rfl (by decide +kernel) dX10_borne_55 ?_
    refine m_iconst C dX10_borne_56 ci_0 ?_
    refine m_sipush C dX10_borne_57 cs_9999 ?_
    refine m_callSI C ml_X10_257 ⟨Nat.le_of_ble_eq_true rfl, Nat.le_of_ble_eq_true rfl⟩ [.long (gl s_7 34 (ix 0)), .int 0, .int 9999] [] rfl rfl (Nat.le_of_ble_eq_true rfl) dX10_borne_60 (fun o ho => kX10_held l D ct A (gl s_7 34 (ix 0)) 0 9999 s_7 o ho) (fun r_8 s_9 => ?_)
    exact m_iret C dX10_borne_63
  · refine m_iload_n C dX10_borne_12 rfl ?_
    exact m_iret C dX10_borne_13
def fX10_bears (a1 : Int32) (a2 : Int32) (s0 : Sg) : Option (Int32 × Sg) :=
  bnd (fX10_thingAt a1 s0) fun r_1 s_2 =>
  chk (inb 720 r_1) <|
  bnd (fX10_thingAt a1 s_2) fun r_4 s_5 =>
  chk (inb 720 (r_4 + 1)) <|
  bnd (fX10_borne a1 (gi s_2 28 (ix r_1)) (gi s_5 28 (ix (r_4 + 1))) a2 s_5) fun r_7 s_8 =>
  some (r_7, s_8)
theorem kX10_bears (l : Launch) (D : va_G) (ct : Nat → ClassId) (A : Nat → Nat) (a1 : Int32) (a2 : Int32) (s0 : Sg) (o : Int32 × Sg) (ho : fX10_bears a1 a2 s0 = some o) : Con l yX10_bears cX10_bears 3 (some .int) 4 D ct A [.ref (A 27), .int a1, .int a2] s0 (embI o) := by
  refine con_start (by decide +kernel) (Nat.le_of_ble_eq_true rfl) ho (fun p e s m args below meth c C => ?_)
  refine m_loc (L2 := [(0, .ref (A 27)), (1, .int a1), (2, .int a2)]) [0, 1, 2] rfl ?_
  unfold fX10_bears
  refine m_aload_n C dX10_bears_0 rfl ?_
  refine m_iload_n C dX10_bears_1 rfl ?_
  refine m_aload_n C dX10_bears_2 rfl ?_
  refine m_get (v := .ref (A 28)) C fl_X10_7_9 rfl (by decide) rfl dX10_bears_3 ?_
  refine m_iload_n C dX10_bears_6 rfl ?_
  refine m_callSI C ml_X10_87 ⟨Nat.le_of_ble_eq_true rfl, Nat.le_of_ble_eq_true rfl⟩ [.int a1] [.ref (A 28), .int a1, .ref (A 27)] rfl rfl (Nat.le_of_ble_eq_true rfl) dX10_bears_7 (fun o ho => kX10_thingAt l D ct A a1 s0 o ho) (fun r_1 s_2 => ?_)
  refine m_chk (fun h_3 => ?_)
  refine m_iald C rfl h_3 dX10_bears_10 ?_
  refine m_aload_n C dX10_bears_11 rfl ?_
  refine m_get (v := .ref (A 28)) C fl_X10_7_9 rfl (by decide) rfl dX10_bears_12 ?_
  refine m_iload_n C dX10_bears_15 rfl ?_
  refine m_callSI C ml_X10_87 ⟨Nat.le_of_ble_eq_true rfl, Nat.le_of_ble_eq_true rfl⟩ [.int a1] [.ref (A 28), .int (gi s_2 28 (ix r_1)), .int a1, .ref (A 27)] rfl rfl (Nat.le_of_ble_eq_true rfl) dX10_bears_16 (fun o ho => kX10_thingAt l D ct A a1 s_2 o ho) (fun r_4 s_5 => ?_)
  refine m_iconst C dX10_bears_19 ci_1 ?_
  refine m_iadd C dX10_bears_20 ?_
  refine m_chk (fun h_6 => ?_)
  refine m_iald C rfl h_6 dX10_bears_21 ?_
  refine m_iload_n C dX10_bears_22 rfl ?_
  refine m_callVI C ml_X10_261 ⟨Nat.le_of_ble_eq_true rfl, Nat.le_of_ble_eq_true rfl⟩ rfl rfl [.int a1, .int (gi s_2 28 (ix r_1)), .int (gi s_5 28 (ix (r_4 + 1))), .int a2] [] rfl rfl (Nat.le_of_ble_eq_true rfl) dX10_bears_23 (fun o ho => kX10_borne l D ct A a1 (gi s_2 28 (ix r_1)) (gi s_5 28 (ix (r_4 + 1))) a2 s_5 o ho) (fun r_7 s_8 => ?_)
  exact m_iret C dX10_bears_26
def fX10_nameNow (s0 : Sg) : Option (Sg) :=
  bnv (fX10_name (gi s0 28 (ix 4)) (gi s0 28 (ix 5)) (gi s0 28 (ix 6)) s0) fun s_1 =>
  some s_1
theorem kX10_nameNow (l : Launch) (D : va_G) (ct : Nat → ClassId) (A : Nat → Nat) (s0 : Sg) (o : Sg) (ho : fX10_nameNow s0 = some o) : Con l yX10_nameNow cX10_nameNow 1 none 1 D ct A [.ref (A 27)] s0 (embV o) := by
  refine con_start (by decide +kernel) (Nat.le_of_ble_eq_true rfl) ho (fun p e s m args below meth c C => ?_)
  refine m_loc (L2 := [(0, .ref (A 27))]) [0] rfl ?_
  unfold fX10_nameNow
  refine m_aload_n C dX10_nameNow_0 rfl ?_
  refine m_aload_n C dX10_nameNow_1 rfl ?_
  refine m_get (v := .ref (A 28)) C fl_X10_7_9 rfl (by decide) rfl dX10_nameNow_2 ?_
  refine m_iconst C dX10_nameNow_5 ci_4 ?_
  refine m_iald C rfl (by decide +kernel) dX10_nameNow_6 ?_
  refine m_aload_n C dX10_nameNow_7 rfl ?_
  refine m_get (v := .ref (A 28)) C fl_X10_7_9 rfl (by decide) rfl dX10_nameNow_8 ?_
  refine m_iconst C dX10_nameNow_11 ci_5 ?_
  refine m_iald C rfl (by decide +kernel) dX10_nameNow_12 ?_
  refine m_aload_n C dX10_nameNow_13 rfl ?_
  refine m_get (v := .ref (A 28)) C fl_X10_7_9 rfl (by decide) rfl dX10_nameNow_14 ?_
  refine m_bipush C dX10_nameNow_17 cb_6 ?_
  refine m_iald C rfl (by decide +kernel) dX10_nameNow_19 ?_
  refine m_callVV C ml_X10_264 ⟨Nat.le_of_ble_eq_true rfl, Nat.le_of_ble_eq_true rfl⟩ rfl rfl [.int (gi s0 28 (ix 4)), .int (gi s0 28 (ix 5)), .int (gi s0 28 (ix 6))] [] rfl rfl (Nat.le_of_ble_eq_true rfl) dX10_nameNow_20 (fun o ho => kX10_name l D ct A (gi s0 28 (ix 4)) (gi s0 28 (ix 5)) (gi s0 28 (ix 6)) s0 o ho) (fun s_1 => ?_)
  exact m_vret C dX10_nameNow_23
def fX10_load_4_b (a1 : Int32) (rec4 : Int32 → Int32 → Sg → Option (Int32 × Sg)) (x2_1 : Int32) (x3_2 : Int32) (s_3 : Sg) : Option (Int32 × Sg) :=
  if (gi s_3 28 (ix 0)) ≤ x3_2 then
    some (x2_1, s_3)
  else
    bnd (fX10_panOf x3_2 s_3) fun r_4 s_5 =>
    bv (fun (y_6 : Int32) (y_7 : Int32) (s_8 : Sg) => 
      bv (y_6 + y_7) fun v_10 =>
      bv (x3_2 + 1) fun v_11 =>
      rec4 v_10 v_11 s_8)
    fun k_9 =>
    if r_4 = a1 then
      bnd (fX10_bears x3_2 a1 s_5) fun r_12 s_13 =>
      k_9 x2_1 r_12 s_13
    else
      k_9 x2_1 0 s_5
def fX10_load (a1 : Int32) (s0 : Sg) : Option (Int32 × Sg) :=
  lo3 (fX10_load_4_b a1) FU 0 0 s0
theorem wX10_load_4 {p : Program} {l : Launch} {e : Env} {s : State} {m : MethodId} {args : Array Value} {below : List Frame} {meth : Method} {c : Code} {D : va_G} {ct : Nat → ClassId} {A : Nat → Nat} (C : Cx p m c cX10_load 4 s args yX10_load.cls meth (some .int) D ct A) (a1 : Int32) : ∀ (n : Nat) (x2_1 : Int32) (x3_2 : Int32) (s_3 : Sg), Wm p l e (rmD 5) s m args below meth c D ct A 4 embI 4 [(0, .ref (A 27)), (1, .int a1), (2, .int x2_1), (3, .int x3_2)] [] s_3 (lo3 (fX10_load_4_b a1) n x2_1 x3_2 s_3) := by
  intro n
  induction n with
  | zero => intro x2_1 x3_2 s_3; exact m_none
  | succ n hrec4 =>
    intro x2_1 x3_2 s_3
    refine (show Wm p l e (rmD 5) s m args below meth c D ct A 4 embI 4 [(0, .ref (A 27)), (1, .int a1), (2, .int x2_1), (3, .int x3_2)] [] s_3 (fX10_load_4_b a1 (lo3 (fX10_load_4_b a1) n) x2_1 x3_2 s_3) from ?_)
    generalize lo3 (fX10_load_4_b a1) n = rec4 at hrec4 ⊢
    unfold fX10_load_4_b
    refine m_iload_n C dX10_load_4 rfl ?_
    refine m_aload_n C dX10_load_5 rfl ?_
    refine m_get (v := .ref (A 28)) C fl_X10_7_9 rfl (by decide) rfl dX10_load_6 ?_
    refine m_iconst C dX10_load_9 ci_0 ?_
    refine m_iald C rfl (by decide +kernel) dX10_load_10 ?_
    refine m_icmp_ge (tgt := 42) C dX10_load_11 rfl ?_ ?_
    · refine m_iload_n C dX10_load_42 rfl ?_
      exact m_iret C dX10_load_43
    · refine m_iload_n C dX10_load_14 rfl ?_
      refine m_aload_n C dX10_load_15 rfl ?_
      refine m_iload_n C dX10_load_16 rfl ?_
      refine m_callVI C ml_X10_268 ⟨Nat.le_of_ble_eq_true rfl, Nat.le_of_ble_eq_true rfl⟩ rfl rfl [.int x3_2] [.int x2_1] rfl rfl (Nat.le_of_ble_eq_true rfl) dX10_load_17 (fun o ho => kX10_panOf l D ct A x3_2 s_3 o ho) (fun r_4 s_5 => ?_)
      refine m_iload_n C dX10_load_20 rfl ?_
      refine m_jn (P := fun (k_9 : Int32 → Int32 → Sg → Option (Int32 × Sg)) => ∀ (y_6 : Int32) (y_7 : Int32) (s_8 : Sg), Wm p l e (rmD 5) s m args below meth c D ct A 4 embI 34 [(0, .ref (A 27)), (1, .int a1), (3, .int x3_2)] [.int y_7, .int y_6] s_8 (k_9 y_6 y_7 s_8)) ?_ (fun k_9 hk_9 => ?_)
      · intro y_6 y_7 s_8
        refine m_iadd C dX10_load_34 ?_
        refine m_let (fun v_10 => ?_)
        refine m_istore_n (L2 := [(2, .int v_10), (0, .ref (A 27)), (1, .int a1), (3, .int x3_2)]) C dX10_load_35 rfl (by decide) rfl ?_
        refine m_iincb (L2 := fun v_11 => [(3, .int v_11), (2, .int v_10), (0, .ref (A 27)), (1, .int a1)]) (q := 3) C dX10_load_36 rfl ci_1 (by decide) (fun _ => rfl) (fun v_11 => ?_)
        refine m_goto (tgt := 4) C dX10_load_39 rfl ?_
        refine m_loc (L2 := [(0, .ref (A 27)), (1, .int a1), (2, .int v_10), (3, .int v_11)]) [2, 3, 1, 0] rfl ?_
        exact hrec4 v_10 v_11 s_8
      refine m_icmp_ne (tgt := 33) C dX10_load_21 rfl ?_ ?_
      · refine m_iconst C dX10_load_33 ci_0 ?_
        refine m_loc (L2 := [(0, .ref (A 27)), (1, .int a1), (3, .int x3_2)]) [0, 1, 3] rfl ?_
        exact hk_9 x2_1 0 s_5
      · refine m_aload_n C dX10_load_24 rfl ?_
        refine m_iload_n C dX10_load_25 rfl ?_
        refine m_iload_n C dX10_load_26 rfl ?_
        refine m_callVI C ml_X10_271 ⟨Nat.le_of_ble_eq_true rfl, Nat.le_of_ble_eq_true rfl⟩ rfl rfl [.int x3_2, .int a1] [.int x2_1] rfl rfl (Nat.le_of_ble_eq_true rfl) dX10_load_27 (fun o ho => kX10_bears l D ct A x3_2 a1 s_5 o ho) (fun r_12 s_13 => ?_)
        refine m_goto (tgt := 34) C dX10_load_30 rfl ?_
        refine m_loc (L2 := [(0, .ref (A 27)), (1, .int a1), (3, .int x3_2)]) [0, 1, 3] rfl ?_
        exact hk_9 x2_1 r_12 s_13
theorem kX10_load (l : Launch) (D : va_G) (ct : Nat → ClassId) (A : Nat → Nat) (a1 : Int32) (s0 : Sg) (o : Int32 × Sg) (ho : fX10_load a1 s0 = some o) : Con l yX10_load cX10_load 4 (some .int) 5 D ct A [.ref (A 27), .int a1] s0 (embI o) := by
  refine con_start (by decide +kernel) (Nat.le_of_ble_eq_true rfl) ho (fun p e s m args below meth c C => ?_)
  refine m_loc (L2 := [(0, .ref (A 27)), (1, .int a1)]) [0, 1] rfl ?_
  unfold fX10_load
  refine m_iconst C dX10_load_0 ci_0 ?_
  refine m_istore_n (L2 := [(2, .int 0), (0, .ref (A 27)), (1, .int a1)]) C dX10_load_1 rfl (by decide) rfl ?_
  refine m_iconst C dX10_load_2 ci_0 ?_
  refine m_istore_n (L2 := [(3, .int 0), (2, .int 0), (0, .ref (A 27)), (1, .int a1)]) C dX10_load_3 rfl (by decide) rfl ?_
  refine m_loc (L2 := [(0, .ref (A 27)), (1, .int a1), (2, .int 0), (3, .int 0)]) [2, 3, 1, 0] rfl ?_
  exact wX10_load_4 C a1 FU 0 0 s0
def fX10_without (a1 : Int32) (s0 : Sg) : Option (Int32 × Sg) :=
  if 0 ≤ a1 then
    some (a1, s0)
  else
    some (-a1, s0)
theorem kX10_without (l : Launch) (D : va_G) (ct : Nat → ClassId) (A : Nat → Nat) (a1 : Int32) (s0 : Sg) (o : Int32 × Sg) (ho : fX10_without a1 s0 = some o) : Con l yX10_without cX10_without 1 (some .int) 0 D ct A [.int a1] s0 (embI o) := by
  refine con_start (by decide +kernel) (Nat.le_of_ble_eq_true rfl) ho (fun p e s m args below meth c C => ?_)
  refine m_loc (L2 := [(0, .int a1)]) [0] rfl ?_
  unfold fX10_without
  refine m_iload_n C dX10_without_0 rfl ?_
  refine m_if_ge (tgt := 9) C dX10_without_1 rfl ?_ ?_
  · refine m_iload_n C dX10_without_9 rfl ?_
    exact m_iret C dX10_without_10
  · refine m_iload_n C dX10_without_4 rfl ?_
    refine m_ineg C dX10_without_5 ?_
    refine m_goto (tgt := 10) C dX10_without_6 rfl ?_
    exact m_iret C dX10_without_10
def fX10_beamBy (a1 : Int32) (a2 : Int32) (s0 : Sg) : Option (Int32 × Sg) :=
  bnd (fX10_without a1 s0) fun r_1 s_2 =>
  if a2 < r_1 then
    if a1 ≤ 0 then
      some (2, s_2)
    else
      some (1, s_2)
  else
    some (0, s_2)
theorem kX10_beamBy (l : Launch) (D : va_G) (ct : Nat → ClassId) (A : Nat → Nat) (a1 : Int32) (a2 : Int32) (s0 : Sg) (o : Int32 × Sg) (ho : fX10_beamBy a1 a2 s0 = some o) : Con l yX10_beamBy cX10_beamBy 2 (some .int) 1 D ct A [.int a1, .int a2] s0 (embI o) := by
  refine con_start (by decide +kernel) (Nat.le_of_ble_eq_true rfl) ho (fun p e s m args below meth c C => ?_)
  refine m_loc (L2 := [(0, .int a1), (1, .int a2)]) [0, 1] rfl ?_
  unfold fX10_beamBy
  refine m_iload_n C dX10_beamBy_0 rfl ?_
  refine m_callSI C ml_X10_274 ⟨Nat.le_of_ble_eq_true rfl, Nat.le_of_ble_eq_true rfl⟩ [.int a1] [] rfl rfl (Nat.le_of_ble_eq_true rfl) dX10_beamBy_1 (fun o ho => kX10_without l D ct A a1 s0 o ho) (fun r_1 s_2 => ?_)
  refine m_iload_n C dX10_beamBy_4 rfl ?_
  refine m_icmp_gt (tgt := 12) C dX10_beamBy_5 rfl ?_ ?_
  · refine m_iload_n C dX10_beamBy_12 rfl ?_
    refine m_if_le (tgt := 20) C dX10_beamBy_13 rfl ?_ ?_
    · refine m_iconst C dX10_beamBy_20 ci_2 ?_
      exact m_iret C dX10_beamBy_21
    · refine m_iconst C dX10_beamBy_16 ci_1 ?_
      refine m_goto (tgt := 21) C dX10_beamBy_17 rfl ?_
      exact m_iret C dX10_beamBy_21
  · refine m_iconst C dX10_beamBy_8 ci_0 ?_
    refine m_goto (tgt := 21) C dX10_beamBy_9 rfl ?_
    exact m_iret C dX10_beamBy_21
def fX10_moment (a1 : Int32) (a2 : Int32) (s0 : Sg) : Option (Int32 × Sg) :=
  some ((((gi s0 28 (ix 1)) * a1) - ((gi s0 28 (ix 2)) * a2)) + (10 * (gi s0 28 (ix 6))), s0)
theorem kX10_moment (l : Launch) (D : va_G) (ct : Nat → ClassId) (A : Nat → Nat) (a1 : Int32) (a2 : Int32) (s0 : Sg) (o : Int32 × Sg) (ho : fX10_moment a1 a2 s0 = some o) : Con l yX10_moment cX10_moment 3 (some .int) 0 D ct A [.ref (A 27), .int a1, .int a2] s0 (embI o) := by
  refine con_start (by decide +kernel) (Nat.le_of_ble_eq_true rfl) ho (fun p e s m args below meth c C => ?_)
  refine m_loc (L2 := [(0, .ref (A 27)), (1, .int a1), (2, .int a2)]) [0, 1, 2] rfl ?_
  unfold fX10_moment
  refine m_aload_n C dX10_moment_0 rfl ?_
  refine m_get (v := .ref (A 28)) C fl_X10_7_9 rfl (by decide) rfl dX10_moment_1 ?_
  refine m_iconst C dX10_moment_4 ci_1 ?_
  refine m_iald C rfl (by decide +kernel) dX10_moment_5 ?_
  refine m_iload_n C dX10_moment_6 rfl ?_
  refine m_imul C dX10_moment_7 ?_
  refine m_aload_n C dX10_moment_8 rfl ?_
  refine m_get (v := .ref (A 28)) C fl_X10_7_9 rfl (by decide) rfl dX10_moment_9 ?_
  refine m_iconst C dX10_moment_12 ci_2 ?_
  refine m_iald C rfl (by decide +kernel) dX10_moment_13 ?_
  refine m_iload_n C dX10_moment_14 rfl ?_
  refine m_imul C dX10_moment_15 ?_
  refine m_isub C dX10_moment_16 ?_
  refine m_bipush C dX10_moment_17 cb_10 ?_
  refine m_aload_n C dX10_moment_19 rfl ?_
  refine m_get (v := .ref (A 28)) C fl_X10_7_9 rfl (by decide) rfl dX10_moment_20 ?_
  refine m_bipush C dX10_moment_23 cb_6 ?_
  refine m_iald C rfl (by decide +kernel) dX10_moment_25 ?_
  refine m_imul C dX10_moment_26 ?_
  refine m_iadd C dX10_moment_27 ?_
  exact m_iret C dX10_moment_28
def fX10_isSafe (a1 : Int32) (a2 : Int32) (s0 : Sg) : Option (Bool × Sg) :=
  bnd (fX10_clauseOf 1 s0) fun r_1 s_2 =>
  if 0 ≤ r_1 then
    bv (si s_2 33 (ix 7) a1) fun s_3 =>
    bv (si s_3 33 (ix 8) a2) fun s_4 =>
    bnd (fX10_moment a1 a2 s_4) fun r_5 s_6 =>
    bv (si s_6 33 (ix 9) r_5) fun s_7 =>
    bnd (fX10_without (gi s_7 33 (ix 9)) s_7) fun r_8 s_9 =>
    bv (si s_9 33 (ix 10) r_8) fun s_10 =>
    bnv (fX10_work r_1 s_10) fun s_11 =>
    chk ((gi s_11 35 (ix 0)) == 0 || (gi s_11 35 (ix 0)) == 1) <|
    some ((gi s_11 35 (ix 0)) == 1, s_11)
  else
    some (true, s_2)
theorem kX10_isSafe (l : Launch) (D : va_G) (ct : Nat → ClassId) (A : Nat → Nat) (a1 : Int32) (a2 : Int32) (s0 : Sg) (o : Bool × Sg) (ho : fX10_isSafe a1 a2 s0 = some o) : Con l yX10_isSafe cX10_isSafe 4 (some .boolean) 3 D ct A [.ref (A 27), .int a1, .int a2] s0 (embZ o) := by
  refine con_start (by decide +kernel) (Nat.le_of_ble_eq_true rfl) ho (fun p e s m args below meth c C => ?_)
  refine m_loc (L2 := [(0, .ref (A 27)), (1, .int a1), (2, .int a2)]) [0, 1, 2] rfl ?_
  unfold fX10_isSafe
  refine m_aload_n C dX10_isSafe_0 rfl ?_
  refine m_iconst C dX10_isSafe_1 ci_1 ?_
  refine m_callVI C ml_X10_251 ⟨Nat.le_of_ble_eq_true rfl, Nat.le_of_ble_eq_true rfl⟩ rfl rfl [.int 1] [] rfl rfl (Nat.le_of_ble_eq_true rfl) dX10_isSafe_2 (fun o ho => kX10_clauseOf l D ct A 1 s0 o ho) (fun r_1 s_2 => ?_)
  refine m_istore_n (L2 := [(3, .int r_1), (0, .ref (A 27)), (1, .int a1), (2, .int a2)]) C dX10_isSafe_5 rfl (by decide) rfl ?_
  refine m_iload_n C dX10_isSafe_6 rfl ?_
  refine m_if_ge (tgt := 12) C dX10_isSafe_7 rfl ?_ ?_
  · refine m_aload_n C dX10_isSafe_12 rfl ?_
    refine m_get (v := .ref (A 33)) C fl_X10_32_9 rfl (by decide) rfl dX10_isSafe_13 ?_
    refine m_bipush C dX10_isSafe_16 cb_7 ?_
    refine m_iload_n C dX10_isSafe_18 rfl ?_
    refine m_iast C rfl (by decide +kernel) dX10_isSafe_19 (fun s_3 => ?_)
    refine m_aload_n C dX10_isSafe_20 rfl ?_
    refine m_get (v := .ref (A 33)) C fl_X10_32_9 rfl (by decide) rfl dX10_isSafe_21 ?_
    refine m_bipush C dX10_isSafe_24 cb_8 ?_
    refine m_iload_n C dX10_isSafe_26 rfl ?_
    refine m_iast C rfl (by decide +kernel) dX10_isSafe_27 (fun s_4 => ?_)
    refine m_aload_n C dX10_isSafe_28 rfl ?_
    refine m_get (v := .ref (A 33)) C fl_X10_32_9 rfl (by decide) rfl dX10_isSafe_29 ?_
    refine m_bipush C dX10_isSafe_32 cb_9 ?_
    refine m_aload_n C dX10_isSafe_34 rfl ?_
    refine m_iload_n C dX10_isSafe_35 rfl ?_
    refine m_iload_n C dX10_isSafe_36 rfl ?_
    refine m_callVI C ml_X10_277 ⟨Nat.le_of_ble_eq_true rfl, Nat.le_of_ble_eq_true rfl⟩ rfl rfl [.int a1, .int a2] [.int 9, .ref (A 33)] rfl rfl (Nat.le_of_ble_eq_true rfl) dX10_isSafe_37 (fun o ho => kX10_moment l D ct A a1 a2 s_4 o ho) (fun r_5 s_6 => ?_)
    refine m_iast C rfl (by decide +kernel) dX10_isSafe_40 (fun s_7 => ?_)
    refine m_aload_n C dX10_isSafe_41 rfl ?_
    refine m_get (v := .ref (A 33)) C fl_X10_32_9 rfl (by decide) rfl dX10_isSafe_42 ?_
    refine m_bipush C dX10_isSafe_45 cb_10 ?_
    refine m_aload_n C dX10_isSafe_47 rfl ?_
    refine m_get (v := .ref (A 33)) C fl_X10_32_9 rfl (by decide) rfl dX10_isSafe_48 ?_
    refine m_bipush C dX10_isSafe_51 cb_9 ?_
    refine m_iald C rfl (by decide +kernel) dX10_isSafe_53 ?_
    refine m_callSI C ml_X10_274 ⟨Nat.le_of_ble_eq_true rfl, Nat.le_of_ble_eq_true rfl⟩ [.int (gi s_7 33 (ix 9))] [.int 10, .ref (A 33)] rfl rfl (Nat.le_of_ble_eq_true rfl) dX10_isSafe_54 (fun o ho => kX10_without l D ct A (gi s_7 33 (ix 9)) s_7 o ho) (fun r_8 s_9 => ?_)
    refine m_iast C rfl (by decide +kernel) dX10_isSafe_57 (fun s_10 => ?_)
    refine m_aload_n C dX10_isSafe_58 rfl ?_
    refine m_iload_n C dX10_isSafe_59 rfl ?_
    refine m_callVV C ml_X10_254 ⟨Nat.le_of_ble_eq_true rfl, Nat.le_of_ble_eq_true rfl⟩ rfl rfl [.int r_1] [] rfl rfl (Nat.le_of_ble_eq_true rfl) dX10_isSafe_60 (fun o ho => kX10_work l D ct A r_1 s_10 o ho) (fun s_11 => ?_)
    refine m_aload_n C dX10_isSafe_63 rfl ?_
    refine m_get (v := .ref (A 35)) C fl_X10_39_9 rfl (by decide) rfl dX10_isSafe_64 ?_
    refine m_iconst C dX10_isSafe_67 ci_0 ?_
    refine m_zald C rfl (by decide +kernel) dX10_isSafe_68 ?_
    refine m_chk (fun h_12 => ?_)
    exact m_zret C _ (b2i_of h_12) dX10_isSafe_69
  · refine m_iconst C dX10_isSafe_10 ci_1 ?_
    exact m_zret C true rfl dX10_isSafe_11
def fX10_isSafeNow (s0 : Sg) : Option (Bool × Sg) :=
  bnv (fX10_nameNow s0) fun s_1 =>
  bnd (fX10_load 0 s_1) fun r_2 s_3 =>
  bnd (fX10_load 1 s_3) fun r_4 s_5 =>
  bnd (fX10_isSafe r_2 r_4 s_5) fun r_6 s_7 =>
  some (r_6, s_7)
theorem kX10_isSafeNow (l : Launch) (D : va_G) (ct : Nat → ClassId) (A : Nat → Nat) (s0 : Sg) (o : Bool × Sg) (ho : fX10_isSafeNow s0 = some o) : Con l yX10_isSafeNow cX10_isSafeNow 2 (some .boolean) 6 D ct A [.ref (A 27)] s0 (embZ o) := by
  refine con_start (by decide +kernel) (Nat.le_of_ble_eq_true rfl) ho (fun p e s m args below meth c C => ?_)
  refine m_loc (L2 := [(0, .ref (A 27))]) [0] rfl ?_
  unfold fX10_isSafeNow
  refine m_aload_n C dX10_isSafeNow_0 rfl ?_
  refine m_callVV C ml_X10_280 ⟨Nat.le_of_ble_eq_true rfl, Nat.le_of_ble_eq_true rfl⟩ rfl rfl [] [] rfl rfl (Nat.le_of_ble_eq_true rfl) dX10_isSafeNow_1 (fun o ho => kX10_nameNow l D ct A s0 o ho) (fun s_1 => ?_)
  refine m_aload_n C dX10_isSafeNow_4 rfl ?_
  refine m_iconst C dX10_isSafeNow_5 ci_0 ?_
  refine m_callVI C ml_X10_283 ⟨Nat.le_of_ble_eq_true rfl, Nat.le_of_ble_eq_true rfl⟩ rfl rfl [.int 0] [] rfl rfl (Nat.le_of_ble_eq_true rfl) dX10_isSafeNow_6 (fun o ho => kX10_load l D ct A 0 s_1 o ho) (fun r_2 s_3 => ?_)
  refine m_istore_n (L2 := [(1, .int r_2), (0, .ref (A 27))]) C dX10_isSafeNow_9 rfl (by decide) rfl ?_
  refine m_aload_n C dX10_isSafeNow_10 rfl ?_
  refine m_iload_n C dX10_isSafeNow_11 rfl ?_
  refine m_aload_n C dX10_isSafeNow_12 rfl ?_
  refine m_iconst C dX10_isSafeNow_13 ci_1 ?_
  refine m_callVI C ml_X10_283 ⟨Nat.le_of_ble_eq_true rfl, Nat.le_of_ble_eq_true rfl⟩ rfl rfl [.int 1] [.int r_2, .ref (A 27)] rfl rfl (Nat.le_of_ble_eq_true rfl) dX10_isSafeNow_14 (fun o ho => kX10_load l D ct A 1 s_3 o ho) (fun r_4 s_5 => ?_)
  refine m_callVZ C ml_X10_286 ⟨Nat.le_of_ble_eq_true rfl, Nat.le_of_ble_eq_true rfl⟩ rfl rfl [.int r_2, .int r_4] [] rfl rfl (Nat.le_of_ble_eq_true rfl) dX10_isSafeNow_17 (fun o ho => kX10_isSafe l D ct A r_2 r_4 s_5 o ho) (fun r_6 s_7 => ?_)
  exact m_zret C r_6 rfl dX10_isSafeNow_20
def fX10_of (a1 : Int32) (a2 : Int32) (s0 : Sg) : Option (Int32 × Sg) :=
  bnd (fX10_isThing a1 s0) fun r_1 s_2 =>
  if (b2i r_1) = 0 then
    some ((-2), s_2)
  else
    bnd (fX10_isIn a2 0 4 s_2) fun r_3 s_4 =>
    if (b2i r_3) = 0 then
      some ((-2), s_4)
    else
      bnv (fX10_nameNow s_4) fun s_5 =>
      if 3 ≤ a2 then
        bnd (fX10_bears a1 (a2 - 3) s_5) fun r_8 s_9 =>
        some (r_8, s_9)
      else
        bnd (fX10_thingAt a1 s_5) fun r_10 s_11 =>
        chk (inb 720 (r_10 + a2)) <|
        some (gi s_11 28 (ix (r_10 + a2)), s_11)
theorem kX10_of (l : Launch) (D : va_G) (ct : Nat → ClassId) (A : Nat → Nat) (a1 : Int32) (a2 : Int32) (s0 : Sg) (o : Int32 × Sg) (ho : fX10_of a1 a2 s0 = some o) : Con l yX10_of cX10_of 3 (some .int) 5 D ct A [.ref (A 27), .int a1, .int a2] s0 (embI o) := by
  refine con_start (by decide +kernel) (Nat.le_of_ble_eq_true rfl) ho (fun p e s m args below meth c C => ?_)
  refine m_loc (L2 := [(0, .ref (A 27)), (1, .int a1), (2, .int a2)]) [0, 1, 2] rfl ?_
  unfold fX10_of
  refine m_aload_n C dX10_of_0 rfl ?_
  refine m_iload_n C dX10_of_1 rfl ?_
  refine m_callVZ C ml_X10_290 ⟨Nat.le_of_ble_eq_true rfl, Nat.le_of_ble_eq_true rfl⟩ rfl rfl [.int a1] [] rfl rfl (Nat.le_of_ble_eq_true rfl) dX10_of_2 (fun o ho => kX10_isThing l D ct A a1 s0 o ho) (fun r_1 s_2 => ?_)
  refine m_if_eq (tgt := 17) C dX10_of_5 rfl ?_ ?_
  · refine m_bipush C dX10_of_17 cb_m2 ?_
    exact m_iret C dX10_of_19
  · refine m_iload_n C dX10_of_8 rfl ?_
    refine m_iconst C dX10_of_9 ci_0 ?_
    refine m_iconst C dX10_of_10 ci_4 ?_
    refine m_callSZ C ml_X10_83 ⟨Nat.le_of_ble_eq_true rfl, Nat.le_of_ble_eq_true rfl⟩ [.int a2, .int 0, .int 4] [] rfl rfl (Nat.le_of_ble_eq_true rfl) dX10_of_11 (fun o ho => kX10_isIn l D ct A a2 0 4 s_2 o ho) (fun r_3 s_4 => ?_)
    refine m_if_ne (tgt := 20) C dX10_of_14 rfl ?_ ?_
    · refine m_aload_n C dX10_of_20 rfl ?_
      refine m_callVV C ml_X10_280 ⟨Nat.le_of_ble_eq_true rfl, Nat.le_of_ble_eq_true rfl⟩ rfl rfl [] [] rfl rfl (Nat.le_of_ble_eq_true rfl) dX10_of_21 (fun o ho => kX10_nameNow l D ct A s_4 o ho) (fun s_5 => ?_)
      refine m_iload_n C dX10_of_24 rfl ?_
      refine m_iconst C dX10_of_25 ci_3 ?_
      refine m_icmp_ge (tgt := 43) C dX10_of_26 rfl ?_ ?_
      · refine m_aload_n C dX10_of_43 rfl ?_
        refine m_iload_n C dX10_of_44 rfl ?_
        refine m_iload_n C dX10_of_45 rfl ?_
        refine m_iconst C dX10_of_46 ci_3 ?_
        refine m_isub C dX10_of_47 ?_
        refine m_callVI C ml_X10_271 ⟨Nat.le_of_ble_eq_true rfl, Nat.le_of_ble_eq_true rfl⟩ rfl rfl [.int a1, .int (a2 - 3)] [] rfl rfl (Nat.le_of_ble_eq_true rfl) dX10_of_48 (fun o ho => kX10_bears l D ct A a1 (a2 - 3) s_5 o ho) (fun r_8 s_9 => ?_)
        exact m_iret C dX10_of_51
      · refine m_aload_n C dX10_of_29 rfl ?_
        refine m_get (v := .ref (A 28)) C fl_X10_7_9 rfl (by decide) rfl dX10_of_30 ?_
        refine m_iload_n C dX10_of_33 rfl ?_
        refine m_callSI C ml_X10_87 ⟨Nat.le_of_ble_eq_true rfl, Nat.le_of_ble_eq_true rfl⟩ [.int a1] [.ref (A 28)] rfl rfl (Nat.le_of_ble_eq_true rfl) dX10_of_34 (fun o ho => kX10_thingAt l D ct A a1 s_5 o ho) (fun r_10 s_11 => ?_)
        refine m_iload_n C dX10_of_37 rfl ?_
        refine m_iadd C dX10_of_38 ?_
        refine m_chk (fun h_12 => ?_)
        refine m_iald C rfl h_12 dX10_of_39 ?_
        refine m_goto (tgt := 51) C dX10_of_40 rfl ?_
        exact m_iret C dX10_of_51
    · refine m_bipush C dX10_of_17 cb_m2 ?_
      exact m_iret C dX10_of_19
def fX10_now (a1 : Int32) (s0 : Sg) : Option (Int32 × Sg) :=
  bnv (fX10_nameNow s0) fun s_1 =>
  bnd (fX10_load 0 s_1) fun r_2 s_3 =>
  bnd (fX10_load 1 s_3) fun r_4 s_5 =>
  if a1 = 0 then
    some (r_2, s_5)
  else
    if a1 = 1 then
      some (r_4, s_5)
    else
      if a1 = 2 then
        bnd (fX10_moment r_2 r_4 s_5) fun r_8 s_9 =>
        some (r_8, s_9)
      else
        if a1 = 3 then
          bnd (fX10_moment r_2 r_4 s_5) fun r_11 s_12 =>
          bnd (fX10_beamBy r_11 (gi s_12 28 (ix 3)) s_12) fun r_13 s_14 =>
          some (r_13, s_14)
        else
          if a1 = 4 then
            bnd (fX10_isSafe r_2 r_4 s_5) fun r_16 s_17 =>
            if (b2i r_16) = 0 then
              some (0, s_17)
            else
              some (1, s_17)
          else
            some ((-100000000), s_5)
theorem kX10_now (l : Launch) (D : va_G) (ct : Nat → ClassId) (A : Nat → Nat) (a1 : Int32) (s0 : Sg) (o : Int32 × Sg) (ho : fX10_now a1 s0 = some o) : Con l yX10_now cX10_now 4 (some .int) 6 D ct A [.ref (A 27), .int a1] s0 (embI o) := by
  refine con_start (by decide +kernel) (Nat.le_of_ble_eq_true rfl) ho (fun p e s m args below meth c C => ?_)
  refine m_loc (L2 := [(0, .ref (A 27)), (1, .int a1)]) [0, 1] rfl ?_
  unfold fX10_now
  refine m_aload_n C dX10_now_0 rfl ?_
  refine m_callVV C ml_X10_280 ⟨Nat.le_of_ble_eq_true rfl, Nat.le_of_ble_eq_true rfl⟩ rfl rfl [] [] rfl rfl (Nat.le_of_ble_eq_true rfl) dX10_now_1 (fun o ho => kX10_nameNow l D ct A s0 o ho) (fun s_1 => ?_)
  refine m_aload_n C dX10_now_4 rfl ?_
  refine m_iconst C dX10_now_5 ci_0 ?_
  refine m_callVI C ml_X10_283 ⟨Nat.le_of_ble_eq_true rfl, Nat.le_of_ble_eq_true rfl⟩ rfl rfl [.int 0] [] rfl rfl (Nat.le_of_ble_eq_true rfl) dX10_now_6 (fun o ho => kX10_load l D ct A 0 s_1 o ho) (fun r_2 s_3 => ?_)
  refine m_istore_n (L2 := [(2, .int r_2), (0, .ref (A 27)), (1, .int a1)]) C dX10_now_9 rfl (by decide) rfl ?_
  refine m_aload_n C dX10_now_10 rfl ?_
  refine m_iconst C dX10_now_11 ci_1 ?_
  refine m_callVI C ml_X10_283 ⟨Nat.le_of_ble_eq_true rfl, Nat.le_of_ble_eq_true rfl⟩ rfl rfl [.int 1] [] rfl rfl (Nat.le_of_ble_eq_true rfl) dX10_now_12 (fun o ho => kX10_load l D ct A 1 s_3 o ho) (fun r_4 s_5 => ?_)
  refine m_istore_n (L2 := [(3, .int r_4), (2, .int r_2), (0, .ref (A 27)), (1, .int a1)]) C dX10_now_15 rfl (by decide) rfl ?_
  refine m_iload_n C dX10_now_16 rfl ?_
  refine m_tbl (n := 0) C dX10_now_17 0 35 52 (by decide +kernel) ?_ (fun h_6 => ?_)
  · refine m_iload_n C dX10_now_52 rfl ?_
    exact m_iret C dX10_now_53
  · refine m_tbl (n := 0) C dX10_now_17 1 37 54 (by decide +kernel) ?_ (fun h_7 => ?_)
    · refine m_iload_n C dX10_now_54 rfl ?_
      exact m_iret C dX10_now_55
    · refine m_tbl (n := 0) C dX10_now_17 2 39 56 (by decide +kernel) ?_ (fun h_10 => ?_)
      · refine m_aload_n C dX10_now_56 rfl ?_
        refine m_iload_n C dX10_now_57 rfl ?_
        refine m_iload_n C dX10_now_58 rfl ?_
        refine m_callVI C ml_X10_277 ⟨Nat.le_of_ble_eq_true rfl, Nat.le_of_ble_eq_true rfl⟩ rfl rfl [.int r_2, .int r_4] [] rfl rfl (Nat.le_of_ble_eq_true rfl) dX10_now_59 (fun o ho => kX10_moment l D ct A r_2 r_4 s_5 o ho) (fun r_8 s_9 => ?_)
        exact m_iret C dX10_now_62
      · refine m_tbl (n := 0) C dX10_now_17 3 46 63 (by decide +kernel) ?_ (fun h_15 => ?_)
        · refine m_aload_n C dX10_now_63 rfl ?_
          refine m_iload_n C dX10_now_64 rfl ?_
          refine m_iload_n C dX10_now_65 rfl ?_
          refine m_callVI C ml_X10_277 ⟨Nat.le_of_ble_eq_true rfl, Nat.le_of_ble_eq_true rfl⟩ rfl rfl [.int r_2, .int r_4] [] rfl rfl (Nat.le_of_ble_eq_true rfl) dX10_now_66 (fun o ho => kX10_moment l D ct A r_2 r_4 s_5 o ho) (fun r_11 s_12 => ?_)
          refine m_aload_n C dX10_now_69 rfl ?_
          refine m_get (v := .ref (A 28)) C fl_X10_7_9 rfl (by decide) rfl dX10_now_70 ?_
          refine m_iconst C dX10_now_73 ci_3 ?_
          refine m_iald C rfl (by decide +kernel) dX10_now_74 ?_
          refine m_callSI C ml_X10_293 ⟨Nat.le_of_ble_eq_true rfl, Nat.le_of_ble_eq_true rfl⟩ [.int r_11, .int (gi s_12 28 (ix 3))] [] rfl rfl (Nat.le_of_ble_eq_true rfl) dX10_now_75 (fun o ho => kX10_beamBy l D ct A r_11 (gi s_12 28 (ix 3)) s_12 o ho) (fun r_13 s_14 => ?_)
          exact m_iret C dX10_now_78
        · refine m_tbl (n := 0) C dX10_now_17 4 62 79 (by decide +kernel) ?_ (fun h_18 => ?_)
          · refine m_aload_n C dX10_now_79 rfl ?_
            refine m_iload_n C dX10_now_80 rfl ?_
            refine m_iload_n C dX10_now_81 rfl ?_
            refine m_callVZ C ml_X10_286 ⟨Nat.le_of_ble_eq_true rfl, Nat.le_of_ble_eq_true rfl⟩ rfl rfl [.int r_2, .int r_4] [] rfl rfl (Nat.le_of_ble_eq_true rfl) dX10_now_82 (fun o ho => kX10_isSafe l D ct A r_2 r_4 s_5 o ho) (fun r_16 s_17 => ?_)
            refine m_if_eq (tgt := 92) C dX10_now_85 rfl ?_ ?_
            · refine m_iconst C dX10_now_92 ci_0 ?_
              exact m_iret C dX10_now_93
            · refine m_iconst C dX10_now_88 ci_1 ?_
              refine m_goto (tgt := 93) C dX10_now_89 rfl ?_
              exact m_iret C dX10_now_93
          · refine m_tblD C dX10_now_17 94 rfl (tbl_dflt [0, 1, 2, 3, 4] (fun w hw => by simp only [List.mem_cons, List.not_mem_nil, or_false] at hw; rcases hw with rfl | rfl | rfl | rfl | rfl <;> assumption) 4 (by decide) (by decide +kernel)) ?_
            refine m_ldcw C wd_1231 dX10_now_94 ?_
            exact m_iret C dX10_now_97
def fX10_keep_101_b (v_3 : Int32) (k_9 : Sg → Option (Sg)) (rec101 : Int32 → Sg → Option (Sg)) (x2_11 : Int32) (s_12 : Sg) : Option (Sg) :=
  if 12 ≤ x2_11 then
    k_9 s_12
  else
    bnd (fX10_panOf x2_11 s_12) fun r_13 s_14 =>
    chk (inb 720 ((v_3 + 2) + x2_11)) <|
    bv (si s_14 28 (ix ((v_3 + 2) + x2_11)) r_13) fun s_16 =>
    bv (x2_11 + 1) fun v_17 =>
    rec101 v_17 s_16
def fX10_keep_14_b (k_19 : Sg → Option (Sg)) (rec14 : Int32 → Sg → Option (Sg)) (x1_21 : Int32) (s_22 : Sg) : Option (Sg) :=
  if 546 ≤ x1_21 then
    k_19 s_22
  else
    chk (inb 720 (174 + x1_21)) <|
    chk (inb 720 (160 + x1_21)) <|
    bv (si s_22 28 (ix (160 + x1_21)) (gi s_22 28 (ix (174 + x1_21)))) fun s_25 =>
    bv (x1_21 + 1) fun v_26 =>
    rec14 v_26 s_25
def fX10_keep (s0 : Sg) : Option (Sg) :=
  bv (fun (s_1 : Sg) => 
    bv (160 + (14 * (gi s_1 28 (ix 9)))) fun v_3 =>
    chk (inb 720 v_3) <|
    bv (si s_1 28 (ix v_3) (gi s_1 28 (ix 4))) fun s_5 =>
    chk (inb 720 (v_3 + 1)) <|
    bv (si s_5 28 (ix (v_3 + 1)) (gi s_5 28 (ix 0))) fun s_7 =>
    bv (fun (s_8 : Sg) => 
      bv (si s_8 28 (ix 9) ((gi s_8 28 (ix 9)) + 1)) fun s_10 =>
      some s_10)
    fun k_9 =>
    lo2 (fX10_keep_101_b v_3 k_9) FU 0 s_7)
  fun k_2 =>
  if (gi s0 28 (ix 9)) = 40 then
    bv (fun (s_18 : Sg) => 
      bv (si s_18 28 (ix 9) ((gi s_18 28 (ix 9)) - 1)) fun s_20 =>
      k_2 s_20)
    fun k_19 =>
    lo2 (fX10_keep_14_b k_19) FU 0 s0
  else
    k_2 s0
theorem wX10_keep_101 {p : Program} {l : Launch} {e : Env} {s : State} {m : MethodId} {args : Array Value} {below : List Frame} {meth : Method} {c : Code} {D : va_G} {ct : Nat → ClassId} {A : Nat → Nat} (C : Cx p m c cX10_keep 3 s args yX10_keep.cls meth none D ct A) (v_3 : Int32) (k_9 : Sg → Option (Sg)) (hk_9 : ∀ (s_8 : Sg), Wm p l e (rmD 2) s m args below meth c D ct A 3 embV 128 [(0, .ref (A 27))] [] s_8 (k_9 s_8)) : ∀ (n : Nat) (x2_11 : Int32) (s_12 : Sg), Wm p l e (rmD 2) s m args below meth c D ct A 3 embV 101 [(0, .ref (A 27)), (1, .int v_3), (2, .int x2_11)] [] s_12 (lo2 (fX10_keep_101_b v_3 k_9) n x2_11 s_12) := by
  intro n
  induction n with
  | zero => intro x2_11 s_12; exact m_none
  | succ n hrec101 =>
    intro x2_11 s_12
    refine (show Wm p l e (rmD 2) s m args below meth c D ct A 3 embV 101 [(0, .ref (A 27)), (1, .int v_3), (2, .int x2_11)] [] s_12 (fX10_keep_101_b v_3 k_9 (lo2 (fX10_keep_101_b v_3 k_9) n) x2_11 s_12) from ?_)
    generalize lo2 (fX10_keep_101_b v_3 k_9) n = rec101 at hrec101 ⊢
    unfold fX10_keep_101_b
    refine m_iload_n C dX10_keep_101 rfl ?_
    refine m_bipush C dX10_keep_102 cb_12 ?_
    refine m_icmp_ge (tgt := 128) C dX10_keep_104 rfl ?_ ?_
    · refine m_loc (L2 := [(0, .ref (A 27))]) [0] rfl ?_
      exact hk_9 s_12
    · refine m_aload_n C dX10_keep_107 rfl ?_
      refine m_get (v := .ref (A 28)) C fl_X10_7_9 rfl (by decide) rfl dX10_keep_108 ?_
      refine m_iload_n C dX10_keep_111 rfl ?_
      refine m_iconst C dX10_keep_112 ci_2 ?_
      refine m_iadd C dX10_keep_113 ?_
      refine m_iload_n C dX10_keep_114 rfl ?_
      refine m_iadd C dX10_keep_115 ?_
      refine m_aload_n C dX10_keep_116 rfl ?_
      refine m_iload_n C dX10_keep_117 rfl ?_
      refine m_callVI C ml_X10_268 ⟨Nat.le_of_ble_eq_true rfl, Nat.le_of_ble_eq_true rfl⟩ rfl rfl [.int x2_11] [.int ((v_3 + 2) + x2_11), .ref (A 28)] rfl rfl (Nat.le_of_ble_eq_true rfl) dX10_keep_118 (fun o ho => kX10_panOf l D ct A x2_11 s_12 o ho) (fun r_13 s_14 => ?_)
      refine m_chk (fun h_15 => ?_)
      refine m_iast C rfl h_15 dX10_keep_121 (fun s_16 => ?_)
      refine m_iincb (L2 := fun v_17 => [(2, .int v_17), (0, .ref (A 27)), (1, .int v_3)]) (q := 2) C dX10_keep_122 rfl ci_1 (by decide) (fun _ => rfl) (fun v_17 => ?_)
      refine m_goto (tgt := 101) C dX10_keep_125 rfl ?_
      refine m_loc (L2 := [(0, .ref (A 27)), (1, .int v_3), (2, .int v_17)]) [1, 2, 0] rfl ?_
      exact hrec101 v_17 s_16
theorem wX10_keep_14 {p : Program} {l : Launch} {e : Env} {s : State} {m : MethodId} {args : Array Value} {below : List Frame} {meth : Method} {c : Code} {D : va_G} {ct : Nat → ClassId} {A : Nat → Nat} (C : Cx p m c cX10_keep 3 s args yX10_keep.cls meth none D ct A) (k_19 : Sg → Option (Sg)) (hk_19 : ∀ (s_18 : Sg), Wm p l e (rmD 2) s m args below meth c D ct A 3 embV 47 [(0, .ref (A 27))] [] s_18 (k_19 s_18)) : ∀ (n : Nat) (x1_21 : Int32) (s_22 : Sg), Wm p l e (rmD 2) s m args below meth c D ct A 3 embV 14 [(0, .ref (A 27)), (1, .int x1_21)] [] s_22 (lo2 (fX10_keep_14_b k_19) n x1_21 s_22) := by
  intro n
  induction n with
  | zero => intro x1_21 s_22; exact m_none
  | succ n hrec14 =>
    intro x1_21 s_22
    refine (show Wm p l e (rmD 2) s m args below meth c D ct A 3 embV 14 [(0, .ref (A 27)), (1, .int x1_21)] [] s_22 (fX10_keep_14_b k_19 (lo2 (fX10_keep_14_b k_19) n) x1_21 s_22) from ?_)
    generalize lo2 (fX10_keep_14_b k_19) n = rec14 at hrec14 ⊢
    unfold fX10_keep_14_b
    refine m_iload_n C dX10_keep_14 rfl ?_
    refine m_sipush C dX10_keep_15 cs_546 ?_
    refine m_icmp_ge (tgt := 47) C dX10_keep_18 rfl ?_ ?_
    · refine m_loc (L2 := [(0, .ref (A 27))]) [0] rfl ?_
      exact hk_19 s_22
    · refine m_aload_n C dX10_keep_21 rfl ?_
      refine m_get (v := .ref (A 28)) C fl_X10_7_9 rfl (by decide) rfl dX10_keep_22 ?_
      refine m_sipush C dX10_keep_25 cs_160 ?_
      refine m_iload_n C dX10_keep_28 rfl ?_
      refine m_iadd C dX10_keep_29 ?_
      refine m_aload_n C dX10_keep_30 rfl ?_
      refine m_get (v := .ref (A 28)) C fl_X10_7_9 rfl (by decide) rfl dX10_keep_31 ?_
      refine m_sipush C dX10_keep_34 cs_174 ?_
      refine m_iload_n C dX10_keep_37 rfl ?_
      refine m_iadd C dX10_keep_38 ?_
      refine m_chk (fun h_23 => ?_)
      refine m_iald C rfl h_23 dX10_keep_39 ?_
      refine m_chk (fun h_24 => ?_)
      refine m_iast C rfl h_24 dX10_keep_40 (fun s_25 => ?_)
      refine m_iincb (L2 := fun v_26 => [(1, .int v_26), (0, .ref (A 27))]) (q := 1) C dX10_keep_41 rfl ci_1 (by decide) (fun _ => rfl) (fun v_26 => ?_)
      refine m_goto (tgt := 14) C dX10_keep_44 rfl ?_
      refine m_loc (L2 := [(0, .ref (A 27)), (1, .int v_26)]) [1, 0] rfl ?_
      exact hrec14 v_26 s_25
theorem kX10_keep (l : Launch) (D : va_G) (ct : Nat → ClassId) (A : Nat → Nat) (s0 : Sg) (o : Sg) (ho : fX10_keep s0 = some o) : Con l yX10_keep cX10_keep 3 none 2 D ct A [.ref (A 27)] s0 (embV o) := by
  refine con_start (by decide +kernel) (Nat.le_of_ble_eq_true rfl) ho (fun p e s m args below meth c C => ?_)
  refine m_loc (L2 := [(0, .ref (A 27))]) [0] rfl ?_
  unfold fX10_keep
  refine m_aload_n C dX10_keep_0 rfl ?_
  refine m_get (v := .ref (A 28)) C fl_X10_7_9 rfl (by decide) rfl dX10_keep_1 ?_
  refine m_bipush C dX10_keep_4 cb_9 ?_
  refine m_iald C rfl (by decide +kernel) dX10_keep_6 ?_
  refine m_bipush C dX10_keep_7 cb_40 ?_
  refine m_jn (P := fun (k_2 : Sg → Option (Sg)) => ∀ (s_1 : Sg), Wm p l e (rmD 2) s m args below meth c D ct A 3 embV 58 [(0, .ref (A 27))] [] s_1 (k_2 s_1)) ?_ (fun k_2 hk_2 => ?_)
  · intro s_1
    refine m_sipush C dX10_keep_58 cs_160 ?_
    refine m_bipush C dX10_keep_61 cb_14 ?_
    refine m_aload_n C dX10_keep_63 rfl ?_
    refine m_get (v := .ref (A 28)) C fl_X10_7_9 rfl (by decide) rfl dX10_keep_64 ?_
    refine m_bipush C dX10_keep_67 cb_9 ?_
    refine m_iald C rfl (by decide +kernel) dX10_keep_69 ?_
    refine m_imul C dX10_keep_70 ?_
    refine m_iadd C dX10_keep_71 ?_
    refine m_let (fun v_3 => ?_)
    refine m_istore_n (L2 := [(1, .int v_3), (0, .ref (A 27))]) C dX10_keep_72 rfl (by decide) rfl ?_
    refine m_aload_n C dX10_keep_73 rfl ?_
    refine m_get (v := .ref (A 28)) C fl_X10_7_9 rfl (by decide) rfl dX10_keep_74 ?_
    refine m_iload_n C dX10_keep_77 rfl ?_
    refine m_aload_n C dX10_keep_78 rfl ?_
    refine m_get (v := .ref (A 28)) C fl_X10_7_9 rfl (by decide) rfl dX10_keep_79 ?_
    refine m_iconst C dX10_keep_82 ci_4 ?_
    refine m_iald C rfl (by decide +kernel) dX10_keep_83 ?_
    refine m_chk (fun h_4 => ?_)
    refine m_iast C rfl h_4 dX10_keep_84 (fun s_5 => ?_)
    refine m_aload_n C dX10_keep_85 rfl ?_
    refine m_get (v := .ref (A 28)) C fl_X10_7_9 rfl (by decide) rfl dX10_keep_86 ?_
    refine m_iload_n C dX10_keep_89 rfl ?_
    refine m_iconst C dX10_keep_90 ci_1 ?_
    refine m_iadd C dX10_keep_91 ?_
    refine m_aload_n C dX10_keep_92 rfl ?_
    refine m_get (v := .ref (A 28)) C fl_X10_7_9 rfl (by decide) rfl dX10_keep_93 ?_
    refine m_iconst C dX10_keep_96 ci_0 ?_
    refine m_iald C rfl (by decide +kernel) dX10_keep_97 ?_
    refine m_chk (fun h_6 => ?_)
    refine m_iast C rfl h_6 dX10_keep_98 (fun s_7 => ?_)
    refine m_iconst C dX10_keep_99 ci_0 ?_
    refine m_istore_n (L2 := [(2, .int 0), (1, .int v_3), (0, .ref (A 27))]) C dX10_keep_100 rfl (by decide) rfl ?_
    refine m_jn (P := fun (k_9 : Sg → Option (Sg)) => ∀ (s_8 : Sg), Wm p l e (rmD 2) s m args below meth c D ct A 3 embV 128 [(0, .ref (A 27))] [] s_8 (k_9 s_8)) ?_ (fun k_9 hk_9 => ?_)
    · intro s_8
      refine m_aload_n C dX10_keep_128 rfl ?_
      refine m_get (v := .ref (A 28)) C fl_X10_7_9 rfl (by decide) rfl dX10_keep_129 ?_
      refine m_bipush C dX10_keep_132 cb_9 ?_
      refine m_dup2 C dX10_keep_134 rfl rfl ?_
      refine m_iald C rfl (by decide +kernel) dX10_keep_135 ?_
      refine m_iconst C dX10_keep_136 ci_1 ?_
      refine m_iadd C dX10_keep_137 ?_
      refine m_iast C rfl (by decide +kernel) dX10_keep_138 (fun s_10 => ?_)
      exact m_vret C dX10_keep_139
    refine m_loc (L2 := [(0, .ref (A 27)), (1, .int v_3), (2, .int 0)]) [2, 1, 0] rfl ?_
    exact wX10_keep_101 C v_3 k_9 hk_9 FU 0 s_7
  refine m_icmp_ne (tgt := 58) C dX10_keep_9 rfl ?_ ?_
  · refine m_loc (L2 := [(0, .ref (A 27))]) [0] rfl ?_
    exact hk_2 s0
  · refine m_iconst C dX10_keep_12 ci_0 ?_
    refine m_istore_n (L2 := [(1, .int 0), (0, .ref (A 27))]) C dX10_keep_13 rfl (by decide) rfl ?_
    refine m_jn (P := fun (k_19 : Sg → Option (Sg)) => ∀ (s_18 : Sg), Wm p l e (rmD 2) s m args below meth c D ct A 3 embV 47 [(0, .ref (A 27))] [] s_18 (k_19 s_18)) ?_ (fun k_19 hk_19 => ?_)
    · intro s_18
      refine m_aload_n C dX10_keep_47 rfl ?_
      refine m_get (v := .ref (A 28)) C fl_X10_7_9 rfl (by decide) rfl dX10_keep_48 ?_
      refine m_bipush C dX10_keep_51 cb_9 ?_
      refine m_dup2 C dX10_keep_53 rfl rfl ?_
      refine m_iald C rfl (by decide +kernel) dX10_keep_54 ?_
      refine m_iconst C dX10_keep_55 ci_1 ?_
      refine m_isub C dX10_keep_56 ?_
      refine m_iast C rfl (by decide +kernel) dX10_keep_57 (fun s_20 => ?_)
      refine m_loc (L2 := [(0, .ref (A 27))]) [0] rfl ?_
      exact hk_2 s_20
    refine m_loc (L2 := [(0, .ref (A 27)), (1, .int 0)]) [1, 0] rfl ?_
    exact wX10_keep_14 C k_19 hk_19 FU 0 s0
def fX10_undo_52_b (v_2 : Int32) (k_6 : Sg → Option (Int32 × Sg)) (rec52 : Int32 → Sg → Option (Int32 × Sg)) (x2_7 : Int32) (s_8 : Sg) : Option (Int32 × Sg) :=
  chk (inb 720 (v_2 + 1)) <|
  if (gi s_8 28 (ix (v_2 + 1))) ≤ x2_7 then
    k_6 s_8
  else
    bnd (fX10_thingAt x2_7 s_8) fun r_10 s_11 =>
    chk (inb 720 ((v_2 + 2) + x2_7)) <|
    chk (inb 720 (r_10 + 2)) <|
    bv (si s_11 28 (ix (r_10 + 2)) (gi s_11 28 (ix ((v_2 + 2) + x2_7)))) fun s_14 =>
    bv (x2_7 + 1) fun v_15 =>
    rec52 v_15 s_14
def fX10_undo (s0 : Sg) : Option (Int32 × Sg) :=
  if (gi s0 28 (ix 9)) = 0 then
    some ((-1), s0)
  else
    bv (si s0 28 (ix 9) ((gi s0 28 (ix 9)) - 1)) fun s_1 =>
    bv (160 + (14 * (gi s_1 28 (ix 9)))) fun v_2 =>
    chk (inb 720 v_2) <|
    bv (si s_1 28 (ix 4) (gi s_1 28 (ix v_2))) fun s_4 =>
    bv (fun (s_5 : Sg) => 
      some (gi s_5 28 (ix 9), s_5))
    fun k_6 =>
    lo2 (fX10_undo_52_b v_2 k_6) FU 0 s_4
theorem wX10_undo_52 {p : Program} {l : Launch} {e : Env} {s : State} {m : MethodId} {args : Array Value} {below : List Frame} {meth : Method} {c : Code} {D : va_G} {ct : Nat → ClassId} {A : Nat → Nat} (C : Cx p m c cX10_undo 3 s args yX10_undo.cls meth (some .int) D ct A) (v_2 : Int32) (k_6 : Sg → Option (Int32 × Sg)) (hk_6 : ∀ (s_5 : Sg), Wm p l e (rmD 1) s m args below meth c D ct A 3 embI 91 [(0, .ref (A 27))] [] s_5 (k_6 s_5)) : ∀ (n : Nat) (x2_7 : Int32) (s_8 : Sg), Wm p l e (rmD 1) s m args below meth c D ct A 3 embI 52 [(0, .ref (A 27)), (1, .int v_2), (2, .int x2_7)] [] s_8 (lo2 (fX10_undo_52_b v_2 k_6) n x2_7 s_8) := by
  intro n
  induction n with
  | zero => intro x2_7 s_8; exact m_none
  | succ n hrec52 =>
    intro x2_7 s_8
    refine (show Wm p l e (rmD 1) s m args below meth c D ct A 3 embI 52 [(0, .ref (A 27)), (1, .int v_2), (2, .int x2_7)] [] s_8 (fX10_undo_52_b v_2 k_6 (lo2 (fX10_undo_52_b v_2 k_6) n) x2_7 s_8) from ?_)
    generalize lo2 (fX10_undo_52_b v_2 k_6) n = rec52 at hrec52 ⊢
    unfold fX10_undo_52_b
    refine m_iload_n C dX10_undo_52 rfl ?_
    refine m_aload_n C dX10_undo_53 rfl ?_
    refine m_get (v := .ref (A 28)) C fl_X10_7_9 rfl (by decide) rfl dX10_undo_54 ?_
    refine m_iload_n C dX10_undo_57 rfl ?_
    refine m_iconst C dX10_undo_58 ci_1 ?_
    refine m_iadd C dX10_undo_59 ?_
    refine m_chk (fun h_9 => ?_)
    refine m_iald C rfl h_9 dX10_undo_60 ?_
    refine m_icmp_ge (tgt := 91) C dX10_undo_61 rfl ?_ ?_
    · refine m_loc (L2 := [(0, .ref (A 27))]) [0] rfl ?_
      exact hk_6 s_8
    · refine m_aload_n C dX10_undo_64 rfl ?_
      refine m_get (v := .ref (A 28)) C fl_X10_7_9 rfl (by decide) rfl dX10_undo_65 ?_
      refine m_iload_n C dX10_undo_68 rfl ?_
      refine m_callSI C ml_X10_87 ⟨Nat.le_of_ble_eq_true rfl, Nat.le_of_ble_eq_true rfl⟩ [.int x2_7] [.ref (A 28)] rfl rfl (Nat.le_of_ble_eq_true rfl) dX10_undo_69 (fun o ho => kX10_thingAt l D ct A x2_7 s_8 o ho) (fun r_10 s_11 => ?_)
      refine m_iconst C dX10_undo_72 ci_2 ?_
      refine m_iadd C dX10_undo_73 ?_
      refine m_aload_n C dX10_undo_74 rfl ?_
      refine m_get (v := .ref (A 28)) C fl_X10_7_9 rfl (by decide) rfl dX10_undo_75 ?_
      refine m_iload_n C dX10_undo_78 rfl ?_
      refine m_iconst C dX10_undo_79 ci_2 ?_
      refine m_iadd C dX10_undo_80 ?_
      refine m_iload_n C dX10_undo_81 rfl ?_
      refine m_iadd C dX10_undo_82 ?_
      refine m_chk (fun h_12 => ?_)
      refine m_iald C rfl h_12 dX10_undo_83 ?_
      refine m_chk (fun h_13 => ?_)
      refine m_iast C rfl h_13 dX10_undo_84 (fun s_14 => ?_)
      refine m_iincb (L2 := fun v_15 => [(2, .int v_15), (0, .ref (A 27)), (1, .int v_2)]) (q := 2) C dX10_undo_85 rfl ci_1 (by decide) (fun _ => rfl) (fun v_15 => ?_)
      refine m_goto (tgt := 52) C dX10_undo_88 rfl ?_
      refine m_loc (L2 := [(0, .ref (A 27)), (1, .int v_2), (2, .int v_15)]) [1, 2, 0] rfl ?_
      exact hrec52 v_15 s_14
theorem kX10_undo (l : Launch) (D : va_G) (ct : Nat → ClassId) (A : Nat → Nat) (s0 : Sg) (o : Int32 × Sg) (ho : fX10_undo s0 = some o) : Con l yX10_undo cX10_undo 3 (some .int) 1 D ct A [.ref (A 27)] s0 (embI o) := by
  refine con_start (by decide +kernel) (Nat.le_of_ble_eq_true rfl) ho (fun p e s m args below meth c C => ?_)
  refine m_loc (L2 := [(0, .ref (A 27))]) [0] rfl ?_
  unfold fX10_undo
  refine m_aload_n C dX10_undo_0 rfl ?_
  refine m_get (v := .ref (A 28)) C fl_X10_7_9 rfl (by decide) rfl dX10_undo_1 ?_
  refine m_bipush C dX10_undo_4 cb_9 ?_
  refine m_iald C rfl (by decide +kernel) dX10_undo_6 ?_
  refine m_if_ne (tgt := 12) C dX10_undo_7 rfl ?_ ?_
  · refine m_aload_n C dX10_undo_12 rfl ?_
    refine m_get (v := .ref (A 28)) C fl_X10_7_9 rfl (by decide) rfl dX10_undo_13 ?_
    refine m_bipush C dX10_undo_16 cb_9 ?_
    refine m_dup2 C dX10_undo_18 rfl rfl ?_
    refine m_iald C rfl (by decide +kernel) dX10_undo_19 ?_
    refine m_iconst C dX10_undo_20 ci_1 ?_
    refine m_isub C dX10_undo_21 ?_
    refine m_iast C rfl (by decide +kernel) dX10_undo_22 (fun s_1 => ?_)
    refine m_sipush C dX10_undo_23 cs_160 ?_
    refine m_bipush C dX10_undo_26 cb_14 ?_
    refine m_aload_n C dX10_undo_28 rfl ?_
    refine m_get (v := .ref (A 28)) C fl_X10_7_9 rfl (by decide) rfl dX10_undo_29 ?_
    refine m_bipush C dX10_undo_32 cb_9 ?_
    refine m_iald C rfl (by decide +kernel) dX10_undo_34 ?_
    refine m_imul C dX10_undo_35 ?_
    refine m_iadd C dX10_undo_36 ?_
    refine m_let (fun v_2 => ?_)
    refine m_istore_n (L2 := [(1, .int v_2), (0, .ref (A 27))]) C dX10_undo_37 rfl (by decide) rfl ?_
    refine m_aload_n C dX10_undo_38 rfl ?_
    refine m_get (v := .ref (A 28)) C fl_X10_7_9 rfl (by decide) rfl dX10_undo_39 ?_
    refine m_iconst C dX10_undo_42 ci_4 ?_
    refine m_aload_n C dX10_undo_43 rfl ?_
    refine m_get (v := .ref (A 28)) C fl_X10_7_9 rfl (by decide) rfl dX10_undo_44 ?_
    refine m_iload_n C dX10_undo_47 rfl ?_
    refine m_chk (fun h_3 => ?_)
    refine m_iald C rfl h_3 dX10_undo_48 ?_
    refine m_iast C rfl (by decide +kernel) dX10_undo_49 (fun s_4 => ?_)
    refine m_iconst C dX10_undo_50 ci_0 ?_
    refine m_istore_n (L2 := [(2, .int 0), (1, .int v_2), (0, .ref (A 27))]) C dX10_undo_51 rfl (by decide) rfl ?_
    refine m_jn (P := fun (k_6 : Sg → Option (Int32 × Sg)) => ∀ (s_5 : Sg), Wm p l e (rmD 1) s m args below meth c D ct A 3 embI 91 [(0, .ref (A 27))] [] s_5 (k_6 s_5)) ?_ (fun k_6 hk_6 => ?_)
    · intro s_5
      refine m_aload_n C dX10_undo_91 rfl ?_
      refine m_get (v := .ref (A 28)) C fl_X10_7_9 rfl (by decide) rfl dX10_undo_92 ?_
      refine m_bipush C dX10_undo_95 cb_9 ?_
      refine m_iald C rfl (by decide +kernel) dX10_undo_97 ?_
      exact m_iret C dX10_undo_98
    refine m_loc (L2 := [(0, .ref (A 27)), (1, .int v_2), (2, .int 0)]) [2, 1, 0] rfl ?_
    exact wX10_undo_52 C v_2 k_6 hk_6 FU 0 s_4
  · refine m_iconst C dX10_undo_10 ci_m1 ?_
    exact m_iret C dX10_undo_11
def fX10_lays (a1 : Int32) (a2 : Int32) (s0 : Sg) : Option (Bool × Sg) :=
  bnd (fX10_panOf a1 s0) fun r_1 s_2 =>
  bnd (fX10_thingAt a1 s_2) fun r_3 s_4 =>
  chk (inb 720 (r_3 + 2)) <|
  bv (si s_4 28 (ix (r_3 + 2)) a2) fun s_6 =>
  bnd (fX10_isSafeNow s_6) fun r_7 s_8 =>
  bnd (fX10_thingAt a1 s_8) fun r_9 s_10 =>
  chk (inb 720 (r_9 + 2)) <|
  bv (si s_10 28 (ix (r_9 + 2)) r_1) fun s_12 =>
  if (b2i r_7) = 0 then
    some (false, s_12)
  else
    bnv (fX10_keep s_12) fun s_13 =>
    bnd (fX10_thingAt a1 s_13) fun r_14 s_15 =>
    chk (inb 720 (r_14 + 2)) <|
    bv (si s_15 28 (ix (r_14 + 2)) a2) fun s_17 =>
    some (true, s_17)
theorem kX10_lays (l : Launch) (D : va_G) (ct : Nat → ClassId) (A : Nat → Nat) (a1 : Int32) (a2 : Int32) (s0 : Sg) (o : Bool × Sg) (ho : fX10_lays a1 a2 s0 = some o) : Con l yX10_lays cX10_lays 5 (some .boolean) 7 D ct A [.ref (A 27), .int a1, .int a2] s0 (embZ o) := by
  refine con_start (by decide +kernel) (Nat.le_of_ble_eq_true rfl) ho (fun p e s m args below meth c C => ?_)
  refine m_loc (L2 := [(0, .ref (A 27)), (1, .int a1), (2, .int a2)]) [0, 1, 2] rfl ?_
  unfold fX10_lays
  refine m_aload_n C dX10_lays_0 rfl ?_
  refine m_iload_n C dX10_lays_1 rfl ?_
  refine m_callVI C ml_X10_268 ⟨Nat.le_of_ble_eq_true rfl, Nat.le_of_ble_eq_true rfl⟩ rfl rfl [.int a1] [] rfl rfl (Nat.le_of_ble_eq_true rfl) dX10_lays_2 (fun o ho => kX10_panOf l D ct A a1 s0 o ho) (fun r_1 s_2 => ?_)
  refine m_istore_n (L2 := [(3, .int r_1), (0, .ref (A 27)), (1, .int a1), (2, .int a2)]) C dX10_lays_5 rfl (by decide) rfl ?_
  refine m_aload_n C dX10_lays_6 rfl ?_
  refine m_get (v := .ref (A 28)) C fl_X10_7_9 rfl (by decide) rfl dX10_lays_7 ?_
  refine m_iload_n C dX10_lays_10 rfl ?_
  refine m_callSI C ml_X10_87 ⟨Nat.le_of_ble_eq_true rfl, Nat.le_of_ble_eq_true rfl⟩ [.int a1] [.ref (A 28)] rfl rfl (Nat.le_of_ble_eq_true rfl) dX10_lays_11 (fun o ho => kX10_thingAt l D ct A a1 s_2 o ho) (fun r_3 s_4 => ?_)
  refine m_iconst C dX10_lays_14 ci_2 ?_
  refine m_iadd C dX10_lays_15 ?_
  refine m_iload_n C dX10_lays_16 rfl ?_
  refine m_chk (fun h_5 => ?_)
  refine m_iast C rfl h_5 dX10_lays_17 (fun s_6 => ?_)
  refine m_aload_n C dX10_lays_18 rfl ?_
  refine m_callVZ C ml_X10_297 ⟨Nat.le_of_ble_eq_true rfl, Nat.le_of_ble_eq_true rfl⟩ rfl rfl [] [] rfl rfl (Nat.le_of_ble_eq_true rfl) dX10_lays_19 (fun o ho => kX10_isSafeNow l D ct A s_6 o ho) (fun r_7 s_8 => ?_)
  refine m_istore (L2 := [(4, .int (b2i r_7)), (3, .int r_1), (0, .ref (A 27)), (1, .int a1), (2, .int a2)]) C dX10_lays_22 (by decide) rfl ?_
  refine m_aload_n C dX10_lays_24 rfl ?_
  refine m_get (v := .ref (A 28)) C fl_X10_7_9 rfl (by decide) rfl dX10_lays_25 ?_
  refine m_iload_n C dX10_lays_28 rfl ?_
  refine m_callSI C ml_X10_87 ⟨Nat.le_of_ble_eq_true rfl, Nat.le_of_ble_eq_true rfl⟩ [.int a1] [.ref (A 28)] rfl rfl (Nat.le_of_ble_eq_true rfl) dX10_lays_29 (fun o ho => kX10_thingAt l D ct A a1 s_8 o ho) (fun r_9 s_10 => ?_)
  refine m_iconst C dX10_lays_32 ci_2 ?_
  refine m_iadd C dX10_lays_33 ?_
  refine m_iload_n C dX10_lays_34 rfl ?_
  refine m_chk (fun h_11 => ?_)
  refine m_iast C rfl h_11 dX10_lays_35 (fun s_12 => ?_)
  refine m_iload C dX10_lays_36 rfl ?_
  refine m_if_ne (tgt := 43) C dX10_lays_38 rfl ?_ ?_
  · refine m_aload_n C dX10_lays_43 rfl ?_
    refine m_callVV C ml_X10_300 ⟨Nat.le_of_ble_eq_true rfl, Nat.le_of_ble_eq_true rfl⟩ rfl rfl [] [] rfl rfl (Nat.le_of_ble_eq_true rfl) dX10_lays_44 (fun o ho => kX10_keep l D ct A s_12 o ho) (fun s_13 => ?_)
    refine m_aload_n C dX10_lays_47 rfl ?_
    refine m_get (v := .ref (A 28)) C fl_X10_7_9 rfl (by decide) rfl dX10_lays_48 ?_
    refine m_iload_n C dX10_lays_51 rfl ?_
    refine m_callSI C ml_X10_87 ⟨Nat.le_of_ble_eq_true rfl, Nat.le_of_ble_eq_true rfl⟩ [.int a1] [.ref (A 28)] rfl rfl (Nat.le_of_ble_eq_true rfl) dX10_lays_52 (fun o ho => kX10_thingAt l D ct A a1 s_13 o ho) (fun r_14 s_15 => ?_)
    refine m_iconst C dX10_lays_55 ci_2 ?_
    refine m_iadd C dX10_lays_56 ?_
    refine m_iload_n C dX10_lays_57 rfl ?_
    refine m_chk (fun h_16 => ?_)
    refine m_iast C rfl h_16 dX10_lays_58 (fun s_17 => ?_)
    refine m_iconst C dX10_lays_59 ci_1 ?_
    exact m_zret C true rfl dX10_lays_60
  · refine m_iconst C dX10_lays_41 ci_0 ?_
    exact m_zret C false rfl dX10_lays_42
def fX10_put (a1 : Int32) (a2 : Int32) (s0 : Sg) : Option (Int32 × Sg) :=
  bnd (fX10_isThing a1 s0) fun r_1 s_2 =>
  if (b2i r_1) = 0 then
    some ((-1), s_2)
  else
    bnd (fX10_isIn a2 0 1 s_2) fun r_3 s_4 =>
    if (b2i r_3) = 0 then
      some ((-1), s_4)
    else
      bnd (fX10_panOf a1 s_4) fun r_5 s_6 =>
      if 0 ≤ r_5 then
        some ((-1), s_6)
      else
        bnd (fX10_lays a1 a2 s_6) fun r_7 s_8 =>
        if (b2i r_7) = 0 then
          some ((-1), s_8)
        else
          bnv (fX10_nameNow s_8) fun s_9 =>
          bnd (fX10_load a2 s_9) fun r_10 s_11 =>
          some (r_10, s_11)
theorem kX10_put (l : Launch) (D : va_G) (ct : Nat → ClassId) (A : Nat → Nat) (a1 : Int32) (a2 : Int32) (s0 : Sg) (o : Int32 × Sg) (ho : fX10_put a1 a2 s0 = some o) : Con l yX10_put cX10_put 3 (some .int) 8 D ct A [.ref (A 27), .int a1, .int a2] s0 (embI o) := by
  refine con_start (by decide +kernel) (Nat.le_of_ble_eq_true rfl) ho (fun p e s m args below meth c C => ?_)
  refine m_loc (L2 := [(0, .ref (A 27)), (1, .int a1), (2, .int a2)]) [0, 1, 2] rfl ?_
  unfold fX10_put
  refine m_aload_n C dX10_put_0 rfl ?_
  refine m_iload_n C dX10_put_1 rfl ?_
  refine m_callVZ C ml_X10_290 ⟨Nat.le_of_ble_eq_true rfl, Nat.le_of_ble_eq_true rfl⟩ rfl rfl [.int a1] [] rfl rfl (Nat.le_of_ble_eq_true rfl) dX10_put_2 (fun o ho => kX10_isThing l D ct A a1 s0 o ho) (fun r_1 s_2 => ?_)
  refine m_if_eq (tgt := 34) C dX10_put_5 rfl ?_ ?_
  · refine m_iconst C dX10_put_34 ci_m1 ?_
    exact m_iret C dX10_put_35
  · refine m_iload_n C dX10_put_8 rfl ?_
    refine m_iconst C dX10_put_9 ci_0 ?_
    refine m_iconst C dX10_put_10 ci_1 ?_
    refine m_callSZ C ml_X10_83 ⟨Nat.le_of_ble_eq_true rfl, Nat.le_of_ble_eq_true rfl⟩ [.int a2, .int 0, .int 1] [] rfl rfl (Nat.le_of_ble_eq_true rfl) dX10_put_11 (fun o ho => kX10_isIn l D ct A a2 0 1 s_2 o ho) (fun r_3 s_4 => ?_)
    refine m_if_eq (tgt := 34) C dX10_put_14 rfl ?_ ?_
    · refine m_iconst C dX10_put_34 ci_m1 ?_
      exact m_iret C dX10_put_35
    · refine m_aload_n C dX10_put_17 rfl ?_
      refine m_iload_n C dX10_put_18 rfl ?_
      refine m_callVI C ml_X10_268 ⟨Nat.le_of_ble_eq_true rfl, Nat.le_of_ble_eq_true rfl⟩ rfl rfl [.int a1] [] rfl rfl (Nat.le_of_ble_eq_true rfl) dX10_put_19 (fun o ho => kX10_panOf l D ct A a1 s_4 o ho) (fun r_5 s_6 => ?_)
      refine m_if_ge (tgt := 34) C dX10_put_22 rfl ?_ ?_
      · refine m_iconst C dX10_put_34 ci_m1 ?_
        exact m_iret C dX10_put_35
      · refine m_aload_n C dX10_put_25 rfl ?_
        refine m_iload_n C dX10_put_26 rfl ?_
        refine m_iload_n C dX10_put_27 rfl ?_
        refine m_callVZ C ml_X10_303 ⟨Nat.le_of_ble_eq_true rfl, Nat.le_of_ble_eq_true rfl⟩ rfl rfl [.int a1, .int a2] [] rfl rfl (Nat.le_of_ble_eq_true rfl) dX10_put_28 (fun o ho => kX10_lays l D ct A a1 a2 s_6 o ho) (fun r_7 s_8 => ?_)
        refine m_if_ne (tgt := 36) C dX10_put_31 rfl ?_ ?_
        · refine m_aload_n C dX10_put_36 rfl ?_
          refine m_callVV C ml_X10_280 ⟨Nat.le_of_ble_eq_true rfl, Nat.le_of_ble_eq_true rfl⟩ rfl rfl [] [] rfl rfl (Nat.le_of_ble_eq_true rfl) dX10_put_37 (fun o ho => kX10_nameNow l D ct A s_8 o ho) (fun s_9 => ?_)
          refine m_aload_n C dX10_put_40 rfl ?_
          refine m_iload_n C dX10_put_41 rfl ?_
          refine m_callVI C ml_X10_283 ⟨Nat.le_of_ble_eq_true rfl, Nat.le_of_ble_eq_true rfl⟩ rfl rfl [.int a2] [] rfl rfl (Nat.le_of_ble_eq_true rfl) dX10_put_42 (fun o ho => kX10_load l D ct A a2 s_9 o ho) (fun r_10 s_11 => ?_)
          exact m_iret C dX10_put_45
        · refine m_iconst C dX10_put_34 ci_m1 ?_
          exact m_iret C dX10_put_35
def fX10_take (a1 : Int32) (s0 : Sg) : Option (Int32 × Sg) :=
  bnd (fX10_isThing a1 s0) fun r_1 s_2 =>
  if (b2i r_1) = 0 then
    some ((-1), s_2)
  else
    bnd (fX10_panOf a1 s_2) fun r_3 s_4 =>
    if 0 ≤ r_3 then
      bnd (fX10_panOf a1 s_4) fun r_5 s_6 =>
      bnd (fX10_lays a1 (-1) s_6) fun r_7 s_8 =>
      if (b2i r_7) = 0 then
        some ((-1), s_8)
      else
        some (r_5, s_8)
    else
      some ((-1), s_4)
theorem kX10_take (l : Launch) (D : va_G) (ct : Nat → ClassId) (A : Nat → Nat) (a1 : Int32) (s0 : Sg) (o : Int32 × Sg) (ho : fX10_take a1 s0 = some o) : Con l yX10_take cX10_take 3 (some .int) 8 D ct A [.ref (A 27), .int a1] s0 (embI o) := by
  refine con_start (by decide +kernel) (Nat.le_of_ble_eq_true rfl) ho (fun p e s m args below meth c C => ?_)
  refine m_loc (L2 := [(0, .ref (A 27)), (1, .int a1)]) [0, 1] rfl ?_
  unfold fX10_take
  refine m_aload_n C dX10_take_0 rfl ?_
  refine m_iload_n C dX10_take_1 rfl ?_
  refine m_callVZ C ml_X10_290 ⟨Nat.le_of_ble_eq_true rfl, Nat.le_of_ble_eq_true rfl⟩ rfl rfl [.int a1] [] rfl rfl (Nat.le_of_ble_eq_true rfl) dX10_take_2 (fun o ho => kX10_isThing l D ct A a1 s0 o ho) (fun r_1 s_2 => ?_)
  refine m_if_eq (tgt := 16) C dX10_take_5 rfl ?_ ?_
  · refine m_iconst C dX10_take_16 ci_m1 ?_
    exact m_iret C dX10_take_17
  · refine m_aload_n C dX10_take_8 rfl ?_
    refine m_iload_n C dX10_take_9 rfl ?_
    refine m_callVI C ml_X10_268 ⟨Nat.le_of_ble_eq_true rfl, Nat.le_of_ble_eq_true rfl⟩ rfl rfl [.int a1] [] rfl rfl (Nat.le_of_ble_eq_true rfl) dX10_take_10 (fun o ho => kX10_panOf l D ct A a1 s_2 o ho) (fun r_3 s_4 => ?_)
    refine m_if_ge (tgt := 18) C dX10_take_13 rfl ?_ ?_
    · refine m_aload_n C dX10_take_18 rfl ?_
      refine m_iload_n C dX10_take_19 rfl ?_
      refine m_callVI C ml_X10_268 ⟨Nat.le_of_ble_eq_true rfl, Nat.le_of_ble_eq_true rfl⟩ rfl rfl [.int a1] [] rfl rfl (Nat.le_of_ble_eq_true rfl) dX10_take_20 (fun o ho => kX10_panOf l D ct A a1 s_4 o ho) (fun r_5 s_6 => ?_)
      refine m_istore_n (L2 := [(2, .int r_5), (0, .ref (A 27)), (1, .int a1)]) C dX10_take_23 rfl (by decide) rfl ?_
      refine m_aload_n C dX10_take_24 rfl ?_
      refine m_iload_n C dX10_take_25 rfl ?_
      refine m_iconst C dX10_take_26 ci_m1 ?_
      refine m_callVZ C ml_X10_303 ⟨Nat.le_of_ble_eq_true rfl, Nat.le_of_ble_eq_true rfl⟩ rfl rfl [.int a1, .int (-1)] [] rfl rfl (Nat.le_of_ble_eq_true rfl) dX10_take_27 (fun o ho => kX10_lays l D ct A a1 (-1) s_6 o ho) (fun r_7 s_8 => ?_)
      refine m_if_eq (tgt := 37) C dX10_take_30 rfl ?_ ?_
      · refine m_iconst C dX10_take_37 ci_m1 ?_
        exact m_iret C dX10_take_38
      · refine m_iload_n C dX10_take_33 rfl ?_
        refine m_goto (tgt := 38) C dX10_take_34 rfl ?_
        exact m_iret C dX10_take_38
    · refine m_iconst C dX10_take_16 ci_m1 ?_
      exact m_iret C dX10_take_17
def fX10_pass (a1 : Int32) (s0 : Sg) : Option (Int32 × Sg) :=
  bnd (fX10_isIn a1 0 99 s0) fun r_1 s_2 =>
  if (b2i r_1) = 0 then
    some ((-1), s_2)
  else
    bnv (fX10_keep s_2) fun s_3 =>
    bv (si s_3 28 (ix 4) (((gi s_3 28 (ix 4)) + a1) - ((gi s_3 28 (ix 4)) + a1) / 24 * 24)) fun s_4 =>
    some (gi s_4 28 (ix 4), s_4)
theorem kX10_pass (l : Launch) (D : va_G) (ct : Nat → ClassId) (A : Nat → Nat) (a1 : Int32) (s0 : Sg) (o : Int32 × Sg) (ho : fX10_pass a1 s0 = some o) : Con l yX10_pass cX10_pass 2 (some .int) 3 D ct A [.ref (A 27), .int a1] s0 (embI o) := by
  refine con_start (by decide +kernel) (Nat.le_of_ble_eq_true rfl) ho (fun p e s m args below meth c C => ?_)
  refine m_loc (L2 := [(0, .ref (A 27)), (1, .int a1)]) [0, 1] rfl ?_
  unfold fX10_pass
  refine m_iload_n C dX10_pass_0 rfl ?_
  refine m_iconst C dX10_pass_1 ci_0 ?_
  refine m_bipush C dX10_pass_2 cb_99 ?_
  refine m_callSZ C ml_X10_83 ⟨Nat.le_of_ble_eq_true rfl, Nat.le_of_ble_eq_true rfl⟩ [.int a1, .int 0, .int 99] [] rfl rfl (Nat.le_of_ble_eq_true rfl) dX10_pass_4 (fun o ho => kX10_isIn l D ct A a1 0 99 s0 o ho) (fun r_1 s_2 => ?_)
  refine m_if_ne (tgt := 12) C dX10_pass_7 rfl ?_ ?_
  · refine m_aload_n C dX10_pass_12 rfl ?_
    refine m_callVV C ml_X10_300 ⟨Nat.le_of_ble_eq_true rfl, Nat.le_of_ble_eq_true rfl⟩ rfl rfl [] [] rfl rfl (Nat.le_of_ble_eq_true rfl) dX10_pass_13 (fun o ho => kX10_keep l D ct A s_2 o ho) (fun s_3 => ?_)
    refine m_aload_n C dX10_pass_16 rfl ?_
    refine m_get (v := .ref (A 28)) C fl_X10_7_9 rfl (by decide) rfl dX10_pass_17 ?_
    refine m_iconst C dX10_pass_20 ci_4 ?_
    refine m_aload_n C dX10_pass_21 rfl ?_
    refine m_get (v := .ref (A 28)) C fl_X10_7_9 rfl (by decide) rfl dX10_pass_22 ?_
    refine m_iconst C dX10_pass_25 ci_4 ?_
    refine m_iald C rfl (by decide +kernel) dX10_pass_26 ?_
    refine m_iload_n C dX10_pass_27 rfl ?_
    refine m_iadd C dX10_pass_28 ?_
    refine m_bipush C dX10_pass_29 cb_24 ?_
    refine m_irem C dX10_pass_31 (by decide +kernel) ?_
    refine m_iast C rfl (by decide +kernel) dX10_pass_32 (fun s_4 => ?_)
    refine m_aload_n C dX10_pass_33 rfl ?_
    refine m_get (v := .ref (A 28)) C fl_X10_7_9 rfl (by decide) rfl dX10_pass_34 ?_
    refine m_iconst C dX10_pass_37 ci_4 ?_
    refine m_iald C rfl (by decide +kernel) dX10_pass_38 ?_
    exact m_iret C dX10_pass_39
  · refine m_iconst C dX10_pass_10 ci_m1 ?_
    exact m_iret C dX10_pass_11
def fX10_isPlayed (a1 : Int32) (s0 : Sg) : Option (Bool × Sg) :=
  chk (inb 2720 a1) <|
  if (gi s0 30 (ix a1)) = 2 then
    chk (inb 2720 (a1 + 1)) <|
    chk (inb 2720 (a1 + 2)) <|
    bnd (fX10_put (gi s0 30 (ix (a1 + 1))) (gi s0 30 (ix (a1 + 2))) s0) fun r_4 s_5 =>
    if r_4 < 0 then
      some (false, s_5)
    else
      some (true, s_5)
  else
    if (gi s0 30 (ix a1)) = 3 then
      chk (inb 2720 (a1 + 1)) <|
      bnd (fX10_take (gi s0 30 (ix (a1 + 1))) s0) fun r_8 s_9 =>
      if r_8 < 0 then
        some (false, s_9)
      else
        some (true, s_9)
    else
      if (gi s0 30 (ix a1)) = 4 then
        chk (inb 2720 (a1 + 1)) <|
        bnd (fX10_pass (gi s0 30 (ix (a1 + 1))) s0) fun r_12 s_13 =>
        if r_12 < 0 then
          some (false, s_13)
        else
          some (true, s_13)
      else
        some (true, s0)
theorem kX10_isPlayed (l : Launch) (D : va_G) (ct : Nat → ClassId) (A : Nat → Nat) (a1 : Int32) (s0 : Sg) (o : Bool × Sg) (ho : fX10_isPlayed a1 s0 = some o) : Con l yX10_isPlayed cX10_isPlayed 2 (some .boolean) 9 D ct A [.ref (A 27), .int a1] s0 (embZ o) := by
  refine con_start (by decide +kernel) (Nat.le_of_ble_eq_true rfl) ho (fun p e s m args below meth c C => ?_)
  refine m_loc (L2 := [(0, .ref (A 27)), (1, .int a1)]) [0, 1] rfl ?_
  unfold fX10_isPlayed
  refine m_aload_n C dX10_isPlayed_0 rfl ?_
  refine m_get (v := .ref (A 30)) C fl_X10_16_9 rfl (by decide) rfl dX10_isPlayed_1 ?_
  refine m_iload_n C dX10_isPlayed_4 rfl ?_
  refine m_chk (fun h_1 => ?_)
  refine m_iald C rfl h_1 dX10_isPlayed_5 ?_
  refine m_tbl (n := 0) C dX10_isPlayed_6 2 26 32 (by decide +kernel) ?_ (fun h_6 => ?_)
  · refine m_aload_n C dX10_isPlayed_32 rfl ?_
    refine m_aload_n C dX10_isPlayed_33 rfl ?_
    refine m_get (v := .ref (A 30)) C fl_X10_16_9 rfl (by decide) rfl dX10_isPlayed_34 ?_
    refine m_iload_n C dX10_isPlayed_37 rfl ?_
    refine m_iconst C dX10_isPlayed_38 ci_1 ?_
    refine m_iadd C dX10_isPlayed_39 ?_
    refine m_chk (fun h_2 => ?_)
    refine m_iald C rfl h_2 dX10_isPlayed_40 ?_
    refine m_aload_n C dX10_isPlayed_41 rfl ?_
    refine m_get (v := .ref (A 30)) C fl_X10_16_9 rfl (by decide) rfl dX10_isPlayed_42 ?_
    refine m_iload_n C dX10_isPlayed_45 rfl ?_
    refine m_iconst C dX10_isPlayed_46 ci_2 ?_
    refine m_iadd C dX10_isPlayed_47 ?_
    refine m_chk (fun h_3 => ?_)
    refine m_iald C rfl h_3 dX10_isPlayed_48 ?_
    refine m_callVI C ml_X10_306 ⟨Nat.le_of_ble_eq_true rfl, Nat.le_of_ble_eq_true rfl⟩ rfl rfl [.int (gi s0 30 (ix (a1 + 1))), .int (gi s0 30 (ix (a1 + 2)))] [] rfl rfl (Nat.le_of_ble_eq_true rfl) dX10_isPlayed_49 (fun o ho => kX10_put l D ct A (gi s0 30 (ix (a1 + 1))) (gi s0 30 (ix (a1 + 2))) s0 o ho) (fun r_4 s_5 => ?_)
    refine m_if_lt (tgt := 59) C dX10_isPlayed_52 rfl ?_ ?_
    · refine m_iconst C dX10_isPlayed_59 ci_0 ?_
      exact m_zret C false rfl dX10_isPlayed_60
    · refine m_iconst C dX10_isPlayed_55 ci_1 ?_
      refine m_goto (tgt := 60) C dX10_isPlayed_56 rfl ?_
      exact m_zret C true rfl dX10_isPlayed_60
  · refine m_tbl (n := 0) C dX10_isPlayed_6 3 55 61 (by decide +kernel) ?_ (fun h_10 => ?_)
    · refine m_aload_n C dX10_isPlayed_61 rfl ?_
      refine m_aload_n C dX10_isPlayed_62 rfl ?_
      refine m_get (v := .ref (A 30)) C fl_X10_16_9 rfl (by decide) rfl dX10_isPlayed_63 ?_
      refine m_iload_n C dX10_isPlayed_66 rfl ?_
      refine m_iconst C dX10_isPlayed_67 ci_1 ?_
      refine m_iadd C dX10_isPlayed_68 ?_
      refine m_chk (fun h_7 => ?_)
      refine m_iald C rfl h_7 dX10_isPlayed_69 ?_
      refine m_callVI C ml_X10_309 ⟨Nat.le_of_ble_eq_true rfl, Nat.le_of_ble_eq_true rfl⟩ rfl rfl [.int (gi s0 30 (ix (a1 + 1)))] [] rfl rfl (Nat.le_of_ble_eq_true rfl) dX10_isPlayed_70 (fun o ho => kX10_take l D ct A (gi s0 30 (ix (a1 + 1))) s0 o ho) (fun r_8 s_9 => ?_)
      refine m_if_lt (tgt := 80) C dX10_isPlayed_73 rfl ?_ ?_
      · refine m_iconst C dX10_isPlayed_80 ci_0 ?_
        exact m_zret C false rfl dX10_isPlayed_81
      · refine m_iconst C dX10_isPlayed_76 ci_1 ?_
        refine m_goto (tgt := 81) C dX10_isPlayed_77 rfl ?_
        exact m_zret C true rfl dX10_isPlayed_81
    · refine m_tbl (n := 0) C dX10_isPlayed_6 4 76 82 (by decide +kernel) ?_ (fun h_14 => ?_)
      · refine m_aload_n C dX10_isPlayed_82 rfl ?_
        refine m_aload_n C dX10_isPlayed_83 rfl ?_
        refine m_get (v := .ref (A 30)) C fl_X10_16_9 rfl (by decide) rfl dX10_isPlayed_84 ?_
        refine m_iload_n C dX10_isPlayed_87 rfl ?_
        refine m_iconst C dX10_isPlayed_88 ci_1 ?_
        refine m_iadd C dX10_isPlayed_89 ?_
        refine m_chk (fun h_11 => ?_)
        refine m_iald C rfl h_11 dX10_isPlayed_90 ?_
        refine m_callVI C ml_X10_312 ⟨Nat.le_of_ble_eq_true rfl, Nat.le_of_ble_eq_true rfl⟩ rfl rfl [.int (gi s0 30 (ix (a1 + 1)))] [] rfl rfl (Nat.le_of_ble_eq_true rfl) dX10_isPlayed_91 (fun o ho => kX10_pass l D ct A (gi s0 30 (ix (a1 + 1))) s0 o ho) (fun r_12 s_13 => ?_)
        refine m_if_lt (tgt := 101) C dX10_isPlayed_94 rfl ?_ ?_
        · refine m_iconst C dX10_isPlayed_101 ci_0 ?_
          exact m_zret C false rfl dX10_isPlayed_102
        · refine m_iconst C dX10_isPlayed_97 ci_1 ?_
          refine m_goto (tgt := 102) C dX10_isPlayed_98 rfl ?_
          exact m_zret C true rfl dX10_isPlayed_102
      · refine m_tblD C dX10_isPlayed_6 103 rfl (tbl_dflt [2, 3, 4] (fun w hw => by simp only [List.mem_cons, List.not_mem_nil, or_false] at hw; rcases hw with rfl | rfl | rfl <;> assumption) 2 (by decide) (by decide +kernel)) ?_
        refine m_iconst C dX10_isPlayed_103 ci_1 ?_
        exact m_zret C true rfl dX10_isPlayed_104
def fX10_played_22_b (a1 : Int32) (rec22 : Int32 → Sg → Option (Int32 × Sg)) (x2_3 : Int32) (s_4 : Sg) : Option (Int32 × Sg) :=
  chk (inb 2720 (680 * a1)) <|
  if (gi s_4 30 (ix (680 * a1))) ≤ x2_3 then
    some ((-1), s_4)
  else
    bnd (fX10_isPlayed (((680 * a1) + 1) + (3 * x2_3)) s_4) fun r_6 s_7 =>
    if (b2i r_6) = 0 then
      some (x2_3, s_7)
    else
      bv (x2_3 + 1) fun v_8 =>
      rec22 v_8 s_7
def fX10_played (a1 : Int32) (s0 : Sg) : Option (Int32 × Sg) :=
  bnd (fX10_isIn a1 0 ((gi s0 28 (ix 7)) - 1) s0) fun r_1 s_2 =>
  if (b2i r_1) = 0 then
    some ((-2), s_2)
  else
    lo2 (fX10_played_22_b a1) FU 0 s_2
theorem wX10_played_22 {p : Program} {l : Launch} {e : Env} {s : State} {m : MethodId} {args : Array Value} {below : List Frame} {meth : Method} {c : Code} {D : va_G} {ct : Nat → ClassId} {A : Nat → Nat} (C : Cx p m c cX10_played 3 s args yX10_played.cls meth (some .int) D ct A) (a1 : Int32) : ∀ (n : Nat) (x2_3 : Int32) (s_4 : Sg), Wm p l e (rmD 10) s m args below meth c D ct A 3 embI 22 [(0, .ref (A 27)), (1, .int a1), (2, .int x2_3)] [] s_4 (lo2 (fX10_played_22_b a1) n x2_3 s_4) := by
  intro n
  induction n with
  | zero => intro x2_3 s_4; exact m_none
  | succ n hrec22 =>
    intro x2_3 s_4
    refine (show Wm p l e (rmD 10) s m args below meth c D ct A 3 embI 22 [(0, .ref (A 27)), (1, .int a1), (2, .int x2_3)] [] s_4 (fX10_played_22_b a1 (lo2 (fX10_played_22_b a1) n) x2_3 s_4) from ?_)
    generalize lo2 (fX10_played_22_b a1) n = rec22 at hrec22 ⊢
    unfold fX10_played_22_b
    refine m_iload_n C dX10_played_22 rfl ?_
    refine m_aload_n C dX10_played_23 rfl ?_
    refine m_get (v := .ref (A 30)) C fl_X10_16_9 rfl (by decide) rfl dX10_played_24 ?_
    refine m_sipush C dX10_played_27 cs_680 ?_
    refine m_iload_n C dX10_played_30 rfl ?_
    refine m_imul C dX10_played_31 ?_
    refine m_chk (fun h_5 => ?_)
    refine m_iald C rfl h_5 dX10_played_32 ?_
    refine m_icmp_ge (tgt := 62) C dX10_played_33 rfl ?_ ?_
    · refine m_iconst C dX10_played_62 ci_m1 ?_
      exact m_iret C dX10_played_63
    · refine m_aload_n C dX10_played_36 rfl ?_
      refine m_sipush C dX10_played_37 cs_680 ?_
      refine m_iload_n C dX10_played_40 rfl ?_
      refine m_imul C dX10_played_41 ?_
      refine m_iconst C dX10_played_42 ci_1 ?_
      refine m_iadd C dX10_played_43 ?_
      refine m_iconst C dX10_played_44 ci_3 ?_
      refine m_iload_n C dX10_played_45 rfl ?_
      refine m_imul C dX10_played_46 ?_
      refine m_iadd C dX10_played_47 ?_
      refine m_callVZ C ml_X10_315 ⟨Nat.le_of_ble_eq_true rfl, Nat.le_of_ble_eq_true rfl⟩ rfl rfl [.int (((680 * a1) + 1) + (3 * x2_3))] [] rfl rfl (Nat.le_of_ble_eq_true rfl) dX10_played_48 (fun o ho => kX10_isPlayed l D ct A (((680 * a1) + 1) + (3 * x2_3)) s_4 o ho) (fun r_6 s_7 => ?_)
      refine m_if_ne (tgt := 56) C dX10_played_51 rfl ?_ ?_
      · refine m_iincb (L2 := fun v_8 => [(2, .int v_8), (0, .ref (A 27)), (1, .int a1)]) (q := 2) C dX10_played_56 rfl ci_1 (by decide) (fun _ => rfl) (fun v_8 => ?_)
        refine m_goto (tgt := 22) C dX10_played_59 rfl ?_
        refine m_loc (L2 := [(0, .ref (A 27)), (1, .int a1), (2, .int v_8)]) [1, 2, 0] rfl ?_
        exact hrec22 v_8 s_7
      · refine m_iload_n C dX10_played_54 rfl ?_
        exact m_iret C dX10_played_55
theorem kX10_played (l : Launch) (D : va_G) (ct : Nat → ClassId) (A : Nat → Nat) (a1 : Int32) (s0 : Sg) (o : Int32 × Sg) (ho : fX10_played a1 s0 = some o) : Con l yX10_played cX10_played 3 (some .int) 10 D ct A [.ref (A 27), .int a1] s0 (embI o) := by
  refine con_start (by decide +kernel) (Nat.le_of_ble_eq_true rfl) ho (fun p e s m args below meth c C => ?_)
  refine m_loc (L2 := [(0, .ref (A 27)), (1, .int a1)]) [0, 1] rfl ?_
  unfold fX10_played
  refine m_iload_n C dX10_played_0 rfl ?_
  refine m_iconst C dX10_played_1 ci_0 ?_
  refine m_aload_n C dX10_played_2 rfl ?_
  refine m_get (v := .ref (A 28)) C fl_X10_7_9 rfl (by decide) rfl dX10_played_3 ?_
  refine m_bipush C dX10_played_6 cb_7 ?_
  refine m_iald C rfl (by decide +kernel) dX10_played_8 ?_
  refine m_iconst C dX10_played_9 ci_1 ?_
  refine m_isub C dX10_played_10 ?_
  refine m_callSZ C ml_X10_83 ⟨Nat.le_of_ble_eq_true rfl, Nat.le_of_ble_eq_true rfl⟩ [.int a1, .int 0, .int ((gi s0 28 (ix 7)) - 1)] [] rfl rfl (Nat.le_of_ble_eq_true rfl) dX10_played_11 (fun o ho => kX10_isIn l D ct A a1 0 ((gi s0 28 (ix 7)) - 1) s0 o ho) (fun r_1 s_2 => ?_)
  refine m_if_ne (tgt := 20) C dX10_played_14 rfl ?_ ?_
  · refine m_iconst C dX10_played_20 ci_0 ?_
    refine m_istore_n (L2 := [(2, .int 0), (0, .ref (A 27)), (1, .int a1)]) C dX10_played_21 rfl (by decide) rfl ?_
    refine m_loc (L2 := [(0, .ref (A 27)), (1, .int a1), (2, .int 0)]) [1, 2, 0] rfl ?_
    exact wX10_played_22 C a1 FU 0 s_2
  · refine m_bipush C dX10_played_17 cb_m2 ?_
    exact m_iret C dX10_played_19
def fX10_areAsked_50_b (a1 : Int32) (rec50 : Int32 → Sg → Option (Bool × Sg)) (x3_7 : Int32) (s_8 : Sg) : Option (Bool × Sg) :=
  if (gi s_8 28 (ix 0)) ≤ x3_7 then
    some (true, s_8)
  else
    bnd (fX10_has a1 x3_7 s_8) fun r_9 s_10 =>
    bv (fun (s_11 : Sg) => 
      bv (x3_7 + 1) fun v_13 =>
      rec50 v_13 s_11)
    fun k_12 =>
    if (b2i r_9) = 0 then
      k_12 s_10
    else
      bnd (fX10_panOf x3_7 s_10) fun r_14 s_15 =>
      if r_14 < 0 then
        k_12 s_15
      else
        some (false, s_15)
def fX10_areAsked (a1 : Int32) (a2 : Int32) (s0 : Sg) : Option (Bool × Sg) :=
  bnd (fX10_isIn a1 0 ((1 <<< ((gi s0 28 (ix 0)) &&& 31)) - 1) s0) fun r_1 s_2 =>
  if (b2i r_1) = 0 then
    some (false, s_2)
  else
    bnd (fX10_isIn a2 0 4095 s_2) fun r_3 s_4 =>
    if (b2i r_3) = 0 then
      some (false, s_4)
    else
      if (a2 &&& (a1 ^^^ (-1))) = 0 then
        bnd (fX10_bits a1 s_4) fun r_5 s_6 =>
        if r_5 ≤ 10 then
          lo2 (fX10_areAsked_50_b a1) FU 0 s_6
        else
          some (false, s_6)
      else
        some (false, s_4)
theorem wX10_areAsked_50 {p : Program} {l : Launch} {e : Env} {s : State} {m : MethodId} {args : Array Value} {below : List Frame} {meth : Method} {c : Code} {D : va_G} {ct : Nat → ClassId} {A : Nat → Nat} (C : Cx p m c cX10_areAsked 4 s args yX10_areAsked.cls meth (some .boolean) D ct A) (a1 : Int32) : ∀ (n : Nat) (x3_7 : Int32) (s_8 : Sg), Wm p l e (rmD 2) s m args below meth c D ct A 4 embZ 50 [(0, .ref (A 27)), (1, .int a1), (3, .int x3_7)] [] s_8 (lo2 (fX10_areAsked_50_b a1) n x3_7 s_8) := by
  intro n
  induction n with
  | zero => intro x3_7 s_8; exact m_none
  | succ n hrec50 =>
    intro x3_7 s_8
    refine (show Wm p l e (rmD 2) s m args below meth c D ct A 4 embZ 50 [(0, .ref (A 27)), (1, .int a1), (3, .int x3_7)] [] s_8 (fX10_areAsked_50_b a1 (lo2 (fX10_areAsked_50_b a1) n) x3_7 s_8) from ?_)
    generalize lo2 (fX10_areAsked_50_b a1) n = rec50 at hrec50 ⊢
    unfold fX10_areAsked_50_b
    refine m_iload_n C dX10_areAsked_50 rfl ?_
    refine m_aload_n C dX10_areAsked_51 rfl ?_
    refine m_get (v := .ref (A 28)) C fl_X10_7_9 rfl (by decide) rfl dX10_areAsked_52 ?_
    refine m_iconst C dX10_areAsked_55 ci_0 ?_
    refine m_iald C rfl (by decide +kernel) dX10_areAsked_56 ?_
    refine m_icmp_ge (tgt := 84) C dX10_areAsked_57 rfl ?_ ?_
    · refine m_iconst C dX10_areAsked_84 ci_1 ?_
      exact m_zret C true rfl dX10_areAsked_85
    · refine m_iload_n C dX10_areAsked_60 rfl ?_
      refine m_iload_n C dX10_areAsked_61 rfl ?_
      refine m_callSZ C ml_X10_321 ⟨Nat.le_of_ble_eq_true rfl, Nat.le_of_ble_eq_true rfl⟩ [.int a1, .int x3_7] [] rfl rfl (Nat.le_of_ble_eq_true rfl) dX10_areAsked_62 (fun o ho => kX10_has l D ct A a1 x3_7 s_8 o ho) (fun r_9 s_10 => ?_)
      refine m_jn (P := fun (k_12 : Sg → Option (Bool × Sg)) => ∀ (s_11 : Sg), Wm p l e (rmD 2) s m args below meth c D ct A 4 embZ 78 [(0, .ref (A 27)), (1, .int a1), (3, .int x3_7)] [] s_11 (k_12 s_11)) ?_ (fun k_12 hk_12 => ?_)
      · intro s_11
        refine m_iincb (L2 := fun v_13 => [(3, .int v_13), (0, .ref (A 27)), (1, .int a1)]) (q := 2) C dX10_areAsked_78 rfl ci_1 (by decide) (fun _ => rfl) (fun v_13 => ?_)
        refine m_goto (tgt := 50) C dX10_areAsked_81 rfl ?_
        refine m_loc (L2 := [(0, .ref (A 27)), (1, .int a1), (3, .int v_13)]) [1, 2, 0] rfl ?_
        exact hrec50 v_13 s_11
      refine m_if_eq (tgt := 78) C dX10_areAsked_65 rfl ?_ ?_
      · refine m_loc (L2 := [(0, .ref (A 27)), (1, .int a1), (3, .int x3_7)]) [0, 1, 2] rfl ?_
        exact hk_12 s_10
      · refine m_aload_n C dX10_areAsked_68 rfl ?_
        refine m_iload_n C dX10_areAsked_69 rfl ?_
        refine m_callVI C ml_X10_268 ⟨Nat.le_of_ble_eq_true rfl, Nat.le_of_ble_eq_true rfl⟩ rfl rfl [.int x3_7] [] rfl rfl (Nat.le_of_ble_eq_true rfl) dX10_areAsked_70 (fun o ho => kX10_panOf l D ct A x3_7 s_10 o ho) (fun r_14 s_15 => ?_)
        refine m_if_lt (tgt := 78) C dX10_areAsked_73 rfl ?_ ?_
        · refine m_loc (L2 := [(0, .ref (A 27)), (1, .int a1), (3, .int x3_7)]) [0, 1, 2] rfl ?_
          exact hk_12 s_15
        · refine m_iconst C dX10_areAsked_76 ci_0 ?_
          exact m_zret C false rfl dX10_areAsked_77
theorem kX10_areAsked (l : Launch) (D : va_G) (ct : Nat → ClassId) (A : Nat → Nat) (a1 : Int32) (a2 : Int32) (s0 : Sg) (o : Bool × Sg) (ho : fX10_areAsked a1 a2 s0 = some o) : Con l yX10_areAsked cX10_areAsked 4 (some .boolean) 2 D ct A [.ref (A 27), .int a1, .int a2] s0 (embZ o) := by
  refine con_start (by decide +kernel) (Nat.le_of_ble_eq_true rfl) ho (fun p e s m args below meth c C => ?_)
  refine m_loc (L2 := [(0, .ref (A 27)), (1, .int a1), (2, .int a2)]) [0, 1, 2] rfl ?_
  unfold fX10_areAsked
  refine m_iload_n C dX10_areAsked_0 rfl ?_
  refine m_iconst C dX10_areAsked_1 ci_0 ?_
  refine m_iconst C dX10_areAsked_2 ci_1 ?_
  refine m_aload_n C dX10_areAsked_3 rfl ?_
  refine m_get (v := .ref (A 28)) C fl_X10_7_9 rfl (by decide) rfl dX10_areAsked_4 ?_
  refine m_iconst C dX10_areAsked_7 ci_0 ?_
  refine m_iald C rfl (by decide +kernel) dX10_areAsked_8 ?_
  refine m_ishl C dX10_areAsked_9 ?_
  refine m_iconst C dX10_areAsked_10 ci_1 ?_
  refine m_isub C dX10_areAsked_11 ?_
  refine m_callSZ C ml_X10_83 ⟨Nat.le_of_ble_eq_true rfl, Nat.le_of_ble_eq_true rfl⟩ [.int a1, .int 0, .int ((1 <<< ((gi s0 28 (ix 0)) &&& 31)) - 1)] [] rfl rfl (Nat.le_of_ble_eq_true rfl) dX10_areAsked_12 (fun o ho => kX10_isIn l D ct A a1 0 ((1 <<< ((gi s0 28 (ix 0)) &&& 31)) - 1) s0 o ho) (fun r_1 s_2 => ?_)
  refine m_if_eq (tgt := 46) C dX10_areAsked_15 rfl ?_ ?_
  · refine m_iconst C dX10_areAsked_46 ci_0 ?_
    exact m_zret C false rfl dX10_areAsked_47
  · refine m_iload_n C dX10_areAsked_18 rfl ?_
    refine m_iconst C dX10_areAsked_19 ci_0 ?_
    refine m_sipush C dX10_areAsked_20 cs_4095 ?_
    refine m_callSZ C ml_X10_83 ⟨Nat.le_of_ble_eq_true rfl, Nat.le_of_ble_eq_true rfl⟩ [.int a2, .int 0, .int 4095] [] rfl rfl (Nat.le_of_ble_eq_true rfl) dX10_areAsked_23 (fun o ho => kX10_isIn l D ct A a2 0 4095 s_2 o ho) (fun r_3 s_4 => ?_)
    refine m_if_eq (tgt := 46) C dX10_areAsked_26 rfl ?_ ?_
    · refine m_iconst C dX10_areAsked_46 ci_0 ?_
      exact m_zret C false rfl dX10_areAsked_47
    · refine m_iload_n C dX10_areAsked_29 rfl ?_
      refine m_iload_n C dX10_areAsked_30 rfl ?_
      refine m_iconst C dX10_areAsked_31 ci_m1 ?_
      refine m_ixor C dX10_areAsked_32 ?_
      refine m_iand C dX10_areAsked_33 ?_
      refine m_if_ne (tgt := 46) C dX10_areAsked_34 rfl ?_ ?_
      · refine m_iconst C dX10_areAsked_46 ci_0 ?_
        exact m_zret C false rfl dX10_areAsked_47
      · refine m_iload_n C dX10_areAsked_37 rfl ?_
        refine m_callSI C ml_X10_318 ⟨Nat.le_of_ble_eq_true rfl, Nat.le_of_ble_eq_true rfl⟩ [.int a1] [] rfl rfl (Nat.le_of_ble_eq_true rfl) dX10_areAsked_38 (fun o ho => kX10_bits l D ct A a1 s_4 o ho) (fun r_5 s_6 => ?_)
        refine m_bipush C dX10_areAsked_41 cb_10 ?_
        refine m_icmp_le (tgt := 48) C dX10_areAsked_43 rfl ?_ ?_
        · refine m_iconst C dX10_areAsked_48 ci_0 ?_
          refine m_istore_n (L2 := [(3, .int 0), (0, .ref (A 27)), (1, .int a1), (2, .int a2)]) C dX10_areAsked_49 rfl (by decide) rfl ?_
          refine m_loc (L2 := [(0, .ref (A 27)), (1, .int a1), (3, .int 0)]) [1, 2, 0] rfl ?_
          exact wX10_areAsked_50 C a1 FU 0 s_6
        · refine m_iconst C dX10_areAsked_46 ci_0 ?_
          exact m_zret C false rfl dX10_areAsked_47
def fX10_findLoads_128_b (a2 : Int32) (x5_9 : Int32) (k_14 : Int32 → Int32 → Sg → Option (Sg)) (rec128 : Int32 → Int32 → Int32 → Sg → Option (Sg)) (x6_25 : Int32) (x7_26 : Int32) (x8_27 : Int32) (s_28 : Sg) : Option (Sg) :=
  if (gi s_28 27 29) ≤ x8_27 then
    k_14 x6_25 x7_26 s_28
  else
    bnd (fX10_has x5_9 x8_27 s_28) fun r_29 s_30 =>
    bv (fun (x6_31 : Int32) (x7_32 : Int32) (s_33 : Sg) => 
      bv (x8_27 + 1) fun v_35 =>
      rec128 x6_31 x7_32 v_35 s_33)
    fun k_34 =>
    if (b2i r_29) = 0 then
      k_34 x6_25 x7_26 s_30
    else
      chk (inb 12 x8_27) <|
      bnd (fX10_has a2 (gi s_30 36 (ix x8_27)) s_30) fun r_37 s_38 =>
      bv (fun (y_39 : Int32) (y_40 : Int32) => 
        bv (y_39 + y_40) fun v_42 =>
        chk (inb 12 x8_27) <|
        bnd (fX10_has a2 (gi s_38 36 (ix x8_27)) s_38) fun r_44 s_45 =>
        bv (fun (y_46 : Int32) (y_47 : Int32) => 
          bv (y_46 + y_47) fun v_49 =>
          k_34 v_42 v_49 s_45)
        fun k_48 =>
        if (b2i r_44) = 0 then
          k_48 x7_26 0
        else
          k_48 x7_26 (gi s_45 37 (ix x8_27)))
      fun k_41 =>
      if (b2i r_37) = 0 then
        k_41 x6_25 (gi s_38 37 (ix x8_27))
      else
        k_41 x6_25 0
def fX10_findLoads_107_b (a2 : Int32) (r_2 : Int32) (r_4 : Int32) (rec107 : Int32 → Sg → Option (Sg)) (x5_9 : Int32) (s_10 : Sg) : Option (Sg) :=
  if (1 <<< ((gi s_10 27 29) &&& 31)) ≤ x5_9 then
    some s_10
  else
    bv (fun (x6_11 : Int32) (x7_12 : Int32) (s_13 : Sg) => 
      bnd (fX10_isSafe x6_11 x7_12 s_13) fun r_15 s_16 =>
      chk (inb 1024 x5_9) <|
      bv (si s_16 38 (ix x5_9) (vp_nar .boolean (b2i r_15))) fun s_18 =>
      bnd (fX10_moment x6_11 x7_12 s_18) fun r_19 s_20 =>
      bnd (fX10_without r_19 s_20) fun r_21 s_22 =>
      bv (si s_22 39 (ix x5_9) r_21) fun s_23 =>
      bv (x5_9 + 1) fun v_24 =>
      rec107 v_24 s_23)
    fun k_14 =>
    lo4 (fX10_findLoads_128_b a2 x5_9 k_14) FU r_2 r_4 0 s_10
def fX10_findLoads_25_b (a1 : Int32) (a2 : Int32) (k_8 : Sg → Option (Sg)) (rec25 : Int32 → Sg → Option (Sg)) (x5_50 : Int32) (s_51 : Sg) : Option (Sg) :=
  if (gi s_51 28 (ix 0)) ≤ x5_50 then
    k_8 s_51
  else
    bnd (fX10_has a1 x5_50 s_51) fun r_52 s_53 =>
    bv (fun (s_54 : Sg) => 
      bv (x5_50 + 1) fun v_56 =>
      rec25 v_56 s_54)
    fun k_55 =>
    if (b2i r_52) = 0 then
      k_55 s_53
    else
      chk (inb 12 (gi s_53 27 29)) <|
      bv (si s_53 36 (ix (gi s_53 27 29)) x5_50) fun s_58 =>
      bnd (fX10_has a2 x5_50 s_58) fun r_59 s_60 =>
      bv (fun (y_61 : Int32) (y_62 : Int32) (y_63 : Bool) => 
        bnd (fX10_bears y_62 (b2i y_63) s_60) fun r_65 s_66 =>
        chk (inb 12 y_61) <|
        bv (si s_66 37 (ix y_61) r_65) fun s_68 =>
        bv (si s_68 27 29 ((gi s_68 27 29) + 1)) fun s_69 =>
        k_55 s_69)
      fun k_64 =>
      if (b2i r_59) = 0 then
        k_64 (gi s_58 27 29) x5_50 false
      else
        k_64 (gi s_58 27 29) x5_50 true
def fX10_findLoads (a1 : Int32) (a2 : Int32) (s0 : Sg) : Option (Sg) :=
  bnv (fX10_nameNow s0) fun s_1 =>
  bnd (fX10_load 0 s_1) fun r_2 s_3 =>
  bnd (fX10_load 1 s_3) fun r_4 s_5 =>
  bv (si s_5 27 29 0) fun s_6 =>
  bv (fun (s_7 : Sg) => 
    lo2 (fX10_findLoads_107_b a2 r_2 r_4) FU 0 s_7)
  fun k_8 =>
  lo2 (fX10_findLoads_25_b a1 a2 k_8) FU 0 s_6
theorem wX10_findLoads_128 {p : Program} {l : Launch} {e : Env} {s : State} {m : MethodId} {args : Array Value} {below : List Frame} {meth : Method} {c : Code} {D : va_G} {ct : Nat → ClassId} {A : Nat → Nat} (C : Cx p m c cX10_findLoads 9 s args yX10_findLoads.cls meth none D ct A) (a2 : Int32) (r_2 : Int32) (r_4 : Int32) (x5_9 : Int32) (k_14 : Int32 → Int32 → Sg → Option (Sg)) (hk_14 : ∀ (x6_11 : Int32) (x7_12 : Int32) (s_13 : Sg), Wm p l e (rmD 6) s m args below meth c D ct A 9 embV 216 [(0, .ref (A 27)), (2, .int a2), (3, .int r_2), (4, .int r_4), (5, .int x5_9), (6, .int x6_11), (7, .int x7_12)] [] s_13 (k_14 x6_11 x7_12 s_13)) : ∀ (n : Nat) (x6_25 : Int32) (x7_26 : Int32) (x8_27 : Int32) (s_28 : Sg), Wm p l e (rmD 6) s m args below meth c D ct A 9 embV 128 [(0, .ref (A 27)), (2, .int a2), (3, .int r_2), (4, .int r_4), (5, .int x5_9), (6, .int x6_25), (7, .int x7_26), (8, .int x8_27)] [] s_28 (lo4 (fX10_findLoads_128_b a2 x5_9 k_14) n x6_25 x7_26 x8_27 s_28) := by
  intro n
  induction n with
  | zero => intro x6_25 x7_26 x8_27 s_28; exact m_none
  | succ n hrec128 =>
    intro x6_25 x7_26 x8_27 s_28
    refine (show Wm p l e (rmD 6) s m args below meth c D ct A 9 embV 128 [(0, .ref (A 27)), (2, .int a2), (3, .int r_2), (4, .int r_4), (5, .int x5_9), (6, .int x6_25), (7, .int x7_26), (8, .int x8_27)] [] s_28 (fX10_findLoads_128_b a2 x5_9 k_14 (lo4 (fX10_findLoads_128_b a2 x5_9 k_14) n) x6_25 x7_26 x8_27 s_28) from ?_)
    generalize lo4 (fX10_findLoads_128_b a2 x5_9 k_14) n = rec128 at hrec128 ⊢
    unfold fX10_findLoads_128_b
    refine m_iload C dX10_findLoads_128 rfl ?_
    refine m_aload_n C dX10_findLoads_130 rfl ?_
    refine m_get (v := .int (gi s_28 27 29)) C fl_X10_324_9 rfl (by decide) rfl dX10_findLoads_131 ?_
    refine m_icmp_ge (tgt := 216) C dX10_findLoads_134 rfl ?_ ?_
    · refine m_loc (L2 := [(0, .ref (A 27)), (2, .int a2), (3, .int r_2), (4, .int r_4), (5, .int x5_9), (6, .int x6_25), (7, .int x7_26)]) [0, 1, 2, 3, 4, 5, 6] rfl ?_
      exact hk_14 x6_25 x7_26 s_28
    · refine m_iload C dX10_findLoads_137 rfl ?_
      refine m_iload C dX10_findLoads_139 rfl ?_
      refine m_callSZ C ml_X10_321 ⟨Nat.le_of_ble_eq_true rfl, Nat.le_of_ble_eq_true rfl⟩ [.int x5_9, .int x8_27] [] rfl rfl (Nat.le_of_ble_eq_true rfl) dX10_findLoads_141 (fun o ho => kX10_has l D ct A x5_9 x8_27 s_28 o ho) (fun r_29 s_30 => ?_)
      refine m_jn (P := fun (k_34 : Int32 → Int32 → Sg → Option (Sg)) => ∀ (x6_31 : Int32) (x7_32 : Int32) (s_33 : Sg), Wm p l e (rmD 6) s m args below meth c D ct A 9 embV 210 [(0, .ref (A 27)), (2, .int a2), (3, .int r_2), (4, .int r_4), (5, .int x5_9), (6, .int x6_31), (7, .int x7_32), (8, .int x8_27)] [] s_33 (k_34 x6_31 x7_32 s_33)) ?_ (fun k_34 hk_34 => ?_)
      · intro x6_31 x7_32 s_33
        refine m_iincb (L2 := fun v_35 => [(8, .int v_35), (0, .ref (A 27)), (2, .int a2), (3, .int r_2), (4, .int r_4), (5, .int x5_9), (6, .int x6_31), (7, .int x7_32)]) (q := 7) C dX10_findLoads_210 rfl ci_1 (by decide) (fun _ => rfl) (fun v_35 => ?_)
        refine m_goto (tgt := 128) C dX10_findLoads_213 rfl ?_
        refine m_loc (L2 := [(0, .ref (A 27)), (2, .int a2), (3, .int r_2), (4, .int r_4), (5, .int x5_9), (6, .int x6_31), (7, .int x7_32), (8, .int v_35)]) [1, 2, 3, 4, 5, 6, 7, 0] rfl ?_
        exact hrec128 x6_31 x7_32 v_35 s_33
      refine m_if_ne (tgt := 150) C dX10_findLoads_144 rfl ?_ ?_
      · refine m_iload C dX10_findLoads_150 rfl ?_
        refine m_iload_n C dX10_findLoads_152 rfl ?_
        refine m_aload_n C dX10_findLoads_153 rfl ?_
        refine m_get (v := .ref (A 36)) C fl_X10_43_9 rfl (by decide) rfl dX10_findLoads_154 ?_
        refine m_iload C dX10_findLoads_157 rfl ?_
        refine m_chk (fun h_36 => ?_)
        refine m_iald C rfl h_36 dX10_findLoads_159 ?_
        refine m_callSZ C ml_X10_321 ⟨Nat.le_of_ble_eq_true rfl, Nat.le_of_ble_eq_true rfl⟩ [.int a2, .int (gi s_30 36 (ix x8_27))] [.int x6_25] rfl rfl (Nat.le_of_ble_eq_true rfl) dX10_findLoads_160 (fun o ho => kX10_has l D ct A a2 (gi s_30 36 (ix x8_27)) s_30 o ho) (fun r_37 s_38 => ?_)
        refine m_jn (P := fun (k_41 : Int32 → Int32 → Option (Sg)) => ∀ (y_39 : Int32) (y_40 : Int32), Wm p l e (rmD 6) s m args below meth c D ct A 9 embV 177 [(0, .ref (A 27)), (2, .int a2), (3, .int r_2), (4, .int r_4), (5, .int x5_9), (7, .int x7_26), (8, .int x8_27)] [.int y_40, .int y_39] s_38 (k_41 y_39 y_40)) ?_ (fun k_41 hk_41 => ?_)
        · intro y_39 y_40
          refine m_iadd C dX10_findLoads_177 ?_
          refine m_let (fun v_42 => ?_)
          refine m_istore (L2 := [(6, .int v_42), (0, .ref (A 27)), (2, .int a2), (3, .int r_2), (4, .int r_4), (5, .int x5_9), (7, .int x7_26), (8, .int x8_27)]) C dX10_findLoads_178 (by decide) rfl ?_
          refine m_iload C dX10_findLoads_180 rfl ?_
          refine m_iload_n C dX10_findLoads_182 rfl ?_
          refine m_aload_n C dX10_findLoads_183 rfl ?_
          refine m_get (v := .ref (A 36)) C fl_X10_43_9 rfl (by decide) rfl dX10_findLoads_184 ?_
          refine m_iload C dX10_findLoads_187 rfl ?_
          refine m_chk (fun h_43 => ?_)
          refine m_iald C rfl h_43 dX10_findLoads_189 ?_
          refine m_callSZ C ml_X10_321 ⟨Nat.le_of_ble_eq_true rfl, Nat.le_of_ble_eq_true rfl⟩ [.int a2, .int (gi s_38 36 (ix x8_27))] [.int x7_26] rfl rfl (Nat.le_of_ble_eq_true rfl) dX10_findLoads_190 (fun o ho => kX10_has l D ct A a2 (gi s_38 36 (ix x8_27)) s_38 o ho) (fun r_44 s_45 => ?_)
          refine m_jn (P := fun (k_48 : Int32 → Int32 → Option (Sg)) => ∀ (y_46 : Int32) (y_47 : Int32), Wm p l e (rmD 6) s m args below meth c D ct A 9 embV 207 [(0, .ref (A 27)), (2, .int a2), (3, .int r_2), (4, .int r_4), (5, .int x5_9), (6, .int v_42), (8, .int x8_27)] [.int y_47, .int y_46] s_45 (k_48 y_46 y_47)) ?_ (fun k_48 hk_48 => ?_)
          · intro y_46 y_47
            refine m_iadd C dX10_findLoads_207 ?_
            refine m_let (fun v_49 => ?_)
            refine m_istore (L2 := [(7, .int v_49), (0, .ref (A 27)), (2, .int a2), (3, .int r_2), (4, .int r_4), (5, .int x5_9), (6, .int v_42), (8, .int x8_27)]) C dX10_findLoads_208 (by decide) rfl ?_
            refine m_loc (L2 := [(0, .ref (A 27)), (2, .int a2), (3, .int r_2), (4, .int r_4), (5, .int x5_9), (6, .int v_42), (7, .int v_49), (8, .int x8_27)]) [1, 2, 3, 4, 5, 6, 0, 7] rfl ?_
            exact hk_34 v_42 v_49 s_45
          refine m_if_eq (tgt := 206) C dX10_findLoads_193 rfl ?_ ?_
          · refine m_iconst C dX10_findLoads_206 ci_0 ?_
            refine m_loc (L2 := [(0, .ref (A 27)), (2, .int a2), (3, .int r_2), (4, .int r_4), (5, .int x5_9), (6, .int v_42), (8, .int x8_27)]) [1, 2, 3, 4, 5, 0, 7] rfl ?_
            exact hk_48 x7_26 0
          · refine m_aload_n C dX10_findLoads_196 rfl ?_
            refine m_get (v := .ref (A 37)) C fl_X10_46_9 rfl (by decide) rfl dX10_findLoads_197 ?_
            refine m_iload C dX10_findLoads_200 rfl ?_
            refine m_iald C rfl h_43 dX10_findLoads_202 ?_
            refine m_goto (tgt := 207) C dX10_findLoads_203 rfl ?_
            refine m_loc (L2 := [(0, .ref (A 27)), (2, .int a2), (3, .int r_2), (4, .int r_4), (5, .int x5_9), (6, .int v_42), (8, .int x8_27)]) [1, 2, 3, 4, 5, 0, 7] rfl ?_
            exact hk_48 x7_26 (gi s_45 37 (ix x8_27))
        refine m_if_eq (tgt := 170) C dX10_findLoads_163 rfl ?_ ?_
        · refine m_aload_n C dX10_findLoads_170 rfl ?_
          refine m_get (v := .ref (A 37)) C fl_X10_46_9 rfl (by decide) rfl dX10_findLoads_171 ?_
          refine m_iload C dX10_findLoads_174 rfl ?_
          refine m_iald C rfl h_36 dX10_findLoads_176 ?_
          refine m_loc (L2 := [(0, .ref (A 27)), (2, .int a2), (3, .int r_2), (4, .int r_4), (5, .int x5_9), (7, .int x7_26), (8, .int x8_27)]) [0, 1, 2, 3, 4, 6, 7] rfl ?_
          exact hk_41 x6_25 (gi s_38 37 (ix x8_27))
        · refine m_iconst C dX10_findLoads_166 ci_0 ?_
          refine m_goto (tgt := 177) C dX10_findLoads_167 rfl ?_
          refine m_loc (L2 := [(0, .ref (A 27)), (2, .int a2), (3, .int r_2), (4, .int r_4), (5, .int x5_9), (7, .int x7_26), (8, .int x8_27)]) [0, 1, 2, 3, 4, 6, 7] rfl ?_
          exact hk_41 x6_25 0
      · refine m_goto (tgt := 210) C dX10_findLoads_147 rfl ?_
        refine m_loc (L2 := [(0, .ref (A 27)), (2, .int a2), (3, .int r_2), (4, .int r_4), (5, .int x5_9), (6, .int x6_25), (7, .int x7_26), (8, .int x8_27)]) [0, 1, 2, 3, 4, 5, 6, 7] rfl ?_
        exact hk_34 x6_25 x7_26 s_30
theorem wX10_findLoads_107 {p : Program} {l : Launch} {e : Env} {s : State} {m : MethodId} {args : Array Value} {below : List Frame} {meth : Method} {c : Code} {D : va_G} {ct : Nat → ClassId} {A : Nat → Nat} (C : Cx p m c cX10_findLoads 9 s args yX10_findLoads.cls meth none D ct A) (a2 : Int32) (r_2 : Int32) (r_4 : Int32) : ∀ (n : Nat) (x5_9 : Int32) (s_10 : Sg), Wm p l e (rmD 6) s m args below meth c D ct A 9 embV 107 [(0, .ref (A 27)), (2, .int a2), (3, .int r_2), (4, .int r_4), (5, .int x5_9)] [] s_10 (lo2 (fX10_findLoads_107_b a2 r_2 r_4) n x5_9 s_10) := by
  intro n
  induction n with
  | zero => intro x5_9 s_10; exact m_none
  | succ n hrec107 =>
    intro x5_9 s_10
    refine (show Wm p l e (rmD 6) s m args below meth c D ct A 9 embV 107 [(0, .ref (A 27)), (2, .int a2), (3, .int r_2), (4, .int r_4), (5, .int x5_9)] [] s_10 (fX10_findLoads_107_b a2 r_2 r_4 (lo2 (fX10_findLoads_107_b a2 r_2 r_4) n) x5_9 s_10) from ?_)
    generalize lo2 (fX10_findLoads_107_b a2 r_2 r_4) n = rec107 at hrec107 ⊢
    unfold fX10_findLoads_107_b
    refine m_iload C dX10_findLoads_107 rfl ?_
    refine m_iconst C dX10_findLoads_109 ci_1 ?_
    refine m_aload_n C dX10_findLoads_110 rfl ?_
    refine m_get (v := .int (gi s_10 27 29)) C fl_X10_324_9 rfl (by decide) rfl dX10_findLoads_111 ?_
    refine m_ishl C dX10_findLoads_114 ?_
    refine m_icmp_ge (tgt := 255) C dX10_findLoads_115 rfl ?_ ?_
    · exact m_vret C dX10_findLoads_255
    · refine m_iload_n C dX10_findLoads_118 rfl ?_
      refine m_istore (L2 := [(6, .int r_2), (0, .ref (A 27)), (2, .int a2), (3, .int r_2), (4, .int r_4), (5, .int x5_9)]) C dX10_findLoads_119 (by decide) rfl ?_
      refine m_iload C dX10_findLoads_121 rfl ?_
      refine m_istore (L2 := [(7, .int r_4), (6, .int r_2), (0, .ref (A 27)), (2, .int a2), (3, .int r_2), (4, .int r_4), (5, .int x5_9)]) C dX10_findLoads_123 (by decide) rfl ?_
      refine m_iconst C dX10_findLoads_125 ci_0 ?_
      refine m_istore (L2 := [(8, .int 0), (7, .int r_4), (6, .int r_2), (0, .ref (A 27)), (2, .int a2), (3, .int r_2), (4, .int r_4), (5, .int x5_9)]) C dX10_findLoads_126 (by decide) rfl ?_
      refine m_jn (P := fun (k_14 : Int32 → Int32 → Sg → Option (Sg)) => ∀ (x6_11 : Int32) (x7_12 : Int32) (s_13 : Sg), Wm p l e (rmD 6) s m args below meth c D ct A 9 embV 216 [(0, .ref (A 27)), (2, .int a2), (3, .int r_2), (4, .int r_4), (5, .int x5_9), (6, .int x6_11), (7, .int x7_12)] [] s_13 (k_14 x6_11 x7_12 s_13)) ?_ (fun k_14 hk_14 => ?_)
      · intro x6_11 x7_12 s_13
        refine m_aload_n C dX10_findLoads_216 rfl ?_
        refine m_get (v := .ref (A 38)) C fl_X10_49_9 rfl (by decide) rfl dX10_findLoads_217 ?_
        refine m_iload C dX10_findLoads_220 rfl ?_
        refine m_aload_n C dX10_findLoads_222 rfl ?_
        refine m_iload C dX10_findLoads_223 rfl ?_
        refine m_iload C dX10_findLoads_225 rfl ?_
        refine m_callVZ C ml_X10_286 ⟨Nat.le_of_ble_eq_true rfl, Nat.le_of_ble_eq_true rfl⟩ rfl rfl [.int x6_11, .int x7_12] [.int x5_9, .ref (A 38)] rfl rfl (Nat.le_of_ble_eq_true rfl) dX10_findLoads_227 (fun o ho => kX10_isSafe l D ct A x6_11 x7_12 s_13 o ho) (fun r_15 s_16 => ?_)
        refine m_chk (fun h_17 => ?_)
        refine m_zast C rfl h_17 dX10_findLoads_230 (fun s_18 => ?_)
        refine m_aload_n C dX10_findLoads_231 rfl ?_
        refine m_get (v := .ref (A 39)) C fl_X10_52_9 rfl (by decide) rfl dX10_findLoads_232 ?_
        refine m_iload C dX10_findLoads_235 rfl ?_
        refine m_aload_n C dX10_findLoads_237 rfl ?_
        refine m_iload C dX10_findLoads_238 rfl ?_
        refine m_iload C dX10_findLoads_240 rfl ?_
        refine m_callVI C ml_X10_277 ⟨Nat.le_of_ble_eq_true rfl, Nat.le_of_ble_eq_true rfl⟩ rfl rfl [.int x6_11, .int x7_12] [.int x5_9, .ref (A 39)] rfl rfl (Nat.le_of_ble_eq_true rfl) dX10_findLoads_242 (fun o ho => kX10_moment l D ct A x6_11 x7_12 s_18 o ho) (fun r_19 s_20 => ?_)
        refine m_callSI C ml_X10_274 ⟨Nat.le_of_ble_eq_true rfl, Nat.le_of_ble_eq_true rfl⟩ [.int r_19] [.int x5_9, .ref (A 39)] rfl rfl (Nat.le_of_ble_eq_true rfl) dX10_findLoads_245 (fun o ho => kX10_without l D ct A r_19 s_20 o ho) (fun r_21 s_22 => ?_)
        refine m_iast C rfl h_17 dX10_findLoads_248 (fun s_23 => ?_)
        refine m_iincb (L2 := fun v_24 => [(5, .int v_24), (0, .ref (A 27)), (2, .int a2), (3, .int r_2), (4, .int r_4), (6, .int x6_11), (7, .int x7_12)]) (q := 4) C dX10_findLoads_249 rfl ci_1 (by decide) (fun _ => rfl) (fun v_24 => ?_)
        refine m_goto (tgt := 107) C dX10_findLoads_252 rfl ?_
        refine m_loc (L2 := [(0, .ref (A 27)), (2, .int a2), (3, .int r_2), (4, .int r_4), (5, .int v_24)]) [1, 2, 3, 4, 0] rfl ?_
        exact hrec107 v_24 s_23
      refine m_loc (L2 := [(0, .ref (A 27)), (2, .int a2), (3, .int r_2), (4, .int r_4), (5, .int x5_9), (6, .int r_2), (7, .int r_4), (8, .int 0)]) [3, 4, 5, 6, 7, 2, 1, 0] rfl ?_
      exact wX10_findLoads_128 C a2 r_2 r_4 x5_9 k_14 hk_14 FU r_2 r_4 0 s_10
theorem wX10_findLoads_25 {p : Program} {l : Launch} {e : Env} {s : State} {m : MethodId} {args : Array Value} {below : List Frame} {meth : Method} {c : Code} {D : va_G} {ct : Nat → ClassId} {A : Nat → Nat} (C : Cx p m c cX10_findLoads 9 s args yX10_findLoads.cls meth none D ct A) (a1 : Int32) (a2 : Int32) (r_2 : Int32) (r_4 : Int32) (k_8 : Sg → Option (Sg)) (hk_8 : ∀ (s_7 : Sg), Wm p l e (rmD 6) s m args below meth c D ct A 9 embV 104 [(0, .ref (A 27)), (2, .int a2), (3, .int r_2), (4, .int r_4)] [] s_7 (k_8 s_7)) : ∀ (n : Nat) (x5_50 : Int32) (s_51 : Sg), Wm p l e (rmD 6) s m args below meth c D ct A 9 embV 25 [(0, .ref (A 27)), (1, .int a1), (2, .int a2), (3, .int r_2), (4, .int r_4), (5, .int x5_50)] [] s_51 (lo2 (fX10_findLoads_25_b a1 a2 k_8) n x5_50 s_51) := by
  intro n
  induction n with
  | zero => intro x5_50 s_51; exact m_none
  | succ n hrec25 =>
    intro x5_50 s_51
    refine (show Wm p l e (rmD 6) s m args below meth c D ct A 9 embV 25 [(0, .ref (A 27)), (1, .int a1), (2, .int a2), (3, .int r_2), (4, .int r_4), (5, .int x5_50)] [] s_51 (fX10_findLoads_25_b a1 a2 k_8 (lo2 (fX10_findLoads_25_b a1 a2 k_8) n) x5_50 s_51) from ?_)
    generalize lo2 (fX10_findLoads_25_b a1 a2 k_8) n = rec25 at hrec25 ⊢
    unfold fX10_findLoads_25_b
    refine m_iload C dX10_findLoads_25 rfl ?_
    refine m_aload_n C dX10_findLoads_27 rfl ?_
    refine m_get (v := .ref (A 28)) C fl_X10_7_9 rfl (by decide) rfl dX10_findLoads_28 ?_
    refine m_iconst C dX10_findLoads_31 ci_0 ?_
    refine m_iald C rfl (by decide +kernel) dX10_findLoads_32 ?_
    refine m_icmp_ge (tgt := 104) C dX10_findLoads_33 rfl ?_ ?_
    · refine m_loc (L2 := [(0, .ref (A 27)), (2, .int a2), (3, .int r_2), (4, .int r_4)]) [0, 2, 3, 4] rfl ?_
      exact hk_8 s_51
    · refine m_iload_n C dX10_findLoads_36 rfl ?_
      refine m_iload C dX10_findLoads_37 rfl ?_
      refine m_callSZ C ml_X10_321 ⟨Nat.le_of_ble_eq_true rfl, Nat.le_of_ble_eq_true rfl⟩ [.int a1, .int x5_50] [] rfl rfl (Nat.le_of_ble_eq_true rfl) dX10_findLoads_39 (fun o ho => kX10_has l D ct A a1 x5_50 s_51 o ho) (fun r_52 s_53 => ?_)
      refine m_jn (P := fun (k_55 : Sg → Option (Sg)) => ∀ (s_54 : Sg), Wm p l e (rmD 6) s m args below meth c D ct A 9 embV 98 [(0, .ref (A 27)), (1, .int a1), (2, .int a2), (3, .int r_2), (4, .int r_4), (5, .int x5_50)] [] s_54 (k_55 s_54)) ?_ (fun k_55 hk_55 => ?_)
      · intro s_54
        refine m_iincb (L2 := fun v_56 => [(5, .int v_56), (0, .ref (A 27)), (1, .int a1), (2, .int a2), (3, .int r_2), (4, .int r_4)]) (q := 5) C dX10_findLoads_98 rfl ci_1 (by decide) (fun _ => rfl) (fun v_56 => ?_)
        refine m_goto (tgt := 25) C dX10_findLoads_101 rfl ?_
        refine m_loc (L2 := [(0, .ref (A 27)), (1, .int a1), (2, .int a2), (3, .int r_2), (4, .int r_4), (5, .int v_56)]) [1, 2, 3, 4, 5, 0] rfl ?_
        exact hrec25 v_56 s_54
      refine m_if_ne (tgt := 48) C dX10_findLoads_42 rfl ?_ ?_
      · refine m_aload_n C dX10_findLoads_48 rfl ?_
        refine m_get (v := .ref (A 36)) C fl_X10_43_9 rfl (by decide) rfl dX10_findLoads_49 ?_
        refine m_aload_n C dX10_findLoads_52 rfl ?_
        refine m_get (v := .int (gi s_53 27 29)) C fl_X10_324_9 rfl (by decide) rfl dX10_findLoads_53 ?_
        refine m_iload C dX10_findLoads_56 rfl ?_
        refine m_chk (fun h_57 => ?_)
        refine m_iast C rfl h_57 dX10_findLoads_58 (fun s_58 => ?_)
        refine m_aload_n C dX10_findLoads_59 rfl ?_
        refine m_get (v := .ref (A 37)) C fl_X10_46_9 rfl (by decide) rfl dX10_findLoads_60 ?_
        refine m_aload_n C dX10_findLoads_63 rfl ?_
        refine m_get (v := .int (gi s_58 27 29)) C fl_X10_324_9 rfl (by decide) rfl dX10_findLoads_64 ?_
        refine m_aload_n C dX10_findLoads_67 rfl ?_
        refine m_iload C dX10_findLoads_68 rfl ?_
        refine m_iload_n C dX10_findLoads_70 rfl ?_
        refine m_iload C dX10_findLoads_71 rfl ?_
        refine m_callSZ C ml_X10_321 ⟨Nat.le_of_ble_eq_true rfl, Nat.le_of_ble_eq_true rfl⟩ [.int a2, .int x5_50] [.int x5_50, .ref (A 27), .int (gi s_58 27 29), .ref (A 37)] rfl rfl (Nat.le_of_ble_eq_true rfl) dX10_findLoads_73 (fun o ho => kX10_has l D ct A a2 x5_50 s_58 o ho) (fun r_59 s_60 => ?_)
        refine m_jn (P := fun (k_64 : Int32 → Int32 → Bool → Option (Sg)) => ∀ (y_61 : Int32) (y_62 : Int32) (y_63 : Bool), Wm p l e (rmD 6) s m args below meth c D ct A 9 embV 84 [(0, .ref (A 27)), (1, .int a1), (2, .int a2), (3, .int r_2), (4, .int r_4), (5, .int x5_50)] [.int (b2i y_63), .int y_62, .ref (A 27), .int y_61, .ref (A 37)] s_60 (k_64 y_61 y_62 y_63)) ?_ (fun k_64 hk_64 => ?_)
        · intro y_61 y_62 y_63
          refine m_callVI C ml_X10_271 ⟨Nat.le_of_ble_eq_true rfl, Nat.le_of_ble_eq_true rfl⟩ rfl rfl [.int y_62, .int (b2i y_63)] [.int y_61, .ref (A 37)] rfl rfl (Nat.le_of_ble_eq_true rfl) dX10_findLoads_84 (fun o ho => kX10_bears l D ct A y_62 (b2i y_63) s_60 o ho) (fun r_65 s_66 => ?_)
          refine m_chk (fun h_67 => ?_)
          refine m_iast C rfl h_67 dX10_findLoads_87 (fun s_68 => ?_)
          refine m_aload_n C dX10_findLoads_88 rfl ?_
          refine m_dup C dX10_findLoads_89 rfl ?_
          refine m_get (v := .int (gi s_68 27 29)) C fl_X10_324_9 rfl (by decide) rfl dX10_findLoads_90 ?_
          refine m_iconst C dX10_findLoads_93 ci_1 ?_
          refine m_iadd C dX10_findLoads_94 ?_
          refine m_puti C fl_X10_324_9 fw_9_29 rfl (by decide) rfl dX10_findLoads_95 (fun s_69 => ?_)
          refine m_loc (L2 := [(0, .ref (A 27)), (1, .int a1), (2, .int a2), (3, .int r_2), (4, .int r_4), (5, .int x5_50)]) [0, 1, 2, 3, 4, 5] rfl ?_
          exact hk_55 s_69
        refine m_if_eq (tgt := 83) C dX10_findLoads_76 rfl ?_ ?_
        · refine m_iconst C dX10_findLoads_83 ci_0 ?_
          refine m_loc (L2 := [(0, .ref (A 27)), (1, .int a1), (2, .int a2), (3, .int r_2), (4, .int r_4), (5, .int x5_50)]) [0, 1, 2, 3, 4, 5] rfl ?_
          exact hk_64 (gi s_58 27 29) x5_50 false
        · refine m_iconst C dX10_findLoads_79 ci_1 ?_
          refine m_goto (tgt := 84) C dX10_findLoads_80 rfl ?_
          refine m_loc (L2 := [(0, .ref (A 27)), (1, .int a1), (2, .int a2), (3, .int r_2), (4, .int r_4), (5, .int x5_50)]) [0, 1, 2, 3, 4, 5] rfl ?_
          exact hk_64 (gi s_58 27 29) x5_50 true
      · refine m_goto (tgt := 98) C dX10_findLoads_45 rfl ?_
        refine m_loc (L2 := [(0, .ref (A 27)), (1, .int a1), (2, .int a2), (3, .int r_2), (4, .int r_4), (5, .int x5_50)]) [0, 1, 2, 3, 4, 5] rfl ?_
        exact hk_55 s_53
theorem kX10_findLoads (l : Launch) (D : va_G) (ct : Nat → ClassId) (A : Nat → Nat) (a1 : Int32) (a2 : Int32) (s0 : Sg) (o : Sg) (ho : fX10_findLoads a1 a2 s0 = some o) : Con l yX10_findLoads cX10_findLoads 9 none 6 D ct A [.ref (A 27), .int a1, .int a2] s0 (embV o) := by
  refine con_start (by decide +kernel) (Nat.le_of_ble_eq_true rfl) ho (fun p e s m args below meth c C => ?_)
  refine m_loc (L2 := [(0, .ref (A 27)), (1, .int a1), (2, .int a2)]) [0, 1, 2] rfl ?_
  unfold fX10_findLoads
  refine m_aload_n C dX10_findLoads_0 rfl ?_
  refine m_callVV C ml_X10_280 ⟨Nat.le_of_ble_eq_true rfl, Nat.le_of_ble_eq_true rfl⟩ rfl rfl [] [] rfl rfl (Nat.le_of_ble_eq_true rfl) dX10_findLoads_1 (fun o ho => kX10_nameNow l D ct A s0 o ho) (fun s_1 => ?_)
  refine m_aload_n C dX10_findLoads_4 rfl ?_
  refine m_iconst C dX10_findLoads_5 ci_0 ?_
  refine m_callVI C ml_X10_283 ⟨Nat.le_of_ble_eq_true rfl, Nat.le_of_ble_eq_true rfl⟩ rfl rfl [.int 0] [] rfl rfl (Nat.le_of_ble_eq_true rfl) dX10_findLoads_6 (fun o ho => kX10_load l D ct A 0 s_1 o ho) (fun r_2 s_3 => ?_)
  refine m_istore_n (L2 := [(3, .int r_2), (0, .ref (A 27)), (1, .int a1), (2, .int a2)]) C dX10_findLoads_9 rfl (by decide) rfl ?_
  refine m_aload_n C dX10_findLoads_10 rfl ?_
  refine m_iconst C dX10_findLoads_11 ci_1 ?_
  refine m_callVI C ml_X10_283 ⟨Nat.le_of_ble_eq_true rfl, Nat.le_of_ble_eq_true rfl⟩ rfl rfl [.int 1] [] rfl rfl (Nat.le_of_ble_eq_true rfl) dX10_findLoads_12 (fun o ho => kX10_load l D ct A 1 s_3 o ho) (fun r_4 s_5 => ?_)
  refine m_istore (L2 := [(4, .int r_4), (3, .int r_2), (0, .ref (A 27)), (1, .int a1), (2, .int a2)]) C dX10_findLoads_15 (by decide) rfl ?_
  refine m_aload_n C dX10_findLoads_17 rfl ?_
  refine m_iconst C dX10_findLoads_18 ci_0 ?_
  refine m_puti C fl_X10_324_9 fw_9_29 rfl (by decide) rfl dX10_findLoads_19 (fun s_6 => ?_)
  refine m_iconst C dX10_findLoads_22 ci_0 ?_
  refine m_istore (L2 := [(5, .int 0), (4, .int r_4), (3, .int r_2), (0, .ref (A 27)), (1, .int a1), (2, .int a2)]) C dX10_findLoads_23 (by decide) rfl ?_
  refine m_jn (P := fun (k_8 : Sg → Option (Sg)) => ∀ (s_7 : Sg), Wm p l e (rmD 6) s m args below meth c D ct A 9 embV 104 [(0, .ref (A 27)), (2, .int a2), (3, .int r_2), (4, .int r_4)] [] s_7 (k_8 s_7)) ?_ (fun k_8 hk_8 => ?_)
  · intro s_7
    refine m_iconst C dX10_findLoads_104 ci_0 ?_
    refine m_istore (L2 := [(5, .int 0), (0, .ref (A 27)), (2, .int a2), (3, .int r_2), (4, .int r_4)]) C dX10_findLoads_105 (by decide) rfl ?_
    refine m_loc (L2 := [(0, .ref (A 27)), (2, .int a2), (3, .int r_2), (4, .int r_4), (5, .int 0)]) [1, 2, 3, 4, 0] rfl ?_
    exact wX10_findLoads_107 C a2 r_2 r_4 FU 0 s_7
  refine m_loc (L2 := [(0, .ref (A 27)), (1, .int a1), (2, .int a2), (3, .int r_2), (4, .int r_4), (5, .int 0)]) [3, 4, 5, 2, 1, 0] rfl ?_
  exact wX10_findLoads_25 C a1 a2 r_2 r_4 k_8 hk_8 FU 0 s_6
def fX10_loadings_49_b (x3_7 : Int32) (k_15 : Sg → Option (Int64 × Sg)) (rec49 : Int32 → Sg → Option (Int64 × Sg)) (x4_17 : Int32) (s_18 : Sg) : Option (Int64 × Sg) :=
  if (gi s_18 27 29) ≤ x4_17 then
    k_15 s_18
  else
    bnd (fX10_has x3_7 x4_17 s_18) fun r_19 s_20 =>
    bv (fun (s_21 : Sg) => 
      bv (x4_17 + 1) fun v_23 =>
      rec49 v_23 s_21)
    fun k_22 =>
    if (b2i r_19) = 0 then
      k_22 s_20
    else
      chk (inb 1024 x3_7) <|
      if (gi s_20 38 (ix x3_7)) = 0 then
        k_22 s_20
      else
        chk (inb 1024 (x3_7 &&& ((1 <<< (x4_17 &&& 31)) ^^^ (-1)))) <|
        bv (sl s_20 40 (ix x3_7) ((gl s_20 40 (ix x3_7)) + (gl s_20 40 (ix (x3_7 &&& ((1 <<< (x4_17 &&& 31)) ^^^ (-1))))))) fun s_26 =>
        k_22 s_26
def fX10_loadings_21_b (k_5 : Sg → Option (Int64 × Sg)) (rec21 : Int32 → Sg → Option (Int64 × Sg)) (x3_7 : Int32) (s_8 : Sg) : Option (Int64 × Sg) :=
  if (1 <<< ((gi s_8 27 29) &&& 31)) ≤ x3_7 then
    k_5 s_8
  else
    bv (fun (y_9 : Int32) (y_10 : Int64) => 
      chk (inb 1024 y_9) <|
      bv (sl s_8 40 (ix y_9) y_10) fun s_13 =>
      bv (fun (s_14 : Sg) => 
        bv (x3_7 + 1) fun v_16 =>
        rec21 v_16 s_14)
      fun k_15 =>
      lo2 (fX10_loadings_49_b x3_7 k_15) FU 0 s_13)
    fun k_11 =>
    if x3_7 = 0 then
      k_11 x3_7 1
    else
      k_11 x3_7 0
def fX10_loadings (a1 : Int32) (a2 : Int32) (s0 : Sg) : Option (Int64 × Sg) :=
  bnd (fX10_areAsked a1 a2 s0) fun r_1 s_2 =>
  if (b2i r_1) = 0 then
    some ((-1), s_2)
  else
    bnv (fX10_findLoads a1 a2 s_2) fun s_3 =>
    bv (fun (s_4 : Sg) => 
      chk (inb 1024 ((1 <<< ((gi s_4 27 29) &&& 31)) - 1)) <|
      some (gl s_4 40 (ix ((1 <<< ((gi s_4 27 29) &&& 31)) - 1)), s_4))
    fun k_5 =>
    lo2 (fX10_loadings_21_b k_5) FU 0 s_3
theorem wX10_loadings_49 {p : Program} {l : Launch} {e : Env} {s : State} {m : MethodId} {args : Array Value} {below : List Frame} {meth : Method} {c : Code} {D : va_G} {ct : Nat → ClassId} {A : Nat → Nat} (C : Cx p m c cX10_loadings 5 s args yX10_loadings.cls meth (some .long) D ct A) (x3_7 : Int32) (k_15 : Sg → Option (Int64 × Sg)) (hk_15 : ∀ (s_14 : Sg), Wm p l e (rmD 7) s m args below meth c D ct A 5 embL 104 [(0, .ref (A 27)), (3, .int x3_7)] [] s_14 (k_15 s_14)) : ∀ (n : Nat) (x4_17 : Int32) (s_18 : Sg), Wm p l e (rmD 7) s m args below meth c D ct A 5 embL 49 [(0, .ref (A 27)), (3, .int x3_7), (4, .int x4_17)] [] s_18 (lo2 (fX10_loadings_49_b x3_7 k_15) n x4_17 s_18) := by
  intro n
  induction n with
  | zero => intro x4_17 s_18; exact m_none
  | succ n hrec49 =>
    intro x4_17 s_18
    refine (show Wm p l e (rmD 7) s m args below meth c D ct A 5 embL 49 [(0, .ref (A 27)), (3, .int x3_7), (4, .int x4_17)] [] s_18 (fX10_loadings_49_b x3_7 k_15 (lo2 (fX10_loadings_49_b x3_7 k_15) n) x4_17 s_18) from ?_)
    generalize lo2 (fX10_loadings_49_b x3_7 k_15) n = rec49 at hrec49 ⊢
    unfold fX10_loadings_49_b
    refine m_iload C dX10_loadings_49 rfl ?_
    refine m_aload_n C dX10_loadings_51 rfl ?_
    refine m_get (v := .int (gi s_18 27 29)) C fl_X10_324_9 rfl (by decide) rfl dX10_loadings_52 ?_
    refine m_icmp_ge (tgt := 104) C dX10_loadings_55 rfl ?_ ?_
    · refine m_loc (L2 := [(0, .ref (A 27)), (3, .int x3_7)]) [0, 1] rfl ?_
      exact hk_15 s_18
    · refine m_iload_n C dX10_loadings_58 rfl ?_
      refine m_iload C dX10_loadings_59 rfl ?_
      refine m_callSZ C ml_X10_321 ⟨Nat.le_of_ble_eq_true rfl, Nat.le_of_ble_eq_true rfl⟩ [.int x3_7, .int x4_17] [] rfl rfl (Nat.le_of_ble_eq_true rfl) dX10_loadings_61 (fun o ho => kX10_has l D ct A x3_7 x4_17 s_18 o ho) (fun r_19 s_20 => ?_)
      refine m_jn (P := fun (k_22 : Sg → Option (Int64 × Sg)) => ∀ (s_21 : Sg), Wm p l e (rmD 7) s m args below meth c D ct A 5 embL 98 [(0, .ref (A 27)), (3, .int x3_7), (4, .int x4_17)] [] s_21 (k_22 s_21)) ?_ (fun k_22 hk_22 => ?_)
      · intro s_21
        refine m_iincb (L2 := fun v_23 => [(4, .int v_23), (0, .ref (A 27)), (3, .int x3_7)]) (q := 2) C dX10_loadings_98 rfl ci_1 (by decide) (fun _ => rfl) (fun v_23 => ?_)
        refine m_goto (tgt := 49) C dX10_loadings_101 rfl ?_
        refine m_loc (L2 := [(0, .ref (A 27)), (3, .int x3_7), (4, .int v_23)]) [1, 2, 0] rfl ?_
        exact hrec49 v_23 s_21
      refine m_if_eq (tgt := 98) C dX10_loadings_64 rfl ?_ ?_
      · refine m_loc (L2 := [(0, .ref (A 27)), (3, .int x3_7), (4, .int x4_17)]) [0, 1, 2] rfl ?_
        exact hk_22 s_20
      · refine m_aload_n C dX10_loadings_67 rfl ?_
        refine m_get (v := .ref (A 38)) C fl_X10_49_9 rfl (by decide) rfl dX10_loadings_68 ?_
        refine m_iload_n C dX10_loadings_71 rfl ?_
        refine m_chk (fun h_24 => ?_)
        refine m_zald C rfl h_24 dX10_loadings_72 ?_
        refine m_if_eq (tgt := 98) C dX10_loadings_73 rfl ?_ ?_
        · refine m_loc (L2 := [(0, .ref (A 27)), (3, .int x3_7), (4, .int x4_17)]) [0, 1, 2] rfl ?_
          exact hk_22 s_20
        · refine m_aload_n C dX10_loadings_76 rfl ?_
          refine m_get (v := .ref (A 40)) C fl_X10_55_9 rfl (by decide) rfl dX10_loadings_77 ?_
          refine m_iload_n C dX10_loadings_80 rfl ?_
          refine m_dup2 C dX10_loadings_81 rfl rfl ?_
          refine m_lald C rfl h_24 dX10_loadings_82 ?_
          refine m_aload_n C dX10_loadings_83 rfl ?_
          refine m_get (v := .ref (A 40)) C fl_X10_55_9 rfl (by decide) rfl dX10_loadings_84 ?_
          refine m_iload_n C dX10_loadings_87 rfl ?_
          refine m_iconst C dX10_loadings_88 ci_1 ?_
          refine m_iload C dX10_loadings_89 rfl ?_
          refine m_ishl C dX10_loadings_91 ?_
          refine m_iconst C dX10_loadings_92 ci_m1 ?_
          refine m_ixor C dX10_loadings_93 ?_
          refine m_iand C dX10_loadings_94 ?_
          refine m_chk (fun h_25 => ?_)
          refine m_lald C rfl h_25 dX10_loadings_95 ?_
          refine m_ladd C dX10_loadings_96 ?_
          refine m_last C rfl h_24 dX10_loadings_97 (fun s_26 => ?_)
          refine m_loc (L2 := [(0, .ref (A 27)), (3, .int x3_7), (4, .int x4_17)]) [0, 1, 2] rfl ?_
          exact hk_22 s_26
theorem wX10_loadings_21 {p : Program} {l : Launch} {e : Env} {s : State} {m : MethodId} {args : Array Value} {below : List Frame} {meth : Method} {c : Code} {D : va_G} {ct : Nat → ClassId} {A : Nat → Nat} (C : Cx p m c cX10_loadings 5 s args yX10_loadings.cls meth (some .long) D ct A) (k_5 : Sg → Option (Int64 × Sg)) (hk_5 : ∀ (s_4 : Sg), Wm p l e (rmD 7) s m args below meth c D ct A 5 embL 110 [(0, .ref (A 27))] [] s_4 (k_5 s_4)) : ∀ (n : Nat) (x3_7 : Int32) (s_8 : Sg), Wm p l e (rmD 7) s m args below meth c D ct A 5 embL 21 [(0, .ref (A 27)), (3, .int x3_7)] [] s_8 (lo2 (fX10_loadings_21_b k_5) n x3_7 s_8) := by
  intro n
  induction n with
  | zero => intro x3_7 s_8; exact m_none
  | succ n hrec21 =>
    intro x3_7 s_8
    refine (show Wm p l e (rmD 7) s m args below meth c D ct A 5 embL 21 [(0, .ref (A 27)), (3, .int x3_7)] [] s_8 (fX10_loadings_21_b k_5 (lo2 (fX10_loadings_21_b k_5) n) x3_7 s_8) from ?_)
    generalize lo2 (fX10_loadings_21_b k_5) n = rec21 at hrec21 ⊢
    unfold fX10_loadings_21_b
    refine m_iload_n C dX10_loadings_21 rfl ?_
    refine m_iconst C dX10_loadings_22 ci_1 ?_
    refine m_aload_n C dX10_loadings_23 rfl ?_
    refine m_get (v := .int (gi s_8 27 29)) C fl_X10_324_9 rfl (by decide) rfl dX10_loadings_24 ?_
    refine m_ishl C dX10_loadings_27 ?_
    refine m_icmp_ge (tgt := 110) C dX10_loadings_28 rfl ?_ ?_
    · refine m_loc (L2 := [(0, .ref (A 27))]) [0] rfl ?_
      exact hk_5 s_8
    · refine m_aload_n C dX10_loadings_31 rfl ?_
      refine m_get (v := .ref (A 40)) C fl_X10_55_9 rfl (by decide) rfl dX10_loadings_32 ?_
      refine m_iload_n C dX10_loadings_35 rfl ?_
      refine m_iload_n C dX10_loadings_36 rfl ?_
      refine m_jn (P := fun (k_11 : Int32 → Int64 → Option (Int64 × Sg)) => ∀ (y_9 : Int32) (y_10 : Int64), Wm p l e (rmD 7) s m args below meth c D ct A 5 embL 45 [(0, .ref (A 27)), (3, .int x3_7)] [.long y_10, .int y_9, .ref (A 40)] s_8 (k_11 y_9 y_10)) ?_ (fun k_11 hk_11 => ?_)
      · intro y_9 y_10
        refine m_chk (fun h_12 => ?_)
        refine m_last C rfl h_12 dX10_loadings_45 (fun s_13 => ?_)
        refine m_iconst C dX10_loadings_46 ci_0 ?_
        refine m_istore (L2 := [(4, .int 0), (0, .ref (A 27)), (3, .int x3_7)]) C dX10_loadings_47 (by decide) rfl ?_
        refine m_jn (P := fun (k_15 : Sg → Option (Int64 × Sg)) => ∀ (s_14 : Sg), Wm p l e (rmD 7) s m args below meth c D ct A 5 embL 104 [(0, .ref (A 27)), (3, .int x3_7)] [] s_14 (k_15 s_14)) ?_ (fun k_15 hk_15 => ?_)
        · intro s_14
          refine m_iincb (L2 := fun v_16 => [(3, .int v_16), (0, .ref (A 27))]) (q := 1) C dX10_loadings_104 rfl ci_1 (by decide) (fun _ => rfl) (fun v_16 => ?_)
          refine m_goto (tgt := 21) C dX10_loadings_107 rfl ?_
          refine m_loc (L2 := [(0, .ref (A 27)), (3, .int v_16)]) [1, 0] rfl ?_
          exact hrec21 v_16 s_14
        refine m_loc (L2 := [(0, .ref (A 27)), (3, .int x3_7), (4, .int 0)]) [1, 2, 0] rfl ?_
        exact wX10_loadings_49 C x3_7 k_15 hk_15 FU 0 s_13
      refine m_if_ne (tgt := 44) C dX10_loadings_37 rfl ?_ ?_
      · refine m_lconst C dX10_loadings_44 cl_0 ?_
        refine m_loc (L2 := [(0, .ref (A 27)), (3, .int x3_7)]) [0, 1] rfl ?_
        exact hk_11 x3_7 0
      · refine m_lconst C dX10_loadings_40 cl_1 ?_
        refine m_goto (tgt := 45) C dX10_loadings_41 rfl ?_
        refine m_loc (L2 := [(0, .ref (A 27)), (3, .int x3_7)]) [0, 1] rfl ?_
        exact hk_11 x3_7 1
theorem kX10_loadings (l : Launch) (D : va_G) (ct : Nat → ClassId) (A : Nat → Nat) (a1 : Int32) (a2 : Int32) (s0 : Sg) (o : Int64 × Sg) (ho : fX10_loadings a1 a2 s0 = some o) : Con l yX10_loadings cX10_loadings 5 (some .long) 7 D ct A [.ref (A 27), .int a1, .int a2] s0 (embL o) := by
  refine con_start (by decide +kernel) (Nat.le_of_ble_eq_true rfl) ho (fun p e s m args below meth c C => ?_)
  refine m_loc (L2 := [(0, .ref (A 27)), (1, .int a1), (2, .int a2)]) [0, 1, 2] rfl ?_
  unfold fX10_loadings
  refine m_aload_n C dX10_loadings_0 rfl ?_
  refine m_iload_n C dX10_loadings_1 rfl ?_
  refine m_iload_n C dX10_loadings_2 rfl ?_
  refine m_callVZ C ml_X10_327 ⟨Nat.le_of_ble_eq_true rfl, Nat.le_of_ble_eq_true rfl⟩ rfl rfl [.int a1, .int a2] [] rfl rfl (Nat.le_of_ble_eq_true rfl) dX10_loadings_3 (fun o ho => kX10_areAsked l D ct A a1 a2 s0 o ho) (fun r_1 s_2 => ?_)
  refine m_if_ne (tgt := 13) C dX10_loadings_6 rfl ?_ ?_
  · refine m_aload_n C dX10_loadings_13 rfl ?_
    refine m_iload_n C dX10_loadings_14 rfl ?_
    refine m_iload_n C dX10_loadings_15 rfl ?_
    refine m_callVV C ml_X10_332 ⟨Nat.le_of_ble_eq_true rfl, Nat.le_of_ble_eq_true rfl⟩ rfl rfl [.int a1, .int a2] [] rfl rfl (Nat.le_of_ble_eq_true rfl) dX10_loadings_16 (fun o ho => kX10_findLoads l D ct A a1 a2 s_2 o ho) (fun s_3 => ?_)
    refine m_iconst C dX10_loadings_19 ci_0 ?_
    refine m_istore_n (L2 := [(3, .int 0), (0, .ref (A 27)), (1, .int a1), (2, .int a2)]) C dX10_loadings_20 rfl (by decide) rfl ?_
    refine m_jn (P := fun (k_5 : Sg → Option (Int64 × Sg)) => ∀ (s_4 : Sg), Wm p l e (rmD 7) s m args below meth c D ct A 5 embL 110 [(0, .ref (A 27))] [] s_4 (k_5 s_4)) ?_ (fun k_5 hk_5 => ?_)
    · intro s_4
      refine m_aload_n C dX10_loadings_110 rfl ?_
      refine m_get (v := .ref (A 40)) C fl_X10_55_9 rfl (by decide) rfl dX10_loadings_111 ?_
      refine m_iconst C dX10_loadings_114 ci_1 ?_
      refine m_aload_n C dX10_loadings_115 rfl ?_
      refine m_get (v := .int (gi s_4 27 29)) C fl_X10_324_9 rfl (by decide) rfl dX10_loadings_116 ?_
      refine m_ishl C dX10_loadings_119 ?_
      refine m_iconst C dX10_loadings_120 ci_1 ?_
      refine m_isub C dX10_loadings_121 ?_
      refine m_chk (fun h_6 => ?_)
      refine m_lald C rfl h_6 dX10_loadings_122 ?_
      exact m_lret C dX10_loadings_123
    refine m_loc (L2 := [(0, .ref (A 27)), (3, .int 0)]) [1, 0] rfl ?_
    exact wX10_loadings_21 C k_5 hk_5 FU 0 s_3
  · refine m_ldc2 C wd_1285 dX10_loadings_9 ?_
    exact m_lret C dX10_loadings_12
