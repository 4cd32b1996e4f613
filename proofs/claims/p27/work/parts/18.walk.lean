def fX9_lift (a1 : Int32) (s0 : Sg) : Option (Bool × Sg) :=
  bnd (fX6_panOf a1 s0) fun r_1 s_2 =>
  if r_1 = (-1) then
    some (false, s_2)
  else
    bv ((1 <<< (a1 &&& 31)) ^^^ (-1)) fun v_3 =>
    bnd (fX9_rearrange ((gi s_2 1 9) &&& v_3) ((gi s_2 1 10) &&& v_3) s_2) fun r_4 s_5 =>
    some (r_4, s_5)
theorem kX9_lift (l : Launch) (D : va_G) (ct : Nat → ClassId) (A : Nat → Nat) (a1 : Int32) (s0 : Sg) (o : Bool × Sg) (ho : fX9_lift a1 s0 = some o) : Con l yX9_lift cX9_lift 3 (some .boolean) 5 D ct A [.ref (A 0), .int a1] s0 (embZ o) := by
  refine con_start (by decide +kernel) (Nat.le_of_ble_eq_true rfl) ho (fun p e s m args below meth c C => ?_)
  refine m_loc (L2 := [(0, .ref (A 0)), (1, .int a1)]) [0, 1] rfl ?_
  unfold fX9_lift
  refine m_aload_n C dX9_lift_0 rfl ?_
  refine m_get (v := .ref (A 1)) C fl_X9_10_8 rfl (by decide) rfl dX9_lift_1 ?_
  refine m_iload_n C dX9_lift_4 rfl ?_
  refine m_callVI C ml_X9_137 ⟨Nat.le_of_ble_eq_true rfl, Nat.le_of_ble_eq_true rfl⟩ rfl rfl [.int a1] [] rfl rfl (Nat.le_of_ble_eq_true rfl) dX9_lift_5 (fun o ho => kX6_panOf l D ct A a1 s0 o ho) (fun r_1 s_2 => ?_)
  refine m_iconst C dX9_lift_8 ci_m1 ?_
  refine m_icmp_ne (tgt := 14) C dX9_lift_9 rfl ?_ ?_
  · refine m_iconst C dX9_lift_14 ci_1 ?_
    refine m_iload_n C dX9_lift_15 rfl ?_
    refine m_ishl C dX9_lift_16 ?_
    refine m_iconst C dX9_lift_17 ci_m1 ?_
    refine m_ixor C dX9_lift_18 ?_
    refine m_let (fun v_3 => ?_)
    refine m_istore_n (L2 := [(2, .int v_3), (0, .ref (A 0)), (1, .int a1)]) C dX9_lift_19 rfl (by decide) rfl ?_
    refine m_aload_n C dX9_lift_20 rfl ?_
    refine m_aload_n C dX9_lift_21 rfl ?_
    refine m_get (v := .ref (A 1)) C fl_X9_10_8 rfl (by decide) rfl dX9_lift_22 ?_
    refine m_get (v := .int (gi s_2 1 9)) C fl_X9_258_6 rfl (by decide) rfl dX9_lift_25 ?_
    refine m_iload_n C dX9_lift_28 rfl ?_
    refine m_iand C dX9_lift_29 ?_
    refine m_aload_n C dX9_lift_30 rfl ?_
    refine m_get (v := .ref (A 1)) C fl_X9_10_8 rfl (by decide) rfl dX9_lift_31 ?_
    refine m_get (v := .int (gi s_2 1 10)) C fl_X9_259_6 rfl (by decide) rfl dX9_lift_34 ?_
    refine m_iload_n C dX9_lift_37 rfl ?_
    refine m_iand C dX9_lift_38 ?_
    refine m_callVZ C ml_X9_273 ⟨Nat.le_of_ble_eq_true rfl, Nat.le_of_ble_eq_true rfl⟩ rfl rfl [.int ((gi s_2 1 9) &&& v_3), .int ((gi s_2 1 10) &&& v_3)] [] rfl rfl (Nat.le_of_ble_eq_true rfl) dX9_lift_39 (fun o ho => kX9_rearrange l D ct A ((gi s_2 1 9) &&& v_3) ((gi s_2 1 10) &&& v_3) s_2 o ho) (fun r_4 s_5 => ?_)
    exact m_zret C r_4 rfl dX9_lift_42
  · refine m_iconst C dX9_lift_12 ci_0 ?_
    exact m_zret C false rfl dX9_lift_13
def fX2_takeNumber (a1 : Int32) (s0 : Sg) : Option (Int32 × Sg) :=
  bv (fun (s_1 : Sg) => 
    bv (gi s_1 3 5) fun v_3 =>
    if (gi s_1 4 4) = 0 then
      bnv (fX7_advance s_1) fun s_5 =>
      some (v_3, s_5)
    else
      some (v_3, s_1))
  fun k_2 =>
  if (gi s0 3 2) = 17 then
    if (gi s0 3 5) ≤ a1 then
      k_2 s0
    else
      bnv (fX2_fail 2 s0) fun s_7 =>
      k_2 s_7
  else
    bnv (fX2_fail 1 s0) fun s_8 =>
    k_2 s_8
theorem kX2_takeNumber (l : Launch) (D : va_G) (ct : Nat → ClassId) (A : Nat → Nat) (a1 : Int32) (s0 : Sg) (o : Int32 × Sg) (ho : fX2_takeNumber a1 s0 = some o) : Con l yX2_takeNumber cX2_takeNumber 3 (some .int) 7 D ct A [.ref (A 4), .int a1] s0 (embI o) := by
  refine con_start (by decide +kernel) (Nat.le_of_ble_eq_true rfl) ho (fun p e s m args below meth c C => ?_)
  refine m_loc (L2 := [(0, .ref (A 4)), (1, .int a1)]) [0, 1] rfl ?_
  unfold fX2_takeNumber
  refine m_aload_n C dX2_takeNumber_0 rfl ?_
  refine m_get (v := .ref (A 3)) C fl_X2_22_2 rfl (by decide) rfl dX2_takeNumber_1 ?_
  refine m_get (v := .int (gi s0 3 2)) C fl_X2_40_7 rfl (by decide) rfl dX2_takeNumber_4 ?_
  refine m_bipush C dX2_takeNumber_7 cb_17 ?_
  refine m_jn (P := fun (k_2 : Sg → Option (Int32 × Sg)) => ∀ (s_1 : Sg), Wm p l e (rmD 7) s m args below meth c D ct A 3 embI 36 [(0, .ref (A 4))] [] s_1 (k_2 s_1)) ?_ (fun k_2 hk_2 => ?_)
  · intro s_1
    refine m_aload_n C dX2_takeNumber_36 rfl ?_
    refine m_get (v := .ref (A 3)) C fl_X2_22_2 rfl (by decide) rfl dX2_takeNumber_37 ?_
    refine m_get (v := .int (gi s_1 3 5)) C fl_X2_82_7 rfl (by decide) rfl dX2_takeNumber_40 ?_
    refine m_let (fun v_3 => ?_)
    refine m_istore_n (L2 := [(2, .int v_3), (0, .ref (A 4))]) C dX2_takeNumber_43 rfl (by decide) rfl ?_
    refine m_aload_n C dX2_takeNumber_44 rfl ?_
    refine m_get (v := .int (gi s_1 4 4)) C fl_X2_15_2 rfl (by decide) rfl dX2_takeNumber_45 ?_
    refine m_if_ne (tgt := 58) C dX2_takeNumber_48 rfl ?_ ?_
    · refine m_iload_n C dX2_takeNumber_58 rfl ?_
      exact m_iret C dX2_takeNumber_59
    · refine m_aload_n C dX2_takeNumber_51 rfl ?_
      refine m_get (v := .ref (A 3)) C fl_X2_22_2 rfl (by decide) rfl dX2_takeNumber_52 ?_
      refine m_callVV C ml_X2_69 ⟨Nat.le_of_ble_eq_true rfl, Nat.le_of_ble_eq_true rfl⟩ rfl rfl [] [] rfl rfl (Nat.le_of_ble_eq_true rfl) dX2_takeNumber_55 (fun o ho => kX7_advance l D ct A s_1 o ho) (fun s_5 => ?_)
      refine m_iload_n C dX2_takeNumber_58 rfl ?_
      exact m_iret C dX2_takeNumber_59
  refine m_icmp_eq (tgt := 20) C dX2_takeNumber_9 rfl ?_ ?_
  · refine m_aload_n C dX2_takeNumber_20 rfl ?_
    refine m_get (v := .ref (A 3)) C fl_X2_22_2 rfl (by decide) rfl dX2_takeNumber_21 ?_
    refine m_get (v := .int (gi s0 3 5)) C fl_X2_82_7 rfl (by decide) rfl dX2_takeNumber_24 ?_
    refine m_iload_n C dX2_takeNumber_27 rfl ?_
    refine m_icmp_le (tgt := 36) C dX2_takeNumber_28 rfl ?_ ?_
    · refine m_loc (L2 := [(0, .ref (A 4))]) [0] rfl ?_
      exact hk_2 s0
    · refine m_aload_n C dX2_takeNumber_31 rfl ?_
      refine m_iconst C dX2_takeNumber_32 ci_2 ?_
      refine m_callVV C ml_X2_47 ⟨Nat.le_of_ble_eq_true rfl, Nat.le_of_ble_eq_true rfl⟩ rfl rfl [.int 2] [] rfl rfl (Nat.le_of_ble_eq_true rfl) dX2_takeNumber_33 (fun o ho => kX2_fail l D ct A 2 s0 o ho) (fun s_7 => ?_)
      refine m_loc (L2 := [(0, .ref (A 4))]) [0] rfl ?_
      exact hk_2 s_7
  · refine m_aload_n C dX2_takeNumber_12 rfl ?_
    refine m_iconst C dX2_takeNumber_13 ci_1 ?_
    refine m_callVV C ml_X2_47 ⟨Nat.le_of_ble_eq_true rfl, Nat.le_of_ble_eq_true rfl⟩ rfl rfl [.int 1] [] rfl rfl (Nat.le_of_ble_eq_true rfl) dX2_takeNumber_14 (fun o ho => kX2_fail l D ct A 1 s0 o ho) (fun s_8 => ?_)
    refine m_goto (tgt := 36) C dX2_takeNumber_17 rfl ?_
    refine m_loc (L2 := [(0, .ref (A 4))]) [0] rfl ?_
    exact hk_2 s_8
def fX2_takeToken (a1 : Int32) (s0 : Sg) : Option (Sg) :=
  bv (fun (s_1 : Sg) => 
    if (gi s_1 4 4) = 0 then
      bnv (fX7_advance s_1) fun s_4 =>
      some s_4
    else
      some s_1)
  fun k_2 =>
  if (gi s0 3 2) = a1 then
    k_2 s0
  else
    bnv (fX2_fail 1 s0) fun s_6 =>
    k_2 s_6
theorem kX2_takeToken (l : Launch) (D : va_G) (ct : Nat → ClassId) (A : Nat → Nat) (a1 : Int32) (s0 : Sg) (o : Sg) (ho : fX2_takeToken a1 s0 = some o) : Con l yX2_takeToken cX2_takeToken 2 none 7 D ct A [.ref (A 4), .int a1] s0 (embV o) := by
  refine con_start (by decide +kernel) (Nat.le_of_ble_eq_true rfl) ho (fun p e s m args below meth c C => ?_)
  refine m_loc (L2 := [(0, .ref (A 4)), (1, .int a1)]) [0, 1] rfl ?_
  unfold fX2_takeToken
  refine m_aload_n C dX2_takeToken_0 rfl ?_
  refine m_get (v := .ref (A 3)) C fl_X2_22_2 rfl (by decide) rfl dX2_takeToken_1 ?_
  refine m_get (v := .int (gi s0 3 2)) C fl_X2_40_7 rfl (by decide) rfl dX2_takeToken_4 ?_
  refine m_iload_n C dX2_takeToken_7 rfl ?_
  refine m_jn (P := fun (k_2 : Sg → Option (Sg)) => ∀ (s_1 : Sg), Wm p l e (rmD 7) s m args below meth c D ct A 2 embV 16 [(0, .ref (A 4))] [] s_1 (k_2 s_1)) ?_ (fun k_2 hk_2 => ?_)
  · intro s_1
    refine m_aload_n C dX2_takeToken_16 rfl ?_
    refine m_get (v := .int (gi s_1 4 4)) C fl_X2_15_2 rfl (by decide) rfl dX2_takeToken_17 ?_
    refine m_if_ne (tgt := 30) C dX2_takeToken_20 rfl ?_ ?_
    · exact m_vret C dX2_takeToken_30
    · refine m_aload_n C dX2_takeToken_23 rfl ?_
      refine m_get (v := .ref (A 3)) C fl_X2_22_2 rfl (by decide) rfl dX2_takeToken_24 ?_
      refine m_callVV C ml_X2_69 ⟨Nat.le_of_ble_eq_true rfl, Nat.le_of_ble_eq_true rfl⟩ rfl rfl [] [] rfl rfl (Nat.le_of_ble_eq_true rfl) dX2_takeToken_27 (fun o ho => kX7_advance l D ct A s_1 o ho) (fun s_4 => ?_)
      exact m_vret C dX2_takeToken_30
  refine m_icmp_eq (tgt := 16) C dX2_takeToken_8 rfl ?_ ?_
  · refine m_loc (L2 := [(0, .ref (A 4))]) [0] rfl ?_
    exact hk_2 s0
  · refine m_aload_n C dX2_takeToken_11 rfl ?_
    refine m_iconst C dX2_takeToken_12 ci_1 ?_
    refine m_callVV C ml_X2_47 ⟨Nat.le_of_ble_eq_true rfl, Nat.le_of_ble_eq_true rfl⟩ rfl rfl [.int 1] [] rfl rfl (Nat.le_of_ble_eq_true rfl) dX2_takeToken_13 (fun o ho => kX2_fail l D ct A 1 s0 o ho) (fun s_6 => ?_)
    refine m_loc (L2 := [(0, .ref (A 4))]) [0] rfl ?_
    exact hk_2 s_6
def fX2_readLaw_63_b (k_16 : Sg → Option (Sg)) (rec63 : Int32 → Sg → Option (Sg)) (x3_37 : Int32) (s_38 : Sg) : Option (Sg) :=
  if 300 < x3_37 then
    k_16 s_38
  else
    if (gi s_38 4 4) = 0 then
      if (gi s_38 4 12) = 0 then
        bnv (fX7_advance s_38) fun s_39 =>
        bv (fun (s_40 : Sg) => 
          bv (x3_37 + 1) fun v_42 =>
          rec63 v_42 s_40)
        fun k_41 =>
        if (gi s_39 4 9) = 0 then
          bnv (fX2_readOperation s_39) fun s_44 =>
          k_41 s_44
        else
          bnv (fX2_readOperand s_39) fun s_45 =>
          k_41 s_45
      else
        k_16 s_38
    else
      k_16 s_38
def fX2_readLaw (a1 : Int32) (s0 : Sg) : Option (Sg) :=
  bv (gr s0 4 3) fun q_1 =>
  chk (isScr q_1) <|
  bv (gi s0 q_1 1) fun v_3 =>
  bv (fun (y_4 : Bool) => 
    bv (si s0 4 8 (b2i y_4)) fun s_6 =>
    bv (si s_6 4 2 0) fun s_7 =>
    bv (si s_7 4 6 0) fun s_8 =>
    bv (si s_8 4 7 0) fun s_9 =>
    bv (si s_9 4 9 (b2i true)) fun s_10 =>
    chk ((gi s_10 4 8) == 0 || (gi s_10 4 8) == 1) <|
    bv (si s_10 4 10 (b2i ((gi s_10 4 8) == 1))) fun s_11 =>
    bv (si s_11 4 11 (b2i false)) fun s_13 =>
    bv (si s_13 4 12 (b2i false)) fun s_14 =>
    bv (fun (s_15 : Sg) => 
      bnv (fX2_takeToken 16 s_15) fun s_17 =>
      bv (gr s_17 4 3) fun q_18 =>
      chk (isScr q_18) <|
      bnv (fX5_addClause q_18 a1 0 0 s_17) fun s_20 =>
      if (gi s_20 4 8) = 0 then
        bv (gr s_20 4 3) fun q_21 =>
        chk (isScr q_21) <|
        bv (si s_20 q_21 2 v_3) fun s_23 =>
        bv (gr s_23 4 3) fun q_24 =>
        chk (isScr q_24) <|
        bv (gr s_23 4 3) fun q_26 =>
        chk (isScr q_26) <|
        bv (si s_23 q_24 3 (gi s_23 q_26 1)) fun s_28 =>
        some s_28
      else
        bv (gr s_20 4 3) fun q_29 =>
        chk (isScr q_29) <|
        bv (si s_20 q_29 4 v_3) fun s_31 =>
        bv (gr s_31 4 3) fun q_32 =>
        chk (isScr q_32) <|
        bv (gr s_31 4 3) fun q_34 =>
        chk (isScr q_34) <|
        bv (si s_31 q_32 5 (gi s_31 q_34 1)) fun s_36 =>
        some s_36)
    fun k_16 =>
    lo2 (fX2_readLaw_63_b k_16) FU 0 s_14)
  fun k_5 =>
  if a1 = 20 then
    k_5 true
  else
    k_5 false
theorem wX2_readLaw_63 {p : Program} {l : Launch} {e : Env} {s : State} {m : MethodId} {args : Array Value} {below : List Frame} {meth : Method} {c : Code} {D : va_G} {ct : Nat → ClassId} {A : Nat → Nat} (C : Cx p m c cX2_readLaw 4 s args yX2_readLaw.cls meth none D ct A) (a1 : Int32) (v_3 : Int32) (k_16 : Sg → Option (Sg)) (hk_16 : ∀ (s_15 : Sg), Wm p l e (rmD 8) s m args below meth c D ct A 4 embV 115 [(0, .ref (A 4)), (1, .int a1), (2, .int v_3)] [] s_15 (k_16 s_15)) : ∀ (n : Nat) (x3_37 : Int32) (s_38 : Sg), Wm p l e (rmD 8) s m args below meth c D ct A 4 embV 63 [(0, .ref (A 4)), (1, .int a1), (2, .int v_3), (3, .int x3_37)] [] s_38 (lo2 (fX2_readLaw_63_b k_16) n x3_37 s_38) := by
  intro n
  induction n with
  | zero => intro x3_37 s_38; exact m_none
  | succ n hrec63 =>
    intro x3_37 s_38
    refine (show Wm p l e (rmD 8) s m args below meth c D ct A 4 embV 63 [(0, .ref (A 4)), (1, .int a1), (2, .int v_3), (3, .int x3_37)] [] s_38 (fX2_readLaw_63_b k_16 (lo2 (fX2_readLaw_63_b k_16) n) x3_37 s_38) from ?_)
    generalize lo2 (fX2_readLaw_63_b k_16) n = rec63 at hrec63 ⊢
    unfold fX2_readLaw_63_b
    refine m_iload_n C dX2_readLaw_63 rfl ?_
    refine m_sipush C dX2_readLaw_64 cs_300 ?_
    refine m_icmp_gt (tgt := 115) C dX2_readLaw_67 rfl ?_ ?_
    · refine m_loc (L2 := [(0, .ref (A 4)), (1, .int a1), (2, .int v_3)]) [0, 1, 2] rfl ?_
      exact hk_16 s_38
    · refine m_aload_n C dX2_readLaw_70 rfl ?_
      refine m_get (v := .int (gi s_38 4 4)) C fl_X2_15_2 rfl (by decide) rfl dX2_readLaw_71 ?_
      refine m_if_ne (tgt := 115) C dX2_readLaw_74 rfl ?_ ?_
      · refine m_loc (L2 := [(0, .ref (A 4)), (1, .int a1), (2, .int v_3)]) [0, 1, 2] rfl ?_
        exact hk_16 s_38
      · refine m_aload_n C dX2_readLaw_77 rfl ?_
        refine m_get (v := .int (gi s_38 4 12)) C fl_X2_110_2 rfl (by decide) rfl dX2_readLaw_78 ?_
        refine m_if_ne (tgt := 115) C dX2_readLaw_81 rfl ?_ ?_
        · refine m_loc (L2 := [(0, .ref (A 4)), (1, .int a1), (2, .int v_3)]) [0, 1, 2] rfl ?_
          exact hk_16 s_38
        · refine m_aload_n C dX2_readLaw_84 rfl ?_
          refine m_get (v := .ref (A 3)) C fl_X2_22_2 rfl (by decide) rfl dX2_readLaw_85 ?_
          refine m_callVV C ml_X2_69 ⟨Nat.le_of_ble_eq_true rfl, Nat.le_of_ble_eq_true rfl⟩ rfl rfl [] [] rfl rfl (Nat.le_of_ble_eq_true rfl) dX2_readLaw_88 (fun o ho => kX7_advance l D ct A s_38 o ho) (fun s_39 => ?_)
          refine m_aload_n C dX2_readLaw_91 rfl ?_
          refine m_get (v := .int (gi s_39 4 9)) C fl_X2_101_2 rfl (by decide) rfl dX2_readLaw_92 ?_
          refine m_jn (P := fun (k_41 : Sg → Option (Sg)) => ∀ (s_40 : Sg), Wm p l e (rmD 8) s m args below meth c D ct A 4 embV 109 [(0, .ref (A 4)), (1, .int a1), (2, .int v_3), (3, .int x3_37)] [] s_40 (k_41 s_40)) ?_ (fun k_41 hk_41 => ?_)
          · intro s_40
            refine m_iincb (L2 := fun v_42 => [(3, .int v_42), (0, .ref (A 4)), (1, .int a1), (2, .int v_3)]) (q := 3) C dX2_readLaw_109 rfl ci_1 (by decide) (fun _ => rfl) (fun v_42 => ?_)
            refine m_goto (tgt := 63) C dX2_readLaw_112 rfl ?_
            refine m_loc (L2 := [(0, .ref (A 4)), (1, .int a1), (2, .int v_3), (3, .int v_42)]) [1, 2, 3, 0] rfl ?_
            exact hrec63 v_42 s_40
          refine m_if_eq (tgt := 105) C dX2_readLaw_95 rfl ?_ ?_
          · refine m_aload_n C dX2_readLaw_105 rfl ?_
            refine m_callVV C ml_X2_116 ⟨Nat.le_of_ble_eq_true rfl, Nat.le_of_ble_eq_true rfl⟩ rfl rfl [] [] rfl rfl (Nat.le_of_ble_eq_true rfl) dX2_readLaw_106 (fun o ho => kX2_readOperation l D ct A s_39 o ho) (fun s_44 => ?_)
            refine m_loc (L2 := [(0, .ref (A 4)), (1, .int a1), (2, .int v_3), (3, .int x3_37)]) [0, 1, 2, 3] rfl ?_
            exact hk_41 s_44
          · refine m_aload_n C dX2_readLaw_98 rfl ?_
            refine m_callVV C ml_X2_113 ⟨Nat.le_of_ble_eq_true rfl, Nat.le_of_ble_eq_true rfl⟩ rfl rfl [] [] rfl rfl (Nat.le_of_ble_eq_true rfl) dX2_readLaw_99 (fun o ho => kX2_readOperand l D ct A s_39 o ho) (fun s_45 => ?_)
            refine m_goto (tgt := 109) C dX2_readLaw_102 rfl ?_
            refine m_loc (L2 := [(0, .ref (A 4)), (1, .int a1), (2, .int v_3), (3, .int x3_37)]) [0, 1, 2, 3] rfl ?_
            exact hk_41 s_45
theorem kX2_readLaw (l : Launch) (D : va_G) (ct : Nat → ClassId) (A : Nat → Nat) (a1 : Int32) (s0 : Sg) (o : Sg) (ho : fX2_readLaw a1 s0 = some o) : Con l yX2_readLaw cX2_readLaw 4 none 8 D ct A [.ref (A 4), .int a1] s0 (embV o) := by
  refine con_start (by decide +kernel) (Nat.le_of_ble_eq_true rfl) ho (fun p e s m args below meth c C => ?_)
  refine m_loc (L2 := [(0, .ref (A 4)), (1, .int a1)]) [0, 1] rfl ?_
  unfold fX2_readLaw
  refine m_aload_n C dX2_readLaw_0 rfl ?_
  refine m_get (v := rfv A (gr s0 4 3)) C fl_X2_26_2 rfl (by decide) rfl dX2_readLaw_1 ?_
  refine m_letn (fun q_1 => ?_)
  refine m_chk (fun h_2 => ?_)
  refine m_rf (isScr_ne h_2) ?_
  refine m_get (v := .int (gi s0 q_1 1)) C fl_X2_85_5 (lay_scr h_2) (by decide) (fv_scr h_2 rfl) dX2_readLaw_4 ?_
  refine m_let (fun v_3 => ?_)
  refine m_istore_n (L2 := [(2, .int v_3), (0, .ref (A 4)), (1, .int a1)]) C dX2_readLaw_7 rfl (by decide) rfl ?_
  refine m_aload_n C dX2_readLaw_8 rfl ?_
  refine m_iload_n C dX2_readLaw_9 rfl ?_
  refine m_bipush C dX2_readLaw_10 cb_20 ?_
  refine m_jn (P := fun (k_5 : Bool → Option (Sg)) => ∀ (y_4 : Bool), Wm p l e (rmD 8) s m args below meth c D ct A 4 embV 20 [(0, .ref (A 4)), (1, .int a1), (2, .int v_3)] [.int (b2i y_4), .ref (A 4)] s0 (k_5 y_4)) ?_ (fun k_5 hk_5 => ?_)
  · intro y_4
    refine m_putz C fl_X2_88_2 fw_2_8 rfl (by decide) rfl y_4 rfl dX2_readLaw_20 (fun s_6 => ?_)
    refine m_aload_n C dX2_readLaw_23 rfl ?_
    refine m_iconst C dX2_readLaw_24 ci_0 ?_
    refine m_puti C fl_X2_92_2 fw_2_2 rfl (by decide) rfl dX2_readLaw_25 (fun s_7 => ?_)
    refine m_aload_n C dX2_readLaw_28 rfl ?_
    refine m_iconst C dX2_readLaw_29 ci_0 ?_
    refine m_puti C fl_X2_95_2 fw_2_6 rfl (by decide) rfl dX2_readLaw_30 (fun s_8 => ?_)
    refine m_aload_n C dX2_readLaw_33 rfl ?_
    refine m_iconst C dX2_readLaw_34 ci_0 ?_
    refine m_puti C fl_X2_98_2 fw_2_7 rfl (by decide) rfl dX2_readLaw_35 (fun s_9 => ?_)
    refine m_aload_n C dX2_readLaw_38 rfl ?_
    refine m_iconst C dX2_readLaw_39 ci_1 ?_
    refine m_putz C fl_X2_101_2 fw_2_9 rfl (by decide) rfl true rfl dX2_readLaw_40 (fun s_10 => ?_)
    refine m_aload_n C dX2_readLaw_43 rfl ?_
    refine m_aload_n C dX2_readLaw_44 rfl ?_
    refine m_get (v := .int (gi s_10 4 8)) C fl_X2_88_2 rfl (by decide) rfl dX2_readLaw_45 ?_
    refine m_chk (fun h_12 => ?_)
    refine m_putz C fl_X2_104_2 fw_2_10 rfl (by decide) rfl ((gi s_10 4 8) == 1) (b2i_of h_12) dX2_readLaw_48 (fun s_11 => ?_)
    refine m_aload_n C dX2_readLaw_51 rfl ?_
    refine m_iconst C dX2_readLaw_52 ci_0 ?_
    refine m_putz C fl_X2_107_2 fw_2_11 rfl (by decide) rfl false rfl dX2_readLaw_53 (fun s_13 => ?_)
    refine m_aload_n C dX2_readLaw_56 rfl ?_
    refine m_iconst C dX2_readLaw_57 ci_0 ?_
    refine m_putz C fl_X2_110_2 fw_2_12 rfl (by decide) rfl false rfl dX2_readLaw_58 (fun s_14 => ?_)
    refine m_iconst C dX2_readLaw_61 ci_0 ?_
    refine m_istore_n (L2 := [(3, .int 0), (0, .ref (A 4)), (1, .int a1), (2, .int v_3)]) C dX2_readLaw_62 rfl (by decide) rfl ?_
    refine m_jn (P := fun (k_16 : Sg → Option (Sg)) => ∀ (s_15 : Sg), Wm p l e (rmD 8) s m args below meth c D ct A 4 embV 115 [(0, .ref (A 4)), (1, .int a1), (2, .int v_3)] [] s_15 (k_16 s_15)) ?_ (fun k_16 hk_16 => ?_)
    · intro s_15
      refine m_aload_n C dX2_readLaw_115 rfl ?_
      refine m_bipush C dX2_readLaw_116 cb_16 ?_
      refine m_callVV C ml_X2_75 ⟨Nat.le_of_ble_eq_true rfl, Nat.le_of_ble_eq_true rfl⟩ rfl rfl [.int 16] [] rfl rfl (Nat.le_of_ble_eq_true rfl) dX2_readLaw_118 (fun o ho => kX2_takeToken l D ct A 16 s_15 o ho) (fun s_17 => ?_)
      refine m_aload_n C dX2_readLaw_121 rfl ?_
      refine m_get (v := rfv A (gr s_17 4 3)) C fl_X2_26_2 rfl (by decide) rfl dX2_readLaw_122 ?_
      refine m_letn (fun q_18 => ?_)
      refine m_chk (fun h_19 => ?_)
      refine m_rf (isScr_ne h_19) ?_
      refine m_iload_n C dX2_readLaw_125 rfl ?_
      refine m_iconst C dX2_readLaw_126 ci_0 ?_
      refine m_iconst C dX2_readLaw_127 ci_0 ?_
      refine m_callVV C ml_X2_78 ⟨Nat.le_of_ble_eq_true rfl, Nat.le_of_ble_eq_true rfl⟩ (lay_scr h_19) rfl [.int a1, .int 0, .int 0] [] rfl rfl (Nat.le_of_ble_eq_true rfl) dX2_readLaw_128 (fun o ho => kX5_addClause l D ct A q_18 a1 0 0 h_19 s_17 o ho) (fun s_20 => ?_)
      refine m_aload_n C dX2_readLaw_131 rfl ?_
      refine m_get (v := .int (gi s_20 4 8)) C fl_X2_88_2 rfl (by decide) rfl dX2_readLaw_132 ?_
      refine m_if_eq (tgt := 163) C dX2_readLaw_135 rfl ?_ ?_
      · refine m_aload_n C dX2_readLaw_163 rfl ?_
        refine m_get (v := rfv A (gr s_20 4 3)) C fl_X2_26_2 rfl (by decide) rfl dX2_readLaw_164 ?_
        refine m_letn (fun q_21 => ?_)
        refine m_chk (fun h_22 => ?_)
        refine m_rf (isScr_ne h_22) ?_
        refine m_iload_n C dX2_readLaw_167 rfl ?_
        refine m_puti C fl_X2_60_5 fw_5_2 (lay_scr h_22) (by decide) (fk_scr h_22 2) dX2_readLaw_168 (fun s_23 => ?_)
        refine m_aload_n C dX2_readLaw_171 rfl ?_
        refine m_get (v := rfv A (gr s_23 4 3)) C fl_X2_26_2 rfl (by decide) rfl dX2_readLaw_172 ?_
        refine m_letn (fun q_24 => ?_)
        refine m_chk (fun h_25 => ?_)
        refine m_rf (isScr_ne h_25) ?_
        refine m_aload_n C dX2_readLaw_175 rfl ?_
        refine m_get (v := rfv A (gr s_23 4 3)) C fl_X2_26_2 rfl (by decide) rfl dX2_readLaw_176 ?_
        refine m_letn (fun q_26 => ?_)
        refine m_chk (fun h_27 => ?_)
        refine m_rf (isScr_ne h_27) ?_
        refine m_get (v := .int (gi s_23 q_26 1)) C fl_X2_85_5 (lay_scr h_27) (by decide) (fv_scr h_27 rfl) dX2_readLaw_179 ?_
        refine m_puti C fl_X2_122_5 fw_5_3 (lay_scr h_25) (by decide) (fk_scr h_25 3) dX2_readLaw_182 (fun s_28 => ?_)
        exact m_vret C dX2_readLaw_185
      · refine m_aload_n C dX2_readLaw_138 rfl ?_
        refine m_get (v := rfv A (gr s_20 4 3)) C fl_X2_26_2 rfl (by decide) rfl dX2_readLaw_139 ?_
        refine m_letn (fun q_29 => ?_)
        refine m_chk (fun h_30 => ?_)
        refine m_rf (isScr_ne h_30) ?_
        refine m_iload_n C dX2_readLaw_142 rfl ?_
        refine m_puti C fl_X2_63_5 fw_5_4 (lay_scr h_30) (by decide) (fk_scr h_30 4) dX2_readLaw_143 (fun s_31 => ?_)
        refine m_aload_n C dX2_readLaw_146 rfl ?_
        refine m_get (v := rfv A (gr s_31 4 3)) C fl_X2_26_2 rfl (by decide) rfl dX2_readLaw_147 ?_
        refine m_letn (fun q_32 => ?_)
        refine m_chk (fun h_33 => ?_)
        refine m_rf (isScr_ne h_33) ?_
        refine m_aload_n C dX2_readLaw_150 rfl ?_
        refine m_get (v := rfv A (gr s_31 4 3)) C fl_X2_26_2 rfl (by decide) rfl dX2_readLaw_151 ?_
        refine m_letn (fun q_34 => ?_)
        refine m_chk (fun h_35 => ?_)
        refine m_rf (isScr_ne h_35) ?_
        refine m_get (v := .int (gi s_31 q_34 1)) C fl_X2_85_5 (lay_scr h_35) (by decide) (fv_scr h_35 rfl) dX2_readLaw_154 ?_
        refine m_puti C fl_X2_119_5 fw_5_5 (lay_scr h_33) (by decide) (fk_scr h_33 5) dX2_readLaw_157 (fun s_36 => ?_)
        refine m_goto (tgt := 185) C dX2_readLaw_160 rfl ?_
        exact m_vret C dX2_readLaw_185
    refine m_loc (L2 := [(0, .ref (A 4)), (1, .int a1), (2, .int v_3), (3, .int 0)]) [1, 2, 3, 0] rfl ?_
    exact wX2_readLaw_63 C a1 v_3 k_16 hk_16 FU 0 s_14
  refine m_icmp_ne (tgt := 19) C dX2_readLaw_12 rfl ?_ ?_
  · refine m_iconst C dX2_readLaw_19 ci_0 ?_
    refine m_loc (L2 := [(0, .ref (A 4)), (1, .int a1), (2, .int v_3)]) [1, 2, 0] rfl ?_
    exact hk_5 false
  · refine m_iconst C dX2_readLaw_15 ci_1 ?_
    refine m_goto (tgt := 20) C dX2_readLaw_16 rfl ?_
    refine m_loc (L2 := [(0, .ref (A 4)), (1, .int a1), (2, .int v_3)]) [1, 2, 0] rfl ?_
    exact hk_5 true
def fX7_begin (s0 : Sg) : Option (Sg) :=
  bv (si s0 3 4 0) fun s_1 =>
  bnv (fX7_advance s_1) fun s_2 =>
  some s_2
theorem kX7_begin (l : Launch) (D : va_G) (ct : Nat → ClassId) (A : Nat → Nat) (s0 : Sg) (o : Sg) (ho : fX7_begin s0 = some o) : Con l yX7_begin cX7_begin 1 none 7 D ct A [.ref (A 3)] s0 (embV o) := by
  refine con_start (by decide +kernel) (Nat.le_of_ble_eq_true rfl) ho (fun p e s m args below meth c C => ?_)
  refine m_loc (L2 := [(0, .ref (A 3))]) [0] rfl ?_
  unfold fX7_begin
  refine m_aload_n C dX7_begin_0 rfl ?_
  refine m_iconst C dX7_begin_1 ci_0 ?_
  refine m_puti C fl_X7_19_7 fw_7_4 rfl (by decide) rfl dX7_begin_2 (fun s_1 => ?_)
  refine m_aload_n C dX7_begin_5 rfl ?_
  refine m_callVV C ml_X7_22 ⟨Nat.le_of_ble_eq_true rfl, Nat.le_of_ble_eq_true rfl⟩ rfl rfl [] [] rfl rfl (Nat.le_of_ble_eq_true rfl) dX7_begin_6 (fun o ho => kX7_advance l D ct A s_1 o ho) (fun s_2 => ?_)
  exact m_vret C dX7_begin_9
def fX9_put (a1 : Int32) (a2 : Int32) (s0 : Sg) : Option (Int32 × Sg) :=
  bnd (fX9_lay a1 a2 s0) fun r_1 s_2 =>
  if (b2i r_1) = 0 then
    some ((-1), s_2)
  else
    if a2 = 0 then
      some (gi s_2 6 2, s_2)
    else
      some (gi s_2 6 3, s_2)
theorem kX9_put (l : Launch) (D : va_G) (ct : Nat → ClassId) (A : Nat → Nat) (a1 : Int32) (a2 : Int32) (s0 : Sg) (o : Int32 × Sg) (ho : fX9_put a1 a2 s0 = some o) : Con l yX9_put cX9_put 3 (some .int) 6 D ct A [.ref (A 0), .int a1, .int a2] s0 (embI o) := by
  refine con_start (by decide +kernel) (Nat.le_of_ble_eq_true rfl) ho (fun p e s m args below meth c C => ?_)
  refine m_loc (L2 := [(0, .ref (A 0)), (1, .int a1), (2, .int a2)]) [0, 1, 2] rfl ?_
  unfold fX9_put
  refine m_aload_n C dX9_put_0 rfl ?_
  refine m_iload_n C dX9_put_1 rfl ?_
  refine m_iload_n C dX9_put_2 rfl ?_
  refine m_callVZ C ml_X9_127 ⟨Nat.le_of_ble_eq_true rfl, Nat.le_of_ble_eq_true rfl⟩ rfl rfl [.int a1, .int a2] [] rfl rfl (Nat.le_of_ble_eq_true rfl) dX9_put_3 (fun o ho => kX9_lay l D ct A a1 a2 s0 o ho) (fun r_1 s_2 => ?_)
  refine m_if_ne (tgt := 11) C dX9_put_6 rfl ?_ ?_
  · refine m_iload_n C dX9_put_11 rfl ?_
    refine m_if_ne (tgt := 25) C dX9_put_12 rfl ?_ ?_
    · refine m_aload_n C dX9_put_25 rfl ?_
      refine m_get (v := .ref (A 6)) C fl_X9_44_8 rfl (by decide) rfl dX9_put_26 ?_
      refine m_get (v := .int (gi s_2 6 3)) C fl_X9_134_4 rfl (by decide) rfl dX9_put_29 ?_
      exact m_iret C dX9_put_32
    · refine m_aload_n C dX9_put_15 rfl ?_
      refine m_get (v := .ref (A 6)) C fl_X9_44_8 rfl (by decide) rfl dX9_put_16 ?_
      refine m_get (v := .int (gi s_2 6 2)) C fl_X9_131_4 rfl (by decide) rfl dX9_put_19 ?_
      refine m_goto (tgt := 32) C dX9_put_22 rfl ?_
      exact m_iret C dX9_put_32
  · refine m_iconst C dX9_put_9 ci_m1 ?_
    exact m_iret C dX9_put_10
def fX9_take (a1 : Int32) (s0 : Sg) : Option (Int32 × Sg) :=
  bnd (fX6_panOf a1 s0) fun r_1 s_2 =>
  bnd (fX9_lift a1 s_2) fun r_3 s_4 =>
  if (b2i r_3) = 0 then
    some ((-1), s_4)
  else
    some (r_1, s_4)
theorem kX9_take (l : Launch) (D : va_G) (ct : Nat → ClassId) (A : Nat → Nat) (a1 : Int32) (s0 : Sg) (o : Int32 × Sg) (ho : fX9_take a1 s0 = some o) : Con l yX9_take cX9_take 3 (some .int) 6 D ct A [.ref (A 0), .int a1] s0 (embI o) := by
  refine con_start (by decide +kernel) (Nat.le_of_ble_eq_true rfl) ho (fun p e s m args below meth c C => ?_)
  refine m_loc (L2 := [(0, .ref (A 0)), (1, .int a1)]) [0, 1] rfl ?_
  unfold fX9_take
  refine m_aload_n C dX9_take_0 rfl ?_
  refine m_get (v := .ref (A 1)) C fl_X9_10_8 rfl (by decide) rfl dX9_take_1 ?_
  refine m_iload_n C dX9_take_4 rfl ?_
  refine m_callVI C ml_X9_137 ⟨Nat.le_of_ble_eq_true rfl, Nat.le_of_ble_eq_true rfl⟩ rfl rfl [.int a1] [] rfl rfl (Nat.le_of_ble_eq_true rfl) dX9_take_5 (fun o ho => kX6_panOf l D ct A a1 s0 o ho) (fun r_1 s_2 => ?_)
  refine m_istore_n (L2 := [(2, .int r_1), (0, .ref (A 0)), (1, .int a1)]) C dX9_take_8 rfl (by decide) rfl ?_
  refine m_aload_n C dX9_take_9 rfl ?_
  refine m_iload_n C dX9_take_10 rfl ?_
  refine m_callVZ C ml_X9_141 ⟨Nat.le_of_ble_eq_true rfl, Nat.le_of_ble_eq_true rfl⟩ rfl rfl [.int a1] [] rfl rfl (Nat.le_of_ble_eq_true rfl) dX9_take_11 (fun o ho => kX9_lift l D ct A a1 s_2 o ho) (fun r_3 s_4 => ?_)
  refine m_if_eq (tgt := 21) C dX9_take_14 rfl ?_ ?_
  · refine m_iconst C dX9_take_21 ci_m1 ?_
    exact m_iret C dX9_take_22
  · refine m_iload_n C dX9_take_17 rfl ?_
    refine m_goto (tgt := 22) C dX9_take_18 rfl ?_
    exact m_iret C dX9_take_22
def fX9_played_20_b (q_4 : Nat) (rec20 : Int32 → Sg → Option (Int32 × Sg)) (x3_6 : Int32) (s_7 : Sg) : Option (Int32 × Sg) :=
  if (gi s_7 q_4 9) ≤ x3_6 then
    some ((-1), s_7)
  else
    chk (inb 24 x3_6) <|
    bv (fun (y_9 : Bool) (s_10 : Sg) => 
      if (b2i y_9) = 0 then
        some (x3_6, s_10)
      else
        bv (x3_6 + 1) fun v_12 =>
        rec20 v_12 s_10)
    fun k_11 =>
    if (gi s_7 (q_4 + 2) (ix x3_6)) = 21 then
      bnd (fX9_lay (gi s_7 (q_4 + 3) (ix x3_6)) (gi s_7 (q_4 + 4) (ix x3_6)) s_7) fun r_13 s_14 =>
      k_11 r_13 s_14
    else
      if (gi s_7 (q_4 + 2) (ix x3_6)) = 22 then
        bnd (fX9_lift (gi s_7 (q_4 + 3) (ix x3_6)) s_7) fun r_16 s_17 =>
        k_11 r_16 s_17
      else
        if (gi s_7 (q_4 + 2) (ix x3_6)) = 23 then
          bnd (fX9_passHours (gi s_7 (q_4 + 3) (ix x3_6)) s_7) fun r_19 s_20 =>
          k_11 r_19 s_20
        else
          k_11 true s_7
def fX9_played (a1 : Int32) (s0 : Sg) : Option (Int32 × Sg) :=
  bnd (fX9_isText a1 s0) fun r_1 s_2 =>
  if (b2i r_1) = 0 then
    some ((-2), s_2)
  else
    chk (inb 4 a1) <|
    bv (48 + 5 * ix a1) fun q_4 =>
    chk (isScr q_4) <|
    lo2 (fX9_played_20_b q_4) FU 0 s_2
theorem wX9_played_20 {p : Program} {l : Launch} {e : Env} {s : State} {m : MethodId} {args : Array Value} {below : List Frame} {meth : Method} {c : Code} {D : va_G} {ct : Nat → ClassId} {A : Nat → Nat} (C : Cx p m c cX9_played 5 s args yX9_played.cls meth (some .int) D ct A) (q_4 : Nat) (h_5 : (isScr q_4) = true) : ∀ (n : Nat) (x3_6 : Int32) (s_7 : Sg), Wm p l e (rmD 6) s m args below meth c D ct A 5 embI 20 [(0, .ref (A 0)), (2, .ref (A q_4)), (3, .int x3_6)] [] s_7 (lo2 (fX9_played_20_b q_4) n x3_6 s_7) := by
  intro n
  induction n with
  | zero => intro x3_6 s_7; exact m_none
  | succ n hrec20 =>
    intro x3_6 s_7
    refine (show Wm p l e (rmD 6) s m args below meth c D ct A 5 embI 20 [(0, .ref (A 0)), (2, .ref (A q_4)), (3, .int x3_6)] [] s_7 (fX9_played_20_b q_4 (lo2 (fX9_played_20_b q_4) n) x3_6 s_7) from ?_)
    generalize lo2 (fX9_played_20_b q_4) n = rec20 at hrec20 ⊢
    unfold fX9_played_20_b
    refine m_iload_n C dX9_played_20 rfl ?_
    refine m_aload_n C dX9_played_21 rfl ?_
    refine m_get (v := .int (gi s_7 q_4 9)) C fl_X9_147_5 (lay_scr h_5) (by decide) (fv_scr h_5 rfl) dX9_played_22 ?_
    refine m_icmp_ge (tgt := 121) C dX9_played_25 rfl ?_ ?_
    · refine m_iconst C dX9_played_121 ci_m1 ?_
      exact m_iret C dX9_played_122
    · refine m_aload_n C dX9_played_28 rfl ?_
      refine m_get (v := .ref (A (q_4 + 2))) C fl_X9_150_5 (lay_scr h_5) (by decide) (fv_scr h_5 rfl) dX9_played_29 ?_
      refine m_iload_n C dX9_played_32 rfl ?_
      refine m_chk (fun h_8 => ?_)
      refine m_iald C (lay_scr2 h_5).1 h_8 dX9_played_33 ?_
      refine m_jn (P := fun (k_11 : Bool → Sg → Option (Int32 × Sg)) => ∀ (y_9 : Bool) (s_10 : Sg), Wm p l e (rmD 6) s m args below meth c D ct A 5 embI 106 [(0, .ref (A 0)), (2, .ref (A q_4)), (3, .int x3_6)] [.int (b2i y_9)] s_10 (k_11 y_9 s_10)) ?_ (fun k_11 hk_11 => ?_)
      · intro y_9 s_10
        refine m_istore (L2 := [(4, .int (b2i y_9)), (0, .ref (A 0)), (2, .ref (A q_4)), (3, .int x3_6)]) C dX9_played_106 (by decide) rfl ?_
        refine m_iload C dX9_played_108 rfl ?_
        refine m_if_ne (tgt := 115) C dX9_played_110 rfl ?_ ?_
        · refine m_iincb (L2 := fun v_12 => [(3, .int v_12), (4, .int (b2i y_9)), (0, .ref (A 0)), (2, .ref (A q_4))]) (q := 3) C dX9_played_115 rfl ci_1 (by decide) (fun _ => rfl) (fun v_12 => ?_)
          refine m_goto (tgt := 20) C dX9_played_118 rfl ?_
          refine m_loc (L2 := [(0, .ref (A 0)), (2, .ref (A q_4)), (3, .int v_12)]) [2, 3, 0] rfl ?_
          exact hrec20 v_12 s_10
        · refine m_iload_n C dX9_played_113 rfl ?_
          exact m_iret C dX9_played_114
      refine m_tbl (n := 0) C dX9_played_34 21 26 60 (by decide +kernel) ?_ (fun h_15 => ?_)
      · refine m_aload_n C dX9_played_60 rfl ?_
        refine m_aload_n C dX9_played_61 rfl ?_
        refine m_get (v := .ref (A (q_4 + 3))) C fl_X9_153_5 (lay_scr h_5) (by decide) (fv_scr h_5 rfl) dX9_played_62 ?_
        refine m_iload_n C dX9_played_65 rfl ?_
        refine m_iald C (lay_scr2 h_5).2.1 h_8 dX9_played_66 ?_
        refine m_aload_n C dX9_played_67 rfl ?_
        refine m_get (v := .ref (A (q_4 + 4))) C fl_X9_156_5 (lay_scr h_5) (by decide) (fv_scr h_5 rfl) dX9_played_68 ?_
        refine m_iload_n C dX9_played_71 rfl ?_
        refine m_iald C (lay_scr2 h_5).2.2 h_8 dX9_played_72 ?_
        refine m_callVZ C ml_X9_127 ⟨Nat.le_of_ble_eq_true rfl, Nat.le_of_ble_eq_true rfl⟩ rfl rfl [.int (gi s_7 (q_4 + 3) (ix x3_6)), .int (gi s_7 (q_4 + 4) (ix x3_6))] [] rfl rfl (Nat.le_of_ble_eq_true rfl) dX9_played_73 (fun o ho => kX9_lay l D ct A (gi s_7 (q_4 + 3) (ix x3_6)) (gi s_7 (q_4 + 4) (ix x3_6)) s_7 o ho) (fun r_13 s_14 => ?_)
        refine m_goto (tgt := 106) C dX9_played_76 rfl ?_
        refine m_loc (L2 := [(0, .ref (A 0)), (2, .ref (A q_4)), (3, .int x3_6)]) [0, 1, 2] rfl ?_
        exact hk_11 r_13 s_14
      · refine m_tbl (n := 0) C dX9_played_34 22 45 79 (by decide +kernel) ?_ (fun h_18 => ?_)
        · refine m_aload_n C dX9_played_79 rfl ?_
          refine m_aload_n C dX9_played_80 rfl ?_
          refine m_get (v := .ref (A (q_4 + 3))) C fl_X9_153_5 (lay_scr h_5) (by decide) (fv_scr h_5 rfl) dX9_played_81 ?_
          refine m_iload_n C dX9_played_84 rfl ?_
          refine m_iald C (lay_scr2 h_5).2.1 h_8 dX9_played_85 ?_
          refine m_callVZ C ml_X9_141 ⟨Nat.le_of_ble_eq_true rfl, Nat.le_of_ble_eq_true rfl⟩ rfl rfl [.int (gi s_7 (q_4 + 3) (ix x3_6))] [] rfl rfl (Nat.le_of_ble_eq_true rfl) dX9_played_86 (fun o ho => kX9_lift l D ct A (gi s_7 (q_4 + 3) (ix x3_6)) s_7 o ho) (fun r_16 s_17 => ?_)
          refine m_goto (tgt := 106) C dX9_played_89 rfl ?_
          refine m_loc (L2 := [(0, .ref (A 0)), (2, .ref (A q_4)), (3, .int x3_6)]) [0, 1, 2] rfl ?_
          exact hk_11 r_16 s_17
        · refine m_tbl (n := 0) C dX9_played_34 23 58 92 (by decide +kernel) ?_ (fun h_21 => ?_)
          · refine m_aload_n C dX9_played_92 rfl ?_
            refine m_aload_n C dX9_played_93 rfl ?_
            refine m_get (v := .ref (A (q_4 + 3))) C fl_X9_153_5 (lay_scr h_5) (by decide) (fv_scr h_5 rfl) dX9_played_94 ?_
            refine m_iload_n C dX9_played_97 rfl ?_
            refine m_iald C (lay_scr2 h_5).2.1 h_8 dX9_played_98 ?_
            refine m_callVZ C ml_X9_144 ⟨Nat.le_of_ble_eq_true rfl, Nat.le_of_ble_eq_true rfl⟩ rfl rfl [.int (gi s_7 (q_4 + 3) (ix x3_6))] [] rfl rfl (Nat.le_of_ble_eq_true rfl) dX9_played_99 (fun o ho => kX9_passHours l D ct A (gi s_7 (q_4 + 3) (ix x3_6)) s_7 o ho) (fun r_19 s_20 => ?_)
            refine m_goto (tgt := 106) C dX9_played_102 rfl ?_
            refine m_loc (L2 := [(0, .ref (A 0)), (2, .ref (A q_4)), (3, .int x3_6)]) [0, 1, 2] rfl ?_
            exact hk_11 r_19 s_20
          · refine m_tblD C dX9_played_34 105 rfl (tbl_dflt [21, 22, 23] (fun w hw => by simp only [List.mem_cons, List.not_mem_nil, or_false] at hw; rcases hw with rfl | rfl | rfl <;> assumption) 2 (by decide) (by decide +kernel)) ?_
            refine m_iconst C dX9_played_105 ci_1 ?_
            refine m_loc (L2 := [(0, .ref (A 0)), (2, .ref (A q_4)), (3, .int x3_6)]) [0, 1, 2] rfl ?_
            exact hk_11 true s_7
theorem kX9_played (l : Launch) (D : va_G) (ct : Nat → ClassId) (A : Nat → Nat) (a1 : Int32) (s0 : Sg) (o : Int32 × Sg) (ho : fX9_played a1 s0 = some o) : Con l yX9_played cX9_played 5 (some .int) 6 D ct A [.ref (A 0), .int a1] s0 (embI o) := by
  refine con_start (by decide +kernel) (Nat.le_of_ble_eq_true rfl) ho (fun p e s m args below meth c C => ?_)
  refine m_loc (L2 := [(0, .ref (A 0)), (1, .int a1)]) [0, 1] rfl ?_
  unfold fX9_played
  refine m_aload_n C dX9_played_0 rfl ?_
  refine m_iload_n C dX9_played_1 rfl ?_
  refine m_callVZ C ml_X9_116 ⟨Nat.le_of_ble_eq_true rfl, Nat.le_of_ble_eq_true rfl⟩ rfl rfl [.int a1] [] rfl rfl (Nat.le_of_ble_eq_true rfl) dX9_played_2 (fun o ho => kX9_isText l D ct A a1 s0 o ho) (fun r_1 s_2 => ?_)
  refine m_if_ne (tgt := 11) C dX9_played_5 rfl ?_ ?_
  · refine m_aload_n C dX9_played_11 rfl ?_
    refine m_get (v := .ref (A 5)) C fl_X9_37_8 rfl (by decide) rfl dX9_played_12 ?_
    refine m_iload_n C dX9_played_15 rfl ?_
    refine m_chk (fun h_3 => ?_)
    refine m_aald (cn := "DownByAHair$Script") C rfl rfl h_3 dX9_played_16 ?_
    refine m_letr (x := 48 + 5 * ix a1) (fun q_4 => ?_)
    refine m_chk (fun h_5 => ?_)
    refine m_astore_n (L2 := [(2, .ref (A q_4)), (0, .ref (A 0)), (1, .int a1)]) C dX9_played_17 rfl (by decide) rfl ?_
    refine m_iconst C dX9_played_18 ci_0 ?_
    refine m_istore_n (L2 := [(3, .int 0), (2, .ref (A q_4)), (0, .ref (A 0)), (1, .int a1)]) C dX9_played_19 rfl (by decide) rfl ?_
    refine m_loc (L2 := [(0, .ref (A 0)), (2, .ref (A q_4)), (3, .int 0)]) [2, 1, 0] rfl ?_
    exact wX9_played_20 C q_4 h_5 FU 0 s_2
  · refine m_bipush C dX9_played_8 cb_m2 ?_
    exact m_iret C dX9_played_10
def fX2_readStep (a1 : Int32) (s0 : Sg) : Option (Sg) :=
  bnv (fX7_advance s0) fun s_1 =>
  bv (fun (y_2 : Int32) => 
    bnd (fX2_takeNumber y_2 s_1) fun r_4 s_5 =>
    bv (fun (x3_6 : Int32) (s_7 : Sg) => 
      bnv (fX2_takeToken 16 s_7) fun s_9 =>
      bv (gr s_9 4 3) fun q_10 =>
      chk (isScr q_10) <|
      bnv (fX5_addClause q_10 a1 r_4 x3_6 s_9) fun s_12 =>
      some s_12)
    fun k_8 =>
    if a1 = 21 then
      bnv (fX2_takeToken 18 s_5) fun s_13 =>
      bnd (fX2_takeNumber 1 s_13) fun r_14 s_15 =>
      k_8 r_14 s_15
    else
      k_8 0 s_5)
  fun k_3 =>
  if a1 = 23 then
    k_3 99
  else
    k_3 11
theorem kX2_readStep (l : Launch) (D : va_G) (ct : Nat → ClassId) (A : Nat → Nat) (a1 : Int32) (s0 : Sg) (o : Sg) (ho : fX2_readStep a1 s0 = some o) : Con l yX2_readStep cX2_readStep 4 none 8 D ct A [.ref (A 4), .int a1] s0 (embV o) := by
  refine con_start (by decide +kernel) (Nat.le_of_ble_eq_true rfl) ho (fun p e s m args below meth c C => ?_)
  refine m_loc (L2 := [(0, .ref (A 4)), (1, .int a1)]) [0, 1] rfl ?_
  unfold fX2_readStep
  refine m_aload_n C dX2_readStep_0 rfl ?_
  refine m_get (v := .ref (A 3)) C fl_X2_22_2 rfl (by decide) rfl dX2_readStep_1 ?_
  refine m_callVV C ml_X2_69 ⟨Nat.le_of_ble_eq_true rfl, Nat.le_of_ble_eq_true rfl⟩ rfl rfl [] [] rfl rfl (Nat.le_of_ble_eq_true rfl) dX2_readStep_4 (fun o ho => kX7_advance l D ct A s0 o ho) (fun s_1 => ?_)
  refine m_aload_n C dX2_readStep_7 rfl ?_
  refine m_iload_n C dX2_readStep_8 rfl ?_
  refine m_bipush C dX2_readStep_9 cb_23 ?_
  refine m_jn (P := fun (k_3 : Int32 → Option (Sg)) => ∀ (y_2 : Int32), Wm p l e (rmD 8) s m args below meth c D ct A 4 embV 21 [(0, .ref (A 4)), (1, .int a1)] [.int y_2, .ref (A 4)] s_1 (k_3 y_2)) ?_ (fun k_3 hk_3 => ?_)
  · intro y_2
    refine m_callVI C ml_X2_72 ⟨Nat.le_of_ble_eq_true rfl, Nat.le_of_ble_eq_true rfl⟩ rfl rfl [.int y_2] [] rfl rfl (Nat.le_of_ble_eq_true rfl) dX2_readStep_21 (fun o ho => kX2_takeNumber l D ct A y_2 s_1 o ho) (fun r_4 s_5 => ?_)
    refine m_istore_n (L2 := [(2, .int r_4), (0, .ref (A 4)), (1, .int a1)]) C dX2_readStep_24 rfl (by decide) rfl ?_
    refine m_iconst C dX2_readStep_25 ci_0 ?_
    refine m_istore_n (L2 := [(3, .int 0), (2, .int r_4), (0, .ref (A 4)), (1, .int a1)]) C dX2_readStep_26 rfl (by decide) rfl ?_
    refine m_iload_n C dX2_readStep_27 rfl ?_
    refine m_bipush C dX2_readStep_28 cb_21 ?_
    refine m_jn (P := fun (k_8 : Int32 → Sg → Option (Sg)) => ∀ (x3_6 : Int32) (s_7 : Sg), Wm p l e (rmD 8) s m args below meth c D ct A 4 embV 45 [(0, .ref (A 4)), (1, .int a1), (2, .int r_4), (3, .int x3_6)] [] s_7 (k_8 x3_6 s_7)) ?_ (fun k_8 hk_8 => ?_)
    · intro x3_6 s_7
      refine m_aload_n C dX2_readStep_45 rfl ?_
      refine m_bipush C dX2_readStep_46 cb_16 ?_
      refine m_callVV C ml_X2_75 ⟨Nat.le_of_ble_eq_true rfl, Nat.le_of_ble_eq_true rfl⟩ rfl rfl [.int 16] [] rfl rfl (Nat.le_of_ble_eq_true rfl) dX2_readStep_48 (fun o ho => kX2_takeToken l D ct A 16 s_7 o ho) (fun s_9 => ?_)
      refine m_aload_n C dX2_readStep_51 rfl ?_
      refine m_get (v := rfv A (gr s_9 4 3)) C fl_X2_26_2 rfl (by decide) rfl dX2_readStep_52 ?_
      refine m_letn (fun q_10 => ?_)
      refine m_chk (fun h_11 => ?_)
      refine m_rf (isScr_ne h_11) ?_
      refine m_iload_n C dX2_readStep_55 rfl ?_
      refine m_iload_n C dX2_readStep_56 rfl ?_
      refine m_iload_n C dX2_readStep_57 rfl ?_
      refine m_callVV C ml_X2_78 ⟨Nat.le_of_ble_eq_true rfl, Nat.le_of_ble_eq_true rfl⟩ (lay_scr h_11) rfl [.int a1, .int r_4, .int x3_6] [] rfl rfl (Nat.le_of_ble_eq_true rfl) dX2_readStep_58 (fun o ho => kX5_addClause l D ct A q_10 a1 r_4 x3_6 h_11 s_9 o ho) (fun s_12 => ?_)
      exact m_vret C dX2_readStep_61
    refine m_icmp_ne (tgt := 45) C dX2_readStep_30 rfl ?_ ?_
    · refine m_loc (L2 := [(0, .ref (A 4)), (1, .int a1), (2, .int r_4), (3, .int 0)]) [2, 3, 1, 0] rfl ?_
      exact hk_8 0 s_5
    · refine m_aload_n C dX2_readStep_33 rfl ?_
      refine m_bipush C dX2_readStep_34 cb_18 ?_
      refine m_callVV C ml_X2_75 ⟨Nat.le_of_ble_eq_true rfl, Nat.le_of_ble_eq_true rfl⟩ rfl rfl [.int 18] [] rfl rfl (Nat.le_of_ble_eq_true rfl) dX2_readStep_36 (fun o ho => kX2_takeToken l D ct A 18 s_5 o ho) (fun s_13 => ?_)
      refine m_aload_n C dX2_readStep_39 rfl ?_
      refine m_iconst C dX2_readStep_40 ci_1 ?_
      refine m_callVI C ml_X2_72 ⟨Nat.le_of_ble_eq_true rfl, Nat.le_of_ble_eq_true rfl⟩ rfl rfl [.int 1] [] rfl rfl (Nat.le_of_ble_eq_true rfl) dX2_readStep_41 (fun o ho => kX2_takeNumber l D ct A 1 s_13 o ho) (fun r_14 s_15 => ?_)
      refine m_istore_n (L2 := [(3, .int r_14), (2, .int r_4), (0, .ref (A 4)), (1, .int a1)]) C dX2_readStep_44 rfl (by decide) rfl ?_
      refine m_loc (L2 := [(0, .ref (A 4)), (1, .int a1), (2, .int r_4), (3, .int r_14)]) [2, 3, 1, 0] rfl ?_
      exact hk_8 r_14 s_15
  refine m_icmp_ne (tgt := 19) C dX2_readStep_11 rfl ?_ ?_
  · refine m_bipush C dX2_readStep_19 cb_11 ?_
    refine m_loc (L2 := [(0, .ref (A 4)), (1, .int a1)]) [0, 1] rfl ?_
    exact hk_3 11
  · refine m_bipush C dX2_readStep_14 cb_99 ?_
    refine m_goto (tgt := 21) C dX2_readStep_16 rfl ?_
    refine m_loc (L2 := [(0, .ref (A 4)), (1, .int a1)]) [0, 1] rfl ?_
    exact hk_3 99
def fX2_read_31_b (k_9 : Sg → Option (Bool × Sg)) (rec31 : Int32 → Sg → Option (Bool × Sg)) (x2_10 : Int32) (s_11 : Sg) : Option (Bool × Sg) :=
  if 24 < x2_10 then
    k_9 s_11
  else
    if (gi s_11 4 4) = 0 then
      if (gi s_11 3 2) = 24 then
        k_9 s_11
      else
        bv (gi s_11 3 2) fun v_12 =>
        bnd (fX2_headFault v_12 s_11) fun r_13 s_14 =>
        bv (fun (s_15 : Sg) => 
          bv (x2_10 + 1) fun v_17 =>
          rec31 v_17 s_15)
        fun k_16 =>
        if r_13 = 0 then
          bv (
            bnv (fX2_readLaw v_12 s_14) fun s_19 =>
            k_16 s_19)
          fun k_18 =>
          if v_12 = 19 then
            k_18
          else
            if v_12 = 20 then
              k_18
            else
              bnv (fX2_readStep v_12 s_14) fun s_21 =>
              k_16 s_21
        else
          bnv (fX2_fail r_13 s_14) fun s_22 =>
          k_16 s_22
    else
      k_9 s_11
def fX2_read (a1 : Nat) (s0 : Sg) : Option (Bool × Sg) :=
  bv (sr s0 4 3 a1) fun s_1 =>
  bv (gr s_1 4 3) fun q_2 =>
  chk (isScr q_2) <|
  bnv (fX5_clear q_2 s_1) fun s_4 =>
  bv (si s_4 4 4 0) fun s_5 =>
  bv (si s_5 4 5 (-1)) fun s_6 =>
  bnv (fX7_begin s_6) fun s_7 =>
  bv (fun (s_8 : Sg) => 
    if (gi s_8 4 4) = 0 then
      some (true, s_8)
    else
      some (false, s_8))
  fun k_9 =>
  lo2 (fX2_read_31_b k_9) FU 0 s_7
theorem wX2_read_31 {p : Program} {l : Launch} {e : Env} {s : State} {m : MethodId} {args : Array Value} {below : List Frame} {meth : Method} {c : Code} {D : va_G} {ct : Nat → ClassId} {A : Nat → Nat} (C : Cx p m c cX2_read 5 s args yX2_read.cls meth (some .boolean) D ct A) (k_9 : Sg → Option (Bool × Sg)) (hk_9 : ∀ (s_8 : Sg), Wm p l e (rmD 9) s m args below meth c D ct A 5 embZ 116 [(0, .ref (A 4))] [] s_8 (k_9 s_8)) : ∀ (n : Nat) (x2_10 : Int32) (s_11 : Sg), Wm p l e (rmD 9) s m args below meth c D ct A 5 embZ 31 [(0, .ref (A 4)), (2, .int x2_10)] [] s_11 (lo2 (fX2_read_31_b k_9) n x2_10 s_11) := by
  intro n
  induction n with
  | zero => intro x2_10 s_11; exact m_none
  | succ n hrec31 =>
    intro x2_10 s_11
    refine (show Wm p l e (rmD 9) s m args below meth c D ct A 5 embZ 31 [(0, .ref (A 4)), (2, .int x2_10)] [] s_11 (fX2_read_31_b k_9 (lo2 (fX2_read_31_b k_9) n) x2_10 s_11) from ?_)
    generalize lo2 (fX2_read_31_b k_9) n = rec31 at hrec31 ⊢
    unfold fX2_read_31_b
    refine m_iload_n C dX2_read_31 rfl ?_
    refine m_bipush C dX2_read_32 cb_24 ?_
    refine m_icmp_gt (tgt := 116) C dX2_read_34 rfl ?_ ?_
    · refine m_loc (L2 := [(0, .ref (A 4))]) [0] rfl ?_
      exact hk_9 s_11
    · refine m_aload_n C dX2_read_37 rfl ?_
      refine m_get (v := .int (gi s_11 4 4)) C fl_X2_15_2 rfl (by decide) rfl dX2_read_38 ?_
      refine m_if_ne (tgt := 116) C dX2_read_41 rfl ?_ ?_
      · refine m_loc (L2 := [(0, .ref (A 4))]) [0] rfl ?_
        exact hk_9 s_11
      · refine m_aload_n C dX2_read_44 rfl ?_
        refine m_get (v := .ref (A 3)) C fl_X2_22_2 rfl (by decide) rfl dX2_read_45 ?_
        refine m_get (v := .int (gi s_11 3 2)) C fl_X2_40_7 rfl (by decide) rfl dX2_read_48 ?_
        refine m_bipush C dX2_read_51 cb_24 ?_
        refine m_icmp_eq (tgt := 116) C dX2_read_53 rfl ?_ ?_
        · refine m_loc (L2 := [(0, .ref (A 4))]) [0] rfl ?_
          exact hk_9 s_11
        · refine m_aload_n C dX2_read_56 rfl ?_
          refine m_get (v := .ref (A 3)) C fl_X2_22_2 rfl (by decide) rfl dX2_read_57 ?_
          refine m_get (v := .int (gi s_11 3 2)) C fl_X2_40_7 rfl (by decide) rfl dX2_read_60 ?_
          refine m_let (fun v_12 => ?_)
          refine m_istore_n (L2 := [(3, .int v_12), (0, .ref (A 4)), (2, .int x2_10)]) C dX2_read_63 rfl (by decide) rfl ?_
          refine m_aload_n C dX2_read_64 rfl ?_
          refine m_iload_n C dX2_read_65 rfl ?_
          refine m_callVI C ml_X2_43 ⟨Nat.le_of_ble_eq_true rfl, Nat.le_of_ble_eq_true rfl⟩ rfl rfl [.int v_12] [] rfl rfl (Nat.le_of_ble_eq_true rfl) dX2_read_66 (fun o ho => kX2_headFault l D ct A v_12 s_11 o ho) (fun r_13 s_14 => ?_)
          refine m_istore (L2 := [(4, .int r_13), (3, .int v_12), (0, .ref (A 4)), (2, .int x2_10)]) C dX2_read_69 (by decide) rfl ?_
          refine m_iload C dX2_read_71 rfl ?_
          refine m_jn (P := fun (k_16 : Sg → Option (Bool × Sg)) => ∀ (s_15 : Sg), Wm p l e (rmD 9) s m args below meth c D ct A 5 embZ 110 [(0, .ref (A 4)), (2, .int x2_10)] [] s_15 (k_16 s_15)) ?_ (fun k_16 hk_16 => ?_)
          · intro s_15
            refine m_iincb (L2 := fun v_17 => [(2, .int v_17), (0, .ref (A 4))]) (q := 1) C dX2_read_110 rfl ci_1 (by decide) (fun _ => rfl) (fun v_17 => ?_)
            refine m_goto (tgt := 31) C dX2_read_113 rfl ?_
            refine m_loc (L2 := [(0, .ref (A 4)), (2, .int v_17)]) [1, 0] rfl ?_
            exact hrec31 v_17 s_15
          refine m_if_eq (tgt := 85) C dX2_read_73 rfl ?_ ?_
          · refine m_iload_n C dX2_read_85 rfl ?_
            refine m_bipush C dX2_read_86 cb_19 ?_
            refine m_jn (P := fun (k_18 : Option (Bool × Sg)) => Wm p l e (rmD 9) s m args below meth c D ct A 5 embZ 97 [(0, .ref (A 4)), (2, .int x2_10), (3, .int v_12)] [] s_14 (k_18)) ?_ (fun k_18 hk_18 => ?_)
            · refine m_aload_n C dX2_read_97 rfl ?_
              refine m_iload_n C dX2_read_98 rfl ?_
              refine m_callVV C ml_X2_51 ⟨Nat.le_of_ble_eq_true rfl, Nat.le_of_ble_eq_true rfl⟩ rfl rfl [.int v_12] [] rfl rfl (Nat.le_of_ble_eq_true rfl) dX2_read_99 (fun o ho => kX2_readLaw l D ct A v_12 s_14 o ho) (fun s_19 => ?_)
              refine m_goto (tgt := 110) C dX2_read_102 rfl ?_
              refine m_loc (L2 := [(0, .ref (A 4)), (2, .int x2_10)]) [0, 1] rfl ?_
              exact hk_16 s_19
            refine m_icmp_eq (tgt := 97) C dX2_read_88 rfl ?_ ?_
            · refine m_loc (L2 := [(0, .ref (A 4)), (2, .int x2_10), (3, .int v_12)]) [2, 3, 1] rfl ?_
              exact hk_18
            · refine m_iload_n C dX2_read_91 rfl ?_
              refine m_bipush C dX2_read_92 cb_20 ?_
              refine m_icmp_ne (tgt := 105) C dX2_read_94 rfl ?_ ?_
              · refine m_aload_n C dX2_read_105 rfl ?_
                refine m_iload_n C dX2_read_106 rfl ?_
                refine m_callVV C ml_X2_54 ⟨Nat.le_of_ble_eq_true rfl, Nat.le_of_ble_eq_true rfl⟩ rfl rfl [.int v_12] [] rfl rfl (Nat.le_of_ble_eq_true rfl) dX2_read_107 (fun o ho => kX2_readStep l D ct A v_12 s_14 o ho) (fun s_21 => ?_)
                refine m_loc (L2 := [(0, .ref (A 4)), (2, .int x2_10)]) [2, 3] rfl ?_
                exact hk_16 s_21
              · refine m_loc (L2 := [(0, .ref (A 4)), (2, .int x2_10), (3, .int v_12)]) [2, 3, 1] rfl ?_
                exact hk_18
          · refine m_aload_n C dX2_read_76 rfl ?_
            refine m_iload C dX2_read_77 rfl ?_
            refine m_callVV C ml_X2_47 ⟨Nat.le_of_ble_eq_true rfl, Nat.le_of_ble_eq_true rfl⟩ rfl rfl [.int r_13] [] rfl rfl (Nat.le_of_ble_eq_true rfl) dX2_read_79 (fun o ho => kX2_fail l D ct A r_13 s_14 o ho) (fun s_22 => ?_)
            refine m_goto (tgt := 110) C dX2_read_82 rfl ?_
            refine m_loc (L2 := [(0, .ref (A 4)), (2, .int x2_10)]) [2, 3] rfl ?_
            exact hk_16 s_22
theorem kX2_read (l : Launch) (D : va_G) (ct : Nat → ClassId) (A : Nat → Nat) (a1 : Nat) (h_a1 : isScr a1 = true) (s0 : Sg) (o : Bool × Sg) (ho : fX2_read a1 s0 = some o) : Con l yX2_read cX2_read 5 (some .boolean) 9 D ct A [.ref (A 4), .ref (A a1)] s0 (embZ o) := by
  refine con_start (by decide +kernel) (Nat.le_of_ble_eq_true rfl) ho (fun p e s m args below meth c C => ?_)
  refine m_loc (L2 := [(0, .ref (A 4)), (1, .ref (A a1))]) [0, 1] rfl ?_
  unfold fX2_read
  refine m_aload_n C dX2_read_0 rfl ?_
  refine m_aload_n C dX2_read_1 rfl ?_
  refine m_fr (isScr_ne h_a1) ?_
  refine m_putr C fl_X2_26_2 fw_2_3 rfl (by decide) rfl dX2_read_2 (fun s_1 => ?_)
  refine m_aload_n C dX2_read_5 rfl ?_
  refine m_get (v := rfv A (gr s_1 4 3)) C fl_X2_26_2 rfl (by decide) rfl dX2_read_6 ?_
  refine m_letn (fun q_2 => ?_)
  refine m_chk (fun h_3 => ?_)
  refine m_rf (isScr_ne h_3) ?_
  refine m_callVV C ml_X2_30 ⟨Nat.le_of_ble_eq_true rfl, Nat.le_of_ble_eq_true rfl⟩ (lay_scr h_3) rfl [] [] rfl rfl (Nat.le_of_ble_eq_true rfl) dX2_read_9 (fun o ho => kX5_clear l D ct A q_2 h_3 s_1 o ho) (fun s_4 => ?_)
  refine m_aload_n C dX2_read_12 rfl ?_
  refine m_iconst C dX2_read_13 ci_0 ?_
  refine m_puti C fl_X2_15_2 fw_2_4 rfl (by decide) rfl dX2_read_14 (fun s_5 => ?_)
  refine m_aload_n C dX2_read_17 rfl ?_
  refine m_iconst C dX2_read_18 ci_m1 ?_
  refine m_puti C fl_X2_19_2 fw_2_5 rfl (by decide) rfl dX2_read_19 (fun s_6 => ?_)
  refine m_aload_n C dX2_read_22 rfl ?_
  refine m_get (v := .ref (A 3)) C fl_X2_22_2 rfl (by decide) rfl dX2_read_23 ?_
  refine m_callVV C ml_X2_35 ⟨Nat.le_of_ble_eq_true rfl, Nat.le_of_ble_eq_true rfl⟩ rfl rfl [] [] rfl rfl (Nat.le_of_ble_eq_true rfl) dX2_read_26 (fun o ho => kX7_begin l D ct A s_6 o ho) (fun s_7 => ?_)
  refine m_iconst C dX2_read_29 ci_0 ?_
  refine m_istore_n (L2 := [(2, .int 0), (0, .ref (A 4)), (1, .ref (A a1))]) C dX2_read_30 rfl (by decide) rfl ?_
  refine m_jn (P := fun (k_9 : Sg → Option (Bool × Sg)) => ∀ (s_8 : Sg), Wm p l e (rmD 9) s m args below meth c D ct A 5 embZ 116 [(0, .ref (A 4))] [] s_8 (k_9 s_8)) ?_ (fun k_9 hk_9 => ?_)
  · intro s_8
    refine m_aload_n C dX2_read_116 rfl ?_
    refine m_get (v := .int (gi s_8 4 4)) C fl_X2_15_2 rfl (by decide) rfl dX2_read_117 ?_
    refine m_if_ne (tgt := 127) C dX2_read_120 rfl ?_ ?_
    · refine m_iconst C dX2_read_127 ci_0 ?_
      exact m_zret C false rfl dX2_read_128
    · refine m_iconst C dX2_read_123 ci_1 ?_
      refine m_goto (tgt := 128) C dX2_read_124 rfl ?_
      exact m_zret C true rfl dX2_read_128
  refine m_loc (L2 := [(0, .ref (A 4)), (2, .int 0)]) [1, 0] rfl ?_
  exact wX2_read_31 C k_9 hk_9 FU 0 s_7
def fX9_text (s0 : Sg) : Option (Int32 × Sg) :=
  if (gi s0 1 11) < 4 then
    chk (inb 4 (gi s0 1 11)) <|
    bv (48 + 5 * ix (gi s0 1 11)) fun q_2 =>
    chk (isScr q_2) <|
    bnd (fX2_read q_2 s0) fun r_4 s_5 =>
    bv (si s_5 3 1 0) fun s_6 =>
    if (b2i r_4) = 0 then
      some ((-1), s_6)
    else
      bv (si s_6 1 11 ((gi s_6 1 11) + 1)) fun s_7 =>
      some ((gi s_7 1 11) - 1, s_7)
  else
    some ((-1), s0)
theorem kX9_text (l : Launch) (D : va_G) (ct : Nat → ClassId) (A : Nat → Nat) (s0 : Sg) (o : Int32 × Sg) (ho : fX9_text s0 = some o) : Con l yX9_text cX9_text 2 (some .int) 10 D ct A [.ref (A 0)] s0 (embI o) := by
  refine con_start (by decide +kernel) (Nat.le_of_ble_eq_true rfl) ho (fun p e s m args below meth c C => ?_)
  refine m_loc (L2 := [(0, .ref (A 0))]) [0] rfl ?_
  unfold fX9_text
  refine m_aload_n C dX9_text_0 rfl ?_
  refine m_get (v := .ref (A 1)) C fl_X9_10_8 rfl (by decide) rfl dX9_text_1 ?_
  refine m_get (v := .int (gi s0 1 11)) C fl_X9_103_6 rfl (by decide) rfl dX9_text_4 ?_
  refine m_iconst C dX9_text_7 ci_4 ?_
  refine m_icmp_lt (tgt := 13) C dX9_text_8 rfl ?_ ?_
  · refine m_aload_n C dX9_text_13 rfl ?_
    refine m_get (v := .ref (A 4)) C fl_X9_31_8 rfl (by decide) rfl dX9_text_14 ?_
    refine m_aload_n C dX9_text_17 rfl ?_
    refine m_get (v := .ref (A 5)) C fl_X9_37_8 rfl (by decide) rfl dX9_text_18 ?_
    refine m_aload_n C dX9_text_21 rfl ?_
    refine m_get (v := .ref (A 1)) C fl_X9_10_8 rfl (by decide) rfl dX9_text_22 ?_
    refine m_get (v := .int (gi s0 1 11)) C fl_X9_103_6 rfl (by decide) rfl dX9_text_25 ?_
    refine m_chk (fun h_1 => ?_)
    refine m_aald (cn := "DownByAHair$Script") C rfl rfl h_1 dX9_text_28 ?_
    refine m_letr (x := 48 + 5 * ix (gi s0 1 11)) (fun q_2 => ?_)
    refine m_chk (fun h_3 => ?_)
    refine m_callVZ C ml_X9_106 ⟨Nat.le_of_ble_eq_true rfl, Nat.le_of_ble_eq_true rfl⟩ rfl rfl [.ref (A q_2)] [] rfl rfl (Nat.le_of_ble_eq_true rfl) dX9_text_29 (fun o ho => kX2_read l D ct A q_2 h_3 s0 o ho) (fun r_4 s_5 => ?_)
    refine m_istore_n (L2 := [(1, .int (b2i r_4)), (0, .ref (A 0))]) C dX9_text_32 rfl (by decide) rfl ?_
    refine m_aload_n C dX9_text_33 rfl ?_
    refine m_get (v := .ref (A 3)) C fl_X9_22_8 rfl (by decide) rfl dX9_text_34 ?_
    refine m_iconst C dX9_text_37 ci_0 ?_
    refine m_puti C fl_X9_96_7 fw_7_1 rfl (by decide) rfl dX9_text_38 (fun s_6 => ?_)
    refine m_iload_n C dX9_text_41 rfl ?_
    refine m_if_ne (tgt := 47) C dX9_text_42 rfl ?_ ?_
    · refine m_aload_n C dX9_text_47 rfl ?_
      refine m_get (v := .ref (A 1)) C fl_X9_10_8 rfl (by decide) rfl dX9_text_48 ?_
      refine m_dup C dX9_text_51 rfl ?_
      refine m_get (v := .int (gi s_6 1 11)) C fl_X9_103_6 rfl (by decide) rfl dX9_text_52 ?_
      refine m_iconst C dX9_text_55 ci_1 ?_
      refine m_iadd C dX9_text_56 ?_
      refine m_puti C fl_X9_103_6 fw_6_11 rfl (by decide) rfl dX9_text_57 (fun s_7 => ?_)
      refine m_aload_n C dX9_text_60 rfl ?_
      refine m_get (v := .ref (A 1)) C fl_X9_10_8 rfl (by decide) rfl dX9_text_61 ?_
      refine m_get (v := .int (gi s_7 1 11)) C fl_X9_103_6 rfl (by decide) rfl dX9_text_64 ?_
      refine m_iconst C dX9_text_67 ci_1 ?_
      refine m_isub C dX9_text_68 ?_
      exact m_iret C dX9_text_69
    · refine m_iconst C dX9_text_45 ci_m1 ?_
      exact m_iret C dX9_text_46
  · refine m_iconst C dX9_text_11 ci_m1 ?_
    exact m_iret C dX9_text_12
