def fX10_isBarred (a1 : Int32) (s0 : Sg) : Option (Bool × Sg) :=
  if (gi s0 27 20) = 0 then
    if a1 ≤ 6 then
      some (false, s0)
    else
      some (true, s0)
  else
    bnd (fX10_isIn a1 3 6 s0) fun r_3 s_4 =>
    some (r_3, s_4)
theorem kX10_isBarred (l : Launch) (D : va_G) (ct : Nat → ClassId) (A : Nat → Nat) (a1 : Int32) (s0 : Sg) (o : Bool × Sg) (ho : fX10_isBarred a1 s0 = some o) : Con l yX10_isBarred cX10_isBarred 2 (some .boolean) 1 D ct A [.ref (A 27), .int a1] s0 (embZ o) := by
  refine con_start (by decide +kernel) (Nat.le_of_ble_eq_true rfl) ho (fun p e s m args below meth c C => ?_)
  refine m_loc (L2 := [(0, .ref (A 27)), (1, .int a1)]) [0, 1] rfl ?_
  unfold fX10_isBarred
  refine m_aload_n C dX10_isBarred_0 rfl ?_
  refine m_get (v := .int (gi s0 27 20)) C fl_X10_161_9 rfl (by decide) rfl dX10_isBarred_1 ?_
  refine m_if_ne (tgt := 21) C dX10_isBarred_4 rfl ?_ ?_
  · refine m_iload_n C dX10_isBarred_21 rfl ?_
    refine m_iconst C dX10_isBarred_22 ci_3 ?_
    refine m_bipush C dX10_isBarred_23 cb_6 ?_
    refine m_callSZ C ml_X10_83 ⟨Nat.le_of_ble_eq_true rfl, Nat.le_of_ble_eq_true rfl⟩ [.int a1, .int 3, .int 6] [] rfl rfl (Nat.le_of_ble_eq_true rfl) dX10_isBarred_25 (fun o ho => kX10_isIn l D ct A a1 3 6 s0 o ho) (fun r_3 s_4 => ?_)
    exact m_zret C r_3 rfl dX10_isBarred_28
  · refine m_iload_n C dX10_isBarred_7 rfl ?_
    refine m_bipush C dX10_isBarred_8 cb_6 ?_
    refine m_icmp_le (tgt := 17) C dX10_isBarred_10 rfl ?_ ?_
    · refine m_iconst C dX10_isBarred_17 ci_0 ?_
      refine m_goto (tgt := 28) C dX10_isBarred_18 rfl ?_
      exact m_zret C false rfl dX10_isBarred_28
    · refine m_iconst C dX10_isBarred_13 ci_1 ?_
      refine m_goto (tgt := 28) C dX10_isBarred_14 rfl ?_
      exact m_zret C true rfl dX10_isBarred_28
def fX10_beginOne (s0 : Sg) : Option (Int32 × Sg) :=
  if (gi s0 27 9) = 1 then
    if (gi s0 27 10) ≤ 9999 then
      bnv (fX10_emit 0 (gi s0 27 10) s0) fun s_17 =>
      bnv (fX10_nextToken s_17) fun s_18 =>
      bnv (fX10_whole s_18) fun s_19 =>
      some (0, s_19)
    else
      some (2, s0)
  else
    bnd (fX10_nameOf s0) fun r_1 s_2 =>
    if r_1 < 0 then
      bv (fun (y_3 : Int32) => 
        if y_3 = 0 then
          some (1, s_2)
        else
          if (gi s_2 27 18) = 8 then
            some (3, s_2)
          else
            bv (si s_2 27 18 ((gi s_2 27 18) + 1)) fun s_5 =>
            bnv (fX10_push y_3 s_5) fun s_6 =>
            bnv (fX10_nextToken s_6) fun s_7 =>
            some (0, s_7))
      fun k_4 =>
      if (gi s_2 27 9) = 40 then
        k_4 40
      else
        if (gi s_2 27 9) = 45 then
          k_4 2
        else
          k_4 0
    else
      bnd (fX10_nameOf s_2) fun r_8 s_9 =>
      bnd (fX10_isBarred r_8 s_9) fun r_10 s_11 =>
      if (b2i r_10) = 0 then
        bnd (fX10_nameOf s_11) fun r_12 s_13 =>
        bnv (fX10_emit 1 r_12 s_13) fun s_14 =>
        bnv (fX10_nextToken s_14) fun s_15 =>
        bnv (fX10_whole s_15) fun s_16 =>
        some (0, s_16)
      else
        some (5, s_11)
theorem kX10_beginOne (l : Launch) (D : va_G) (ct : Nat → ClassId) (A : Nat → Nat) (s0 : Sg) (o : Int32 × Sg) (ho : fX10_beginOne s0 = some o) : Con l yX10_beginOne cX10_beginOne 2 (some .int) 4 D ct A [.ref (A 27)] s0 (embI o) := by
  refine con_start (by decide +kernel) (Nat.le_of_ble_eq_true rfl) ho (fun p e s m args below meth c C => ?_)
  refine m_loc (L2 := [(0, .ref (A 27))]) [0] rfl ?_
  unfold fX10_beginOne
  refine m_aload_n C dX10_beginOne_0 rfl ?_
  refine m_get (v := .int (gi s0 27 9)) C fl_X10_107_9 rfl (by decide) rfl dX10_beginOne_1 ?_
  refine m_iconst C dX10_beginOne_4 ci_1 ?_
  refine m_icmp_ne (tgt := 39) C dX10_beginOne_5 rfl ?_ ?_
  · refine m_aload_n C dX10_beginOne_39 rfl ?_
    refine m_callVI C ml_X10_170 ⟨Nat.le_of_ble_eq_true rfl, Nat.le_of_ble_eq_true rfl⟩ rfl rfl [] [] rfl rfl (Nat.le_of_ble_eq_true rfl) dX10_beginOne_40 (fun o ho => kX10_nameOf l D ct A s0 o ho) (fun r_1 s_2 => ?_)
    refine m_if_lt (tgt := 78) C dX10_beginOne_43 rfl ?_ ?_
    · refine m_aload_n C dX10_beginOne_78 rfl ?_
      refine m_get (v := .int (gi s_2 27 9)) C fl_X10_107_9 rfl (by decide) rfl dX10_beginOne_79 ?_
      refine m_bipush C dX10_beginOne_82 cb_40 ?_
      refine m_jn (P := fun (k_4 : Int32 → Option (Int32 × Sg)) => ∀ (y_3 : Int32), Wm p l e (rmD 4) s m args below meth c D ct A 2 embI 106 [(0, .ref (A 27))] [.int y_3] s_2 (k_4 y_3)) ?_ (fun k_4 hk_4 => ?_)
      · intro y_3
        refine m_istore_n (L2 := [(1, .int y_3), (0, .ref (A 27))]) C dX10_beginOne_106 rfl (by decide) rfl ?_
        refine m_iload_n C dX10_beginOne_107 rfl ?_
        refine m_if_ne (tgt := 113) C dX10_beginOne_108 rfl ?_ ?_
        · refine m_aload_n C dX10_beginOne_113 rfl ?_
          refine m_get (v := .int (gi s_2 27 18)) C fl_X10_146_9 rfl (by decide) rfl dX10_beginOne_114 ?_
          refine m_bipush C dX10_beginOne_117 cb_8 ?_
          refine m_icmp_ne (tgt := 124) C dX10_beginOne_119 rfl ?_ ?_
          · refine m_aload_n C dX10_beginOne_124 rfl ?_
            refine m_dup C dX10_beginOne_125 rfl ?_
            refine m_get (v := .int (gi s_2 27 18)) C fl_X10_146_9 rfl (by decide) rfl dX10_beginOne_126 ?_
            refine m_iconst C dX10_beginOne_129 ci_1 ?_
            refine m_iadd C dX10_beginOne_130 ?_
            refine m_puti C fl_X10_146_9 fw_9_18 rfl (by decide) rfl dX10_beginOne_131 (fun s_5 => ?_)
            refine m_aload_n C dX10_beginOne_134 rfl ?_
            refine m_iload_n C dX10_beginOne_135 rfl ?_
            refine m_callVV C ml_X10_177 ⟨Nat.le_of_ble_eq_true rfl, Nat.le_of_ble_eq_true rfl⟩ rfl rfl [.int y_3] [] rfl rfl (Nat.le_of_ble_eq_true rfl) dX10_beginOne_136 (fun o ho => kX10_push l D ct A y_3 s_5 o ho) (fun s_6 => ?_)
            refine m_aload_n C dX10_beginOne_139 rfl ?_
            refine m_callVV C ml_X10_164 ⟨Nat.le_of_ble_eq_true rfl, Nat.le_of_ble_eq_true rfl⟩ rfl rfl [] [] rfl rfl (Nat.le_of_ble_eq_true rfl) dX10_beginOne_140 (fun o ho => kX10_nextToken l D ct A s_6 o ho) (fun s_7 => ?_)
            refine m_iconst C dX10_beginOne_143 ci_0 ?_
            exact m_iret C dX10_beginOne_144
          · refine m_iconst C dX10_beginOne_122 ci_3 ?_
            exact m_iret C dX10_beginOne_123
        · refine m_iconst C dX10_beginOne_111 ci_1 ?_
          exact m_iret C dX10_beginOne_112
      refine m_icmp_ne (tgt := 92) C dX10_beginOne_84 rfl ?_ ?_
      · refine m_aload_n C dX10_beginOne_92 rfl ?_
        refine m_get (v := .int (gi s_2 27 9)) C fl_X10_107_9 rfl (by decide) rfl dX10_beginOne_93 ?_
        refine m_bipush C dX10_beginOne_96 cb_45 ?_
        refine m_icmp_ne (tgt := 105) C dX10_beginOne_98 rfl ?_ ?_
        · refine m_iconst C dX10_beginOne_105 ci_0 ?_
          refine m_loc (L2 := [(0, .ref (A 27))]) [0] rfl ?_
          exact hk_4 0
        · refine m_iconst C dX10_beginOne_101 ci_2 ?_
          refine m_goto (tgt := 106) C dX10_beginOne_102 rfl ?_
          refine m_loc (L2 := [(0, .ref (A 27))]) [0] rfl ?_
          exact hk_4 2
      · refine m_bipush C dX10_beginOne_87 cb_40 ?_
        refine m_goto (tgt := 106) C dX10_beginOne_89 rfl ?_
        refine m_loc (L2 := [(0, .ref (A 27))]) [0] rfl ?_
        exact hk_4 40
    · refine m_aload_n C dX10_beginOne_46 rfl ?_
      refine m_aload_n C dX10_beginOne_47 rfl ?_
      refine m_callVI C ml_X10_170 ⟨Nat.le_of_ble_eq_true rfl, Nat.le_of_ble_eq_true rfl⟩ rfl rfl [] [.ref (A 27)] rfl rfl (Nat.le_of_ble_eq_true rfl) dX10_beginOne_48 (fun o ho => kX10_nameOf l D ct A s_2 o ho) (fun r_8 s_9 => ?_)
      refine m_callVZ C ml_X10_174 ⟨Nat.le_of_ble_eq_true rfl, Nat.le_of_ble_eq_true rfl⟩ rfl rfl [.int r_8] [] rfl rfl (Nat.le_of_ble_eq_true rfl) dX10_beginOne_51 (fun o ho => kX10_isBarred l D ct A r_8 s_9 o ho) (fun r_10 s_11 => ?_)
      refine m_if_eq (tgt := 59) C dX10_beginOne_54 rfl ?_ ?_
      · refine m_aload_n C dX10_beginOne_59 rfl ?_
        refine m_iconst C dX10_beginOne_60 ci_1 ?_
        refine m_aload_n C dX10_beginOne_61 rfl ?_
        refine m_callVI C ml_X10_170 ⟨Nat.le_of_ble_eq_true rfl, Nat.le_of_ble_eq_true rfl⟩ rfl rfl [] [.int 1, .ref (A 27)] rfl rfl (Nat.le_of_ble_eq_true rfl) dX10_beginOne_62 (fun o ho => kX10_nameOf l D ct A s_11 o ho) (fun r_12 s_13 => ?_)
        refine m_callVV C ml_X10_149 ⟨Nat.le_of_ble_eq_true rfl, Nat.le_of_ble_eq_true rfl⟩ rfl rfl [.int 1, .int r_12] [] rfl rfl (Nat.le_of_ble_eq_true rfl) dX10_beginOne_65 (fun o ho => kX10_emit l D ct A 1 r_12 s_13 o ho) (fun s_14 => ?_)
        refine m_aload_n C dX10_beginOne_68 rfl ?_
        refine m_callVV C ml_X10_164 ⟨Nat.le_of_ble_eq_true rfl, Nat.le_of_ble_eq_true rfl⟩ rfl rfl [] [] rfl rfl (Nat.le_of_ble_eq_true rfl) dX10_beginOne_69 (fun o ho => kX10_nextToken l D ct A s_14 o ho) (fun s_15 => ?_)
        refine m_aload_n C dX10_beginOne_72 rfl ?_
        refine m_callVV C ml_X10_167 ⟨Nat.le_of_ble_eq_true rfl, Nat.le_of_ble_eq_true rfl⟩ rfl rfl [] [] rfl rfl (Nat.le_of_ble_eq_true rfl) dX10_beginOne_73 (fun o ho => kX10_whole l D ct A s_15 o ho) (fun s_16 => ?_)
        refine m_iconst C dX10_beginOne_76 ci_0 ?_
        exact m_iret C dX10_beginOne_77
      · refine m_iconst C dX10_beginOne_57 ci_5 ?_
        exact m_iret C dX10_beginOne_58
  · refine m_aload_n C dX10_beginOne_8 rfl ?_
    refine m_get (v := .int (gi s0 27 10)) C fl_X10_114_9 rfl (by decide) rfl dX10_beginOne_9 ?_
    refine m_sipush C dX10_beginOne_12 cs_9999 ?_
    refine m_icmp_le (tgt := 20) C dX10_beginOne_15 rfl ?_ ?_
    · refine m_aload_n C dX10_beginOne_20 rfl ?_
      refine m_iconst C dX10_beginOne_21 ci_0 ?_
      refine m_aload_n C dX10_beginOne_22 rfl ?_
      refine m_get (v := .int (gi s0 27 10)) C fl_X10_114_9 rfl (by decide) rfl dX10_beginOne_23 ?_
      refine m_callVV C ml_X10_149 ⟨Nat.le_of_ble_eq_true rfl, Nat.le_of_ble_eq_true rfl⟩ rfl rfl [.int 0, .int (gi s0 27 10)] [] rfl rfl (Nat.le_of_ble_eq_true rfl) dX10_beginOne_26 (fun o ho => kX10_emit l D ct A 0 (gi s0 27 10) s0 o ho) (fun s_17 => ?_)
      refine m_aload_n C dX10_beginOne_29 rfl ?_
      refine m_callVV C ml_X10_164 ⟨Nat.le_of_ble_eq_true rfl, Nat.le_of_ble_eq_true rfl⟩ rfl rfl [] [] rfl rfl (Nat.le_of_ble_eq_true rfl) dX10_beginOne_30 (fun o ho => kX10_nextToken l D ct A s_17 o ho) (fun s_18 => ?_)
      refine m_aload_n C dX10_beginOne_33 rfl ?_
      refine m_callVV C ml_X10_167 ⟨Nat.le_of_ble_eq_true rfl, Nat.le_of_ble_eq_true rfl⟩ rfl rfl [] [] rfl rfl (Nat.le_of_ble_eq_true rfl) dX10_beginOne_34 (fun o ho => kX10_whole l D ct A s_18 o ho) (fun s_19 => ?_)
      refine m_iconst C dX10_beginOne_37 ci_0 ?_
      exact m_iret C dX10_beginOne_38
    · refine m_iconst C dX10_beginOne_18 ci_2 ?_
      exact m_iret C dX10_beginOne_19
def fX10_hasParen_2_b (s0 : Sg) (rec2 : Int32 → Option (Bool × Sg)) (x1_1 : Int32) : Option (Bool × Sg) :=
  if (gi s0 27 17) ≤ x1_1 then
    some (false, s0)
  else
    chk (inb 160 x1_1) <|
    if (gi s0 32 (ix x1_1)) = 40 then
      some (true, s0)
    else
      bv (x1_1 + 1) fun v_3 =>
      rec2 v_3
def fX10_hasParen (s0 : Sg) : Option (Bool × Sg) :=
  lo1 (fX10_hasParen_2_b s0) FU 0
theorem wX10_hasParen_2 {p : Program} {l : Launch} {e : Env} {s : State} {m : MethodId} {args : Array Value} {below : List Frame} {meth : Method} {c : Code} {D : va_G} {ct : Nat → ClassId} {A : Nat → Nat} (C : Cx p m c cX10_hasParen 2 s args yX10_hasParen.cls meth (some .boolean) D ct A) (s0 : Sg) : ∀ (n : Nat) (x1_1 : Int32), Wm p l e (rmD 0) s m args below meth c D ct A 2 embZ 2 [(0, .ref (A 27)), (1, .int x1_1)] [] s0 (lo1 (fX10_hasParen_2_b s0) n x1_1) := by
  intro n
  induction n with
  | zero => intro x1_1; exact m_none
  | succ n hrec2 =>
    intro x1_1
    refine (show Wm p l e (rmD 0) s m args below meth c D ct A 2 embZ 2 [(0, .ref (A 27)), (1, .int x1_1)] [] s0 (fX10_hasParen_2_b s0 (lo1 (fX10_hasParen_2_b s0) n) x1_1) from ?_)
    generalize lo1 (fX10_hasParen_2_b s0) n = rec2 at hrec2 ⊢
    unfold fX10_hasParen_2_b
    refine m_iload_n C dX10_hasParen_2 rfl ?_
    refine m_aload_n C dX10_hasParen_3 rfl ?_
    refine m_get (v := .int (gi s0 27 17)) C fl_X10_139_9 rfl (by decide) rfl dX10_hasParen_4 ?_
    refine m_icmp_ge (tgt := 29) C dX10_hasParen_7 rfl ?_ ?_
    · refine m_iconst C dX10_hasParen_29 ci_0 ?_
      exact m_zret C false rfl dX10_hasParen_30
    · refine m_aload_n C dX10_hasParen_10 rfl ?_
      refine m_get (v := .ref (A 32)) C fl_X10_29_9 rfl (by decide) rfl dX10_hasParen_11 ?_
      refine m_iload_n C dX10_hasParen_14 rfl ?_
      refine m_chk (fun h_2 => ?_)
      refine m_iald C rfl h_2 dX10_hasParen_15 ?_
      refine m_bipush C dX10_hasParen_16 cb_40 ?_
      refine m_icmp_ne (tgt := 23) C dX10_hasParen_18 rfl ?_ ?_
      · refine m_iincb (L2 := fun v_3 => [(1, .int v_3), (0, .ref (A 27))]) (q := 1) C dX10_hasParen_23 rfl ci_1 (by decide) (fun _ => rfl) (fun v_3 => ?_)
        refine m_goto (tgt := 2) C dX10_hasParen_26 rfl ?_
        refine m_loc (L2 := [(0, .ref (A 27)), (1, .int v_3)]) [1, 0] rfl ?_
        exact hrec2 v_3
      · refine m_iconst C dX10_hasParen_21 ci_1 ?_
        exact m_zret C true rfl dX10_hasParen_22
theorem kX10_hasParen (l : Launch) (D : va_G) (ct : Nat → ClassId) (A : Nat → Nat) (s0 : Sg) (o : Bool × Sg) (ho : fX10_hasParen s0 = some o) : Con l yX10_hasParen cX10_hasParen 2 (some .boolean) 0 D ct A [.ref (A 27)] s0 (embZ o) := by
  refine con_start (by decide +kernel) (Nat.le_of_ble_eq_true rfl) ho (fun p e s m args below meth c C => ?_)
  refine m_loc (L2 := [(0, .ref (A 27))]) [0] rfl ?_
  unfold fX10_hasParen
  refine m_iconst C dX10_hasParen_0 ci_0 ?_
  refine m_istore_n (L2 := [(1, .int 0), (0, .ref (A 27))]) C dX10_hasParen_1 rfl (by decide) rfl ?_
  refine m_loc (L2 := [(0, .ref (A 27)), (1, .int 0)]) [1, 0] rfl ?_
  exact wX10_hasParen_2 C s0 FU 0
def fX10_goesOn (s0 : Sg) : Option (Bool × Sg) :=
  if (gi s0 27 9) = 43 then
    some (true, s0)
  else
    if (gi s0 27 9) = 45 then
      some (true, s0)
    else
      if (gi s0 27 9) = 42 then
        some (true, s0)
      else
        if (gi s0 27 9) = 47 then
          some (true, s0)
        else
          if (gi s0 27 9) = 41 then
            bnd (fX10_hasParen s0) fun r_1 s_2 =>
            if (b2i r_1) = 0 then
              some (false, s_2)
            else
              some (true, s_2)
          else
            some (false, s0)
theorem kX10_goesOn (l : Launch) (D : va_G) (ct : Nat → ClassId) (A : Nat → Nat) (s0 : Sg) (o : Bool × Sg) (ho : fX10_goesOn s0 = some o) : Con l yX10_goesOn cX10_goesOn 1 (some .boolean) 1 D ct A [.ref (A 27)] s0 (embZ o) := by
  refine con_start (by decide +kernel) (Nat.le_of_ble_eq_true rfl) ho (fun p e s m args below meth c C => ?_)
  refine m_loc (L2 := [(0, .ref (A 27))]) [0] rfl ?_
  unfold fX10_goesOn
  refine m_aload_n C dX10_goesOn_0 rfl ?_
  refine m_get (v := .int (gi s0 27 9)) C fl_X10_107_9 rfl (by decide) rfl dX10_goesOn_1 ?_
  refine m_bipush C dX10_goesOn_4 cb_43 ?_
  refine m_icmp_eq (tgt := 52) C dX10_goesOn_6 rfl ?_ ?_
  · refine m_iconst C dX10_goesOn_52 ci_1 ?_
    refine m_goto (tgt := 57) C dX10_goesOn_53 rfl ?_
    exact m_zret C true rfl dX10_goesOn_57
  · refine m_aload_n C dX10_goesOn_9 rfl ?_
    refine m_get (v := .int (gi s0 27 9)) C fl_X10_107_9 rfl (by decide) rfl dX10_goesOn_10 ?_
    refine m_bipush C dX10_goesOn_13 cb_45 ?_
    refine m_icmp_eq (tgt := 52) C dX10_goesOn_15 rfl ?_ ?_
    · refine m_iconst C dX10_goesOn_52 ci_1 ?_
      refine m_goto (tgt := 57) C dX10_goesOn_53 rfl ?_
      exact m_zret C true rfl dX10_goesOn_57
    · refine m_aload_n C dX10_goesOn_18 rfl ?_
      refine m_get (v := .int (gi s0 27 9)) C fl_X10_107_9 rfl (by decide) rfl dX10_goesOn_19 ?_
      refine m_bipush C dX10_goesOn_22 cb_42 ?_
      refine m_icmp_eq (tgt := 52) C dX10_goesOn_24 rfl ?_ ?_
      · refine m_iconst C dX10_goesOn_52 ci_1 ?_
        refine m_goto (tgt := 57) C dX10_goesOn_53 rfl ?_
        exact m_zret C true rfl dX10_goesOn_57
      · refine m_aload_n C dX10_goesOn_27 rfl ?_
        refine m_get (v := .int (gi s0 27 9)) C fl_X10_107_9 rfl (by decide) rfl dX10_goesOn_28 ?_
        refine m_bipush C dX10_goesOn_31 cb_47 ?_
        refine m_icmp_eq (tgt := 52) C dX10_goesOn_33 rfl ?_ ?_
        · refine m_iconst C dX10_goesOn_52 ci_1 ?_
          refine m_goto (tgt := 57) C dX10_goesOn_53 rfl ?_
          exact m_zret C true rfl dX10_goesOn_57
        · refine m_aload_n C dX10_goesOn_36 rfl ?_
          refine m_get (v := .int (gi s0 27 9)) C fl_X10_107_9 rfl (by decide) rfl dX10_goesOn_37 ?_
          refine m_bipush C dX10_goesOn_40 cb_41 ?_
          refine m_icmp_ne (tgt := 56) C dX10_goesOn_42 rfl ?_ ?_
          · refine m_iconst C dX10_goesOn_56 ci_0 ?_
            exact m_zret C false rfl dX10_goesOn_57
          · refine m_aload_n C dX10_goesOn_45 rfl ?_
            refine m_callVZ C ml_X10_180 ⟨Nat.le_of_ble_eq_true rfl, Nat.le_of_ble_eq_true rfl⟩ rfl rfl [] [] rfl rfl (Nat.le_of_ble_eq_true rfl) dX10_goesOn_46 (fun o ho => kX10_hasParen l D ct A s0 o ho) (fun r_1 s_2 => ?_)
            refine m_if_eq (tgt := 56) C dX10_goesOn_49 rfl ?_ ?_
            · refine m_iconst C dX10_goesOn_56 ci_0 ?_
              exact m_zret C false rfl dX10_goesOn_57
            · refine m_iconst C dX10_goesOn_52 ci_1 ?_
              refine m_goto (tgt := 57) C dX10_goesOn_53 rfl ?_
              exact m_zret C true rfl dX10_goesOn_57
def fX10_behindOne (s0 : Sg) : Option (Int32 × Sg) :=
  bv (gi s0 27 9) fun v_1 =>
  bv (fun (s_2 : Sg) => 
    bnv (fX10_nextToken s_2) fun s_4 =>
    some (0, s_4))
  fun k_3 =>
  bv (
    bnv (fX10_settle 3 s0) fun s_6 =>
    bv (fun (y_7 : Int32) => 
      bnv (fX10_push y_7 s_6) fun s_9 =>
      bv (si s_9 27 19 (b2i false)) fun s_10 =>
      k_3 s_10)
    fun k_8 =>
    if v_1 = 43 then
      k_8 3
    else
      k_8 4)
  fun k_5 =>
  if v_1 = 43 then
    k_5
  else
    if v_1 = 45 then
      k_5
    else
      bv (
        bnv (fX10_settle 5 s0) fun s_12 =>
        bv (fun (y_13 : Int32) => 
          bnv (fX10_push y_13 s_12) fun s_15 =>
          bv (si s_15 27 19 (b2i false)) fun s_16 =>
          k_3 s_16)
        fun k_14 =>
        if v_1 = 42 then
          k_14 5
        else
          k_14 6)
      fun k_11 =>
      if v_1 = 42 then
        k_11
      else
        if v_1 = 47 then
          k_11
        else
          bnv (fX10_settle 3 s0) fun s_17 =>
          bv (si s_17 27 17 ((gi s_17 27 17) - 1)) fun s_18 =>
          bv (si s_18 27 18 ((gi s_18 27 18) - 1)) fun s_19 =>
          bnv (fX10_whole s_19) fun s_21 =>
          k_3 s_21
theorem kX10_behindOne (l : Launch) (D : va_G) (ct : Nat → ClassId) (A : Nat → Nat) (s0 : Sg) (o : Int32 × Sg) (ho : fX10_behindOne s0 = some o) : Con l yX10_behindOne cX10_behindOne 2 (some .int) 3 D ct A [.ref (A 27)] s0 (embI o) := by
  refine con_start (by decide +kernel) (Nat.le_of_ble_eq_true rfl) ho (fun p e s m args below meth c C => ?_)
  refine m_loc (L2 := [(0, .ref (A 27))]) [0] rfl ?_
  unfold fX10_behindOne
  refine m_aload_n C dX10_behindOne_0 rfl ?_
  refine m_get (v := .int (gi s0 27 9)) C fl_X10_107_9 rfl (by decide) rfl dX10_behindOne_1 ?_
  refine m_let (fun v_1 => ?_)
  refine m_istore_n (L2 := [(1, .int v_1), (0, .ref (A 27))]) C dX10_behindOne_4 rfl (by decide) rfl ?_
  refine m_iload_n C dX10_behindOne_5 rfl ?_
  refine m_bipush C dX10_behindOne_6 cb_43 ?_
  refine m_jn (P := fun (k_3 : Sg → Option (Int32 × Sg)) => ∀ (s_2 : Sg), Wm p l e (rmD 3) s m args below meth c D ct A 2 embI 115 [(0, .ref (A 27))] [] s_2 (k_3 s_2)) ?_ (fun k_3 hk_3 => ?_)
  · intro s_2
    refine m_aload_n C dX10_behindOne_115 rfl ?_
    refine m_callVV C ml_X10_164 ⟨Nat.le_of_ble_eq_true rfl, Nat.le_of_ble_eq_true rfl⟩ rfl rfl [] [] rfl rfl (Nat.le_of_ble_eq_true rfl) dX10_behindOne_116 (fun o ho => kX10_nextToken l D ct A s_2 o ho) (fun s_4 => ?_)
    refine m_iconst C dX10_behindOne_119 ci_0 ?_
    exact m_iret C dX10_behindOne_120
  refine m_jn (P := fun (k_5 : Option (Int32 × Sg)) => Wm p l e (rmD 3) s m args below meth c D ct A 2 embI 17 [(0, .ref (A 27)), (1, .int v_1)] [] s0 (k_5)) ?_ (fun k_5 hk_5 => ?_)
  · refine m_aload_n C dX10_behindOne_17 rfl ?_
    refine m_iconst C dX10_behindOne_18 ci_3 ?_
    refine m_callVV C ml_X10_184 ⟨Nat.le_of_ble_eq_true rfl, Nat.le_of_ble_eq_true rfl⟩ rfl rfl [.int 3] [] rfl rfl (Nat.le_of_ble_eq_true rfl) dX10_behindOne_19 (fun o ho => kX10_settle l D ct A 3 s0 o ho) (fun s_6 => ?_)
    refine m_aload_n C dX10_behindOne_22 rfl ?_
    refine m_iload_n C dX10_behindOne_23 rfl ?_
    refine m_bipush C dX10_behindOne_24 cb_43 ?_
    refine m_jn (P := fun (k_8 : Int32 → Option (Int32 × Sg)) => ∀ (y_7 : Int32), Wm p l e (rmD 3) s m args below meth c D ct A 2 embI 34 [(0, .ref (A 27))] [.int y_7, .ref (A 27)] s_6 (k_8 y_7)) ?_ (fun k_8 hk_8 => ?_)
    · intro y_7
      refine m_callVV C ml_X10_177 ⟨Nat.le_of_ble_eq_true rfl, Nat.le_of_ble_eq_true rfl⟩ rfl rfl [.int y_7] [] rfl rfl (Nat.le_of_ble_eq_true rfl) dX10_behindOne_34 (fun o ho => kX10_push l D ct A y_7 s_6 o ho) (fun s_9 => ?_)
      refine m_aload_n C dX10_behindOne_37 rfl ?_
      refine m_iconst C dX10_behindOne_38 ci_0 ?_
      refine m_putz C fl_X10_142_9 fw_9_19 rfl (by decide) rfl false rfl dX10_behindOne_39 (fun s_10 => ?_)
      refine m_goto (tgt := 115) C dX10_behindOne_42 rfl ?_
      refine m_loc (L2 := [(0, .ref (A 27))]) [0] rfl ?_
      exact hk_3 s_10
    refine m_icmp_ne (tgt := 33) C dX10_behindOne_26 rfl ?_ ?_
    · refine m_iconst C dX10_behindOne_33 ci_4 ?_
      refine m_loc (L2 := [(0, .ref (A 27))]) [0] rfl ?_
      exact hk_8 4
    · refine m_iconst C dX10_behindOne_29 ci_3 ?_
      refine m_goto (tgt := 34) C dX10_behindOne_30 rfl ?_
      refine m_loc (L2 := [(0, .ref (A 27))]) [0] rfl ?_
      exact hk_8 3
  refine m_icmp_eq (tgt := 17) C dX10_behindOne_8 rfl ?_ ?_
  · refine m_loc (L2 := [(0, .ref (A 27)), (1, .int v_1)]) [1, 0] rfl ?_
    exact hk_5
  · refine m_iload_n C dX10_behindOne_11 rfl ?_
    refine m_bipush C dX10_behindOne_12 cb_45 ?_
    refine m_icmp_ne (tgt := 45) C dX10_behindOne_14 rfl ?_ ?_
    · refine m_iload_n C dX10_behindOne_45 rfl ?_
      refine m_bipush C dX10_behindOne_46 cb_42 ?_
      refine m_jn (P := fun (k_11 : Option (Int32 × Sg)) => Wm p l e (rmD 3) s m args below meth c D ct A 2 embI 57 [(0, .ref (A 27)), (1, .int v_1)] [] s0 (k_11)) ?_ (fun k_11 hk_11 => ?_)
      · refine m_aload_n C dX10_behindOne_57 rfl ?_
        refine m_iconst C dX10_behindOne_58 ci_5 ?_
        refine m_callVV C ml_X10_184 ⟨Nat.le_of_ble_eq_true rfl, Nat.le_of_ble_eq_true rfl⟩ rfl rfl [.int 5] [] rfl rfl (Nat.le_of_ble_eq_true rfl) dX10_behindOne_59 (fun o ho => kX10_settle l D ct A 5 s0 o ho) (fun s_12 => ?_)
        refine m_aload_n C dX10_behindOne_62 rfl ?_
        refine m_iload_n C dX10_behindOne_63 rfl ?_
        refine m_bipush C dX10_behindOne_64 cb_42 ?_
        refine m_jn (P := fun (k_14 : Int32 → Option (Int32 × Sg)) => ∀ (y_13 : Int32), Wm p l e (rmD 3) s m args below meth c D ct A 2 embI 75 [(0, .ref (A 27))] [.int y_13, .ref (A 27)] s_12 (k_14 y_13)) ?_ (fun k_14 hk_14 => ?_)
        · intro y_13
          refine m_callVV C ml_X10_177 ⟨Nat.le_of_ble_eq_true rfl, Nat.le_of_ble_eq_true rfl⟩ rfl rfl [.int y_13] [] rfl rfl (Nat.le_of_ble_eq_true rfl) dX10_behindOne_75 (fun o ho => kX10_push l D ct A y_13 s_12 o ho) (fun s_15 => ?_)
          refine m_aload_n C dX10_behindOne_78 rfl ?_
          refine m_iconst C dX10_behindOne_79 ci_0 ?_
          refine m_putz C fl_X10_142_9 fw_9_19 rfl (by decide) rfl false rfl dX10_behindOne_80 (fun s_16 => ?_)
          refine m_goto (tgt := 115) C dX10_behindOne_83 rfl ?_
          refine m_loc (L2 := [(0, .ref (A 27))]) [0] rfl ?_
          exact hk_3 s_16
        refine m_icmp_ne (tgt := 73) C dX10_behindOne_66 rfl ?_ ?_
        · refine m_bipush C dX10_behindOne_73 cb_6 ?_
          refine m_loc (L2 := [(0, .ref (A 27))]) [0] rfl ?_
          exact hk_14 6
        · refine m_iconst C dX10_behindOne_69 ci_5 ?_
          refine m_goto (tgt := 75) C dX10_behindOne_70 rfl ?_
          refine m_loc (L2 := [(0, .ref (A 27))]) [0] rfl ?_
          exact hk_14 5
      refine m_icmp_eq (tgt := 57) C dX10_behindOne_48 rfl ?_ ?_
      · refine m_loc (L2 := [(0, .ref (A 27)), (1, .int v_1)]) [1, 0] rfl ?_
        exact hk_11
      · refine m_iload_n C dX10_behindOne_51 rfl ?_
        refine m_bipush C dX10_behindOne_52 cb_47 ?_
        refine m_icmp_ne (tgt := 86) C dX10_behindOne_54 rfl ?_ ?_
        · refine m_aload_n C dX10_behindOne_86 rfl ?_
          refine m_iconst C dX10_behindOne_87 ci_3 ?_
          refine m_callVV C ml_X10_184 ⟨Nat.le_of_ble_eq_true rfl, Nat.le_of_ble_eq_true rfl⟩ rfl rfl [.int 3] [] rfl rfl (Nat.le_of_ble_eq_true rfl) dX10_behindOne_88 (fun o ho => kX10_settle l D ct A 3 s0 o ho) (fun s_17 => ?_)
          refine m_aload_n C dX10_behindOne_91 rfl ?_
          refine m_dup C dX10_behindOne_92 rfl ?_
          refine m_get (v := .int (gi s_17 27 17)) C fl_X10_139_9 rfl (by decide) rfl dX10_behindOne_93 ?_
          refine m_iconst C dX10_behindOne_96 ci_1 ?_
          refine m_isub C dX10_behindOne_97 ?_
          refine m_puti C fl_X10_139_9 fw_9_17 rfl (by decide) rfl dX10_behindOne_98 (fun s_18 => ?_)
          refine m_aload_n C dX10_behindOne_101 rfl ?_
          refine m_dup C dX10_behindOne_102 rfl ?_
          refine m_get (v := .int (gi s_18 27 18)) C fl_X10_146_9 rfl (by decide) rfl dX10_behindOne_103 ?_
          refine m_iconst C dX10_behindOne_106 ci_1 ?_
          refine m_isub C dX10_behindOne_107 ?_
          refine m_puti C fl_X10_146_9 fw_9_18 rfl (by decide) rfl dX10_behindOne_108 (fun s_19 => ?_)
          refine m_aload_n C dX10_behindOne_111 rfl ?_
          refine m_callVV C ml_X10_167 ⟨Nat.le_of_ble_eq_true rfl, Nat.le_of_ble_eq_true rfl⟩ rfl rfl [] [] rfl rfl (Nat.le_of_ble_eq_true rfl) dX10_behindOne_112 (fun o ho => kX10_whole l D ct A s_19 o ho) (fun s_21 => ?_)
          refine m_loc (L2 := [(0, .ref (A 27))]) [1] rfl ?_
          exact hk_3 s_21
        · refine m_loc (L2 := [(0, .ref (A 27)), (1, .int v_1)]) [1, 0] rfl ?_
          exact hk_11
    · refine m_loc (L2 := [(0, .ref (A 27)), (1, .int v_1)]) [1, 0] rfl ?_
      exact hk_5
def fX10_summed_10_b (k_4 : Sg → Option (Int32 × Sg)) (rec10 : Sg → Option (Int32 × Sg)) (s_6 : Sg) : Option (Int32 × Sg) :=
  bv (fun (s_7 : Sg) => 
    bv (fun (y_9 : Int32) (s_10 : Sg) => 
      if y_9 = 0 then
        rec10 s_10
      else
        some (y_9, s_10))
    fun k_11 =>
    if (gi s_7 27 19) = 0 then
      bnd (fX10_beginOne s_7) fun r_14 s_15 =>
      k_11 r_14 s_15
    else
      bnd (fX10_behindOne s_7) fun r_16 s_17 =>
      k_11 r_16 s_17)
  fun k_8 =>
  if (gi s_6 27 19) = 0 then
    k_8 s_6
  else
    bnd (fX10_goesOn s_6) fun r_18 s_19 =>
    if (b2i r_18) = 0 then
      k_4 s_19
    else
      k_8 s_19
def fX10_summed (s0 : Sg) : Option (Int32 × Sg) :=
  bv (si s0 27 17 0) fun s_1 =>
  bv (si s_1 27 19 (b2i false)) fun s_2 =>
  bv (fun (s_3 : Sg) => 
    bnv (fX10_settle 3 s_3) fun s_5 =>
    if (gi s_5 27 17) ≤ 0 then
      some (0, s_5)
    else
      some (1, s_5))
  fun k_4 =>
  lo1 (fX10_summed_10_b k_4) FU s_2
theorem wX10_summed_10 {p : Program} {l : Launch} {e : Env} {s : State} {m : MethodId} {args : Array Value} {below : List Frame} {meth : Method} {c : Code} {D : va_G} {ct : Nat → ClassId} {A : Nat → Nat} (C : Cx p m c cX10_summed 2 s args yX10_summed.cls meth (some .int) D ct A) (k_4 : Sg → Option (Int32 × Sg)) (hk_4 : ∀ (s_3 : Sg), Wm p l e (rmD 5) s m args below meth c D ct A 2 embI 52 [(0, .ref (A 27))] [] s_3 (k_4 s_3)) : ∀ (n : Nat) (s_6 : Sg), Wm p l e (rmD 5) s m args below meth c D ct A 2 embI 10 [(0, .ref (A 27))] [] s_6 (lo1 (fX10_summed_10_b k_4) n s_6) := by
  intro n
  induction n with
  | zero => intro s_6; exact m_none
  | succ n hrec10 =>
    intro s_6
    refine (show Wm p l e (rmD 5) s m args below meth c D ct A 2 embI 10 [(0, .ref (A 27))] [] s_6 (fX10_summed_10_b k_4 (lo1 (fX10_summed_10_b k_4) n) s_6) from ?_)
    generalize lo1 (fX10_summed_10_b k_4) n = rec10 at hrec10 ⊢
    unfold fX10_summed_10_b
    refine m_aload_n C dX10_summed_10 rfl ?_
    refine m_get (v := .int (gi s_6 27 19)) C fl_X10_142_9 rfl (by decide) rfl dX10_summed_11 ?_
    refine m_jn (P := fun (k_8 : Sg → Option (Int32 × Sg)) => ∀ (s_7 : Sg), Wm p l e (rmD 5) s m args below meth c D ct A 2 embI 24 [(0, .ref (A 27))] [] s_7 (k_8 s_7)) ?_ (fun k_8 hk_8 => ?_)
    · intro s_7
      refine m_aload_n C dX10_summed_24 rfl ?_
      refine m_get (v := .int (gi s_7 27 19)) C fl_X10_142_9 rfl (by decide) rfl dX10_summed_25 ?_
      refine m_jn (P := fun (k_11 : Int32 → Sg → Option (Int32 × Sg)) => ∀ (y_9 : Int32) (s_10 : Sg), Wm p l e (rmD 5) s m args below meth c D ct A 2 embI 42 [(0, .ref (A 27))] [.int y_9] s_10 (k_11 y_9 s_10)) ?_ (fun k_11 hk_11 => ?_)
      · intro y_9 s_10
        refine m_istore_n (L2 := [(1, .int y_9), (0, .ref (A 27))]) C dX10_summed_42 rfl (by decide) rfl ?_
        refine m_iload_n C dX10_summed_43 rfl ?_
        refine m_if_eq (tgt := 49) C dX10_summed_44 rfl ?_ ?_
        · refine m_goto (tgt := 10) C dX10_summed_49 rfl ?_
          refine m_loc (L2 := [(0, .ref (A 27))]) [1] rfl ?_
          exact hrec10 s_10
        · refine m_iload_n C dX10_summed_47 rfl ?_
          exact m_iret C dX10_summed_48
      refine m_if_eq (tgt := 38) C dX10_summed_28 rfl ?_ ?_
      · refine m_aload_n C dX10_summed_38 rfl ?_
        refine m_callVI C ml_X10_193 ⟨Nat.le_of_ble_eq_true rfl, Nat.le_of_ble_eq_true rfl⟩ rfl rfl [] [] rfl rfl (Nat.le_of_ble_eq_true rfl) dX10_summed_39 (fun o ho => kX10_beginOne l D ct A s_7 o ho) (fun r_14 s_15 => ?_)
        refine m_loc (L2 := [(0, .ref (A 27))]) [0] rfl ?_
        exact hk_11 r_14 s_15
      · refine m_aload_n C dX10_summed_31 rfl ?_
        refine m_callVI C ml_X10_190 ⟨Nat.le_of_ble_eq_true rfl, Nat.le_of_ble_eq_true rfl⟩ rfl rfl [] [] rfl rfl (Nat.le_of_ble_eq_true rfl) dX10_summed_32 (fun o ho => kX10_behindOne l D ct A s_7 o ho) (fun r_16 s_17 => ?_)
        refine m_goto (tgt := 42) C dX10_summed_35 rfl ?_
        refine m_loc (L2 := [(0, .ref (A 27))]) [0] rfl ?_
        exact hk_11 r_16 s_17
    refine m_if_eq (tgt := 24) C dX10_summed_14 rfl ?_ ?_
    · refine m_loc (L2 := [(0, .ref (A 27))]) [0] rfl ?_
      exact hk_8 s_6
    · refine m_aload_n C dX10_summed_17 rfl ?_
      refine m_callVZ C ml_X10_187 ⟨Nat.le_of_ble_eq_true rfl, Nat.le_of_ble_eq_true rfl⟩ rfl rfl [] [] rfl rfl (Nat.le_of_ble_eq_true rfl) dX10_summed_18 (fun o ho => kX10_goesOn l D ct A s_6 o ho) (fun r_18 s_19 => ?_)
      refine m_if_eq (tgt := 52) C dX10_summed_21 rfl ?_ ?_
      · refine m_loc (L2 := [(0, .ref (A 27))]) [0] rfl ?_
        exact hk_4 s_19
      · refine m_loc (L2 := [(0, .ref (A 27))]) [0] rfl ?_
        exact hk_8 s_19
theorem kX10_summed (l : Launch) (D : va_G) (ct : Nat → ClassId) (A : Nat → Nat) (s0 : Sg) (o : Int32 × Sg) (ho : fX10_summed s0 = some o) : Con l yX10_summed cX10_summed 2 (some .int) 5 D ct A [.ref (A 27)] s0 (embI o) := by
  refine con_start (by decide +kernel) (Nat.le_of_ble_eq_true rfl) ho (fun p e s m args below meth c C => ?_)
  refine m_loc (L2 := [(0, .ref (A 27))]) [0] rfl ?_
  unfold fX10_summed
  refine m_aload_n C dX10_summed_0 rfl ?_
  refine m_iconst C dX10_summed_1 ci_0 ?_
  refine m_puti C fl_X10_139_9 fw_9_17 rfl (by decide) rfl dX10_summed_2 (fun s_1 => ?_)
  refine m_aload_n C dX10_summed_5 rfl ?_
  refine m_iconst C dX10_summed_6 ci_0 ?_
  refine m_putz C fl_X10_142_9 fw_9_19 rfl (by decide) rfl false rfl dX10_summed_7 (fun s_2 => ?_)
  refine m_jn (P := fun (k_4 : Sg → Option (Int32 × Sg)) => ∀ (s_3 : Sg), Wm p l e (rmD 5) s m args below meth c D ct A 2 embI 52 [(0, .ref (A 27))] [] s_3 (k_4 s_3)) ?_ (fun k_4 hk_4 => ?_)
  · intro s_3
    refine m_aload_n C dX10_summed_52 rfl ?_
    refine m_iconst C dX10_summed_53 ci_3 ?_
    refine m_callVV C ml_X10_184 ⟨Nat.le_of_ble_eq_true rfl, Nat.le_of_ble_eq_true rfl⟩ rfl rfl [.int 3] [] rfl rfl (Nat.le_of_ble_eq_true rfl) dX10_summed_54 (fun o ho => kX10_settle l D ct A 3 s_3 o ho) (fun s_5 => ?_)
    refine m_aload_n C dX10_summed_57 rfl ?_
    refine m_get (v := .int (gi s_5 27 17)) C fl_X10_139_9 rfl (by decide) rfl dX10_summed_58 ?_
    refine m_if_le (tgt := 68) C dX10_summed_61 rfl ?_ ?_
    · refine m_iconst C dX10_summed_68 ci_0 ?_
      exact m_iret C dX10_summed_69
    · refine m_iconst C dX10_summed_64 ci_1 ?_
      refine m_goto (tgt := 69) C dX10_summed_65 rfl ?_
      exact m_iret C dX10_summed_69
  refine m_loc (L2 := [(0, .ref (A 27))]) [0] rfl ?_
  exact wX10_summed_10 C k_4 hk_4 FU s_2
def fX10_compareOf (s0 : Sg) : Option (Int32 × Sg) :=
  if (gi s0 27 9) = 60 then
    some (10, s0)
  else
    if (gi s0 27 9) = 4 then
      some (11, s0)
    else
      if (gi s0 27 9) = 62 then
        some (12, s0)
      else
        if (gi s0 27 9) = 5 then
          some (13, s0)
        else
          if (gi s0 27 9) = 61 then
            some (14, s0)
          else
            if (gi s0 27 9) = 35 then
              some (15, s0)
            else
              some ((-1), s0)
theorem kX10_compareOf (l : Launch) (D : va_G) (ct : Nat → ClassId) (A : Nat → Nat) (s0 : Sg) (o : Int32 × Sg) (ho : fX10_compareOf s0 = some o) : Con l yX10_compareOf cX10_compareOf 1 (some .int) 0 D ct A [.ref (A 27)] s0 (embI o) := by
  refine con_start (by decide +kernel) (Nat.le_of_ble_eq_true rfl) ho (fun p e s m args below meth c C => ?_)
  refine m_loc (L2 := [(0, .ref (A 27))]) [0] rfl ?_
  unfold fX10_compareOf
  refine m_aload_n C dX10_compareOf_0 rfl ?_
  refine m_get (v := .int (gi s0 27 9)) C fl_X10_107_9 rfl (by decide) rfl dX10_compareOf_1 ?_
  refine m_bipush C dX10_compareOf_4 cb_60 ?_
  refine m_icmp_ne (tgt := 14) C dX10_compareOf_6 rfl ?_ ?_
  · refine m_aload_n C dX10_compareOf_14 rfl ?_
    refine m_get (v := .int (gi s0 27 9)) C fl_X10_107_9 rfl (by decide) rfl dX10_compareOf_15 ?_
    refine m_iconst C dX10_compareOf_18 ci_4 ?_
    refine m_icmp_ne (tgt := 27) C dX10_compareOf_19 rfl ?_ ?_
    · refine m_aload_n C dX10_compareOf_27 rfl ?_
      refine m_get (v := .int (gi s0 27 9)) C fl_X10_107_9 rfl (by decide) rfl dX10_compareOf_28 ?_
      refine m_bipush C dX10_compareOf_31 cb_62 ?_
      refine m_icmp_ne (tgt := 41) C dX10_compareOf_33 rfl ?_ ?_
      · refine m_aload_n C dX10_compareOf_41 rfl ?_
        refine m_get (v := .int (gi s0 27 9)) C fl_X10_107_9 rfl (by decide) rfl dX10_compareOf_42 ?_
        refine m_iconst C dX10_compareOf_45 ci_5 ?_
        refine m_icmp_ne (tgt := 54) C dX10_compareOf_46 rfl ?_ ?_
        · refine m_aload_n C dX10_compareOf_54 rfl ?_
          refine m_get (v := .int (gi s0 27 9)) C fl_X10_107_9 rfl (by decide) rfl dX10_compareOf_55 ?_
          refine m_bipush C dX10_compareOf_58 cb_61 ?_
          refine m_icmp_ne (tgt := 68) C dX10_compareOf_60 rfl ?_ ?_
          · refine m_aload_n C dX10_compareOf_68 rfl ?_
            refine m_get (v := .int (gi s0 27 9)) C fl_X10_107_9 rfl (by decide) rfl dX10_compareOf_69 ?_
            refine m_bipush C dX10_compareOf_72 cb_35 ?_
            refine m_icmp_ne (tgt := 82) C dX10_compareOf_74 rfl ?_ ?_
            · refine m_iconst C dX10_compareOf_82 ci_m1 ?_
              exact m_iret C dX10_compareOf_83
            · refine m_bipush C dX10_compareOf_77 cb_15 ?_
              refine m_goto (tgt := 83) C dX10_compareOf_79 rfl ?_
              exact m_iret C dX10_compareOf_83
          · refine m_bipush C dX10_compareOf_63 cb_14 ?_
            refine m_goto (tgt := 83) C dX10_compareOf_65 rfl ?_
            exact m_iret C dX10_compareOf_83
        · refine m_bipush C dX10_compareOf_49 cb_13 ?_
          refine m_goto (tgt := 83) C dX10_compareOf_51 rfl ?_
          exact m_iret C dX10_compareOf_83
      · refine m_bipush C dX10_compareOf_36 cb_12 ?_
        refine m_goto (tgt := 83) C dX10_compareOf_38 rfl ?_
        exact m_iret C dX10_compareOf_83
    · refine m_bipush C dX10_compareOf_22 cb_11 ?_
      refine m_goto (tgt := 83) C dX10_compareOf_24 rfl ?_
      exact m_iret C dX10_compareOf_83
  · refine m_bipush C dX10_compareOf_9 cb_10 ?_
    refine m_goto (tgt := 83) C dX10_compareOf_11 rfl ?_
    exact m_iret C dX10_compareOf_83
def fX10_asks_105_b (x1_1 : Int32) (rec105 : Int32 → Sg → Option (Int32 × Sg)) (x4_13 : Int32) (s_14 : Sg) : Option (Int32 × Sg) :=
  if x1_1 ≤ x4_13 then
    some (0, s_14)
  else
    bnv (fX10_emit 20 0 s_14) fun s_15 =>
    bv (x4_13 + 1) fun v_16 =>
    rec105 v_16 s_15
def fX10_asks_2_b (k_3 : Int32 → Sg → Option (Int32 × Sg)) (rec2 : Int32 → Sg → Option (Int32 × Sg)) (x1_17 : Int32) (s_18 : Sg) : Option (Int32 × Sg) :=
  bnd (fX10_w3 110 111 116 s_18) fun r_19 s_20 =>
  bnd (fX10_isWord r_19 s_20) fun r_21 s_22 =>
  if (b2i r_21) = 0 then
    k_3 x1_17 s_22
  else
    if (gi s_22 27 18) = 8 then
      some (3, s_22)
    else
      bv (si s_22 27 18 ((gi s_22 27 18) + 1)) fun s_23 =>
      bv (x1_17 + 1) fun v_24 =>
      bnv (fX10_nextToken s_23) fun s_25 =>
      rec2 v_24 s_25
def fX10_asks (s0 : Sg) : Option (Int32 × Sg) :=
  bv (fun (x1_1 : Int32) (s_2 : Sg) => 
    bnd (fX10_summed s_2) fun r_4 s_5 =>
    if r_4 = 0 then
      bnd (fX10_compareOf s_5) fun r_6 s_7 =>
      if 0 ≤ r_6 then
        bnv (fX10_nextToken s_7) fun s_8 =>
        bnd (fX10_summed s_8) fun r_9 s_10 =>
        if r_9 = 0 then
          bnv (fX10_emit r_6 0 s_10) fun s_11 =>
          bv (si s_11 27 18 ((gi s_11 27 18) - x1_1)) fun s_12 =>
          lo2 (fX10_asks_105_b x1_1) FU 0 s_12
        else
          some (r_9, s_10)
      else
        some (1, s_7)
    else
      some (r_4, s_5))
  fun k_3 =>
  lo2 (fX10_asks_2_b k_3) FU 0 s0
theorem wX10_asks_105 {p : Program} {l : Launch} {e : Env} {s : State} {m : MethodId} {args : Array Value} {below : List Frame} {meth : Method} {c : Code} {D : va_G} {ct : Nat → ClassId} {A : Nat → Nat} (C : Cx p m c cX10_asks 5 s args yX10_asks.cls meth (some .int) D ct A) (x1_1 : Int32) : ∀ (n : Nat) (x4_13 : Int32) (s_14 : Sg), Wm p l e (rmD 6) s m args below meth c D ct A 5 embI 105 [(0, .ref (A 27)), (1, .int x1_1), (4, .int x4_13)] [] s_14 (lo2 (fX10_asks_105_b x1_1) n x4_13 s_14) := by
  intro n
  induction n with
  | zero => intro x4_13 s_14; exact m_none
  | succ n hrec105 =>
    intro x4_13 s_14
    refine (show Wm p l e (rmD 6) s m args below meth c D ct A 5 embI 105 [(0, .ref (A 27)), (1, .int x1_1), (4, .int x4_13)] [] s_14 (fX10_asks_105_b x1_1 (lo2 (fX10_asks_105_b x1_1) n) x4_13 s_14) from ?_)
    generalize lo2 (fX10_asks_105_b x1_1) n = rec105 at hrec105 ⊢
    unfold fX10_asks_105_b
    refine m_iload C dX10_asks_105 rfl ?_
    refine m_iload_n C dX10_asks_107 rfl ?_
    refine m_icmp_ge (tgt := 124) C dX10_asks_108 rfl ?_ ?_
    · refine m_iconst C dX10_asks_124 ci_0 ?_
      exact m_iret C dX10_asks_125
    · refine m_aload_n C dX10_asks_111 rfl ?_
      refine m_bipush C dX10_asks_112 cb_20 ?_
      refine m_iconst C dX10_asks_114 ci_0 ?_
      refine m_callVV C ml_X10_149 ⟨Nat.le_of_ble_eq_true rfl, Nat.le_of_ble_eq_true rfl⟩ rfl rfl [.int 20, .int 0] [] rfl rfl (Nat.le_of_ble_eq_true rfl) dX10_asks_115 (fun o ho => kX10_emit l D ct A 20 0 s_14 o ho) (fun s_15 => ?_)
      refine m_iincb (L2 := fun v_16 => [(4, .int v_16), (0, .ref (A 27)), (1, .int x1_1)]) (q := 2) C dX10_asks_118 rfl ci_1 (by decide) (fun _ => rfl) (fun v_16 => ?_)
      refine m_goto (tgt := 105) C dX10_asks_121 rfl ?_
      refine m_loc (L2 := [(0, .ref (A 27)), (1, .int x1_1), (4, .int v_16)]) [1, 2, 0] rfl ?_
      exact hrec105 v_16 s_15
theorem wX10_asks_2 {p : Program} {l : Launch} {e : Env} {s : State} {m : MethodId} {args : Array Value} {below : List Frame} {meth : Method} {c : Code} {D : va_G} {ct : Nat → ClassId} {A : Nat → Nat} (C : Cx p m c cX10_asks 5 s args yX10_asks.cls meth (some .int) D ct A) (k_3 : Int32 → Sg → Option (Int32 × Sg)) (hk_3 : ∀ (x1_1 : Int32) (s_2 : Sg), Wm p l e (rmD 6) s m args below meth c D ct A 5 embI 49 [(0, .ref (A 27)), (1, .int x1_1)] [] s_2 (k_3 x1_1 s_2)) : ∀ (n : Nat) (x1_17 : Int32) (s_18 : Sg), Wm p l e (rmD 6) s m args below meth c D ct A 5 embI 2 [(0, .ref (A 27)), (1, .int x1_17)] [] s_18 (lo2 (fX10_asks_2_b k_3) n x1_17 s_18) := by
  intro n
  induction n with
  | zero => intro x1_17 s_18; exact m_none
  | succ n hrec2 =>
    intro x1_17 s_18
    refine (show Wm p l e (rmD 6) s m args below meth c D ct A 5 embI 2 [(0, .ref (A 27)), (1, .int x1_17)] [] s_18 (fX10_asks_2_b k_3 (lo2 (fX10_asks_2_b k_3) n) x1_17 s_18) from ?_)
    generalize lo2 (fX10_asks_2_b k_3) n = rec2 at hrec2 ⊢
    unfold fX10_asks_2_b
    refine m_aload_n C dX10_asks_2 rfl ?_
    refine m_bipush C dX10_asks_3 cb_110 ?_
    refine m_bipush C dX10_asks_5 cb_111 ?_
    refine m_bipush C dX10_asks_7 cb_116 ?_
    refine m_callSL C ml_X10_125 ⟨Nat.le_of_ble_eq_true rfl, Nat.le_of_ble_eq_true rfl⟩ [.int 110, .int 111, .int 116] [.ref (A 27)] rfl rfl (Nat.le_of_ble_eq_true rfl) dX10_asks_9 (fun o ho => kX10_w3 l D ct A 110 111 116 s_18 o ho) (fun r_19 s_20 => ?_)
    refine m_callVZ C ml_X10_196 ⟨Nat.le_of_ble_eq_true rfl, Nat.le_of_ble_eq_true rfl⟩ rfl rfl [.long r_19] [] rfl rfl (Nat.le_of_ble_eq_true rfl) dX10_asks_12 (fun o ho => kX10_isWord l D ct A r_19 s_20 o ho) (fun r_21 s_22 => ?_)
    refine m_if_eq (tgt := 49) C dX10_asks_15 rfl ?_ ?_
    · refine m_loc (L2 := [(0, .ref (A 27)), (1, .int x1_17)]) [0, 1] rfl ?_
      exact hk_3 x1_17 s_22
    · refine m_aload_n C dX10_asks_18 rfl ?_
      refine m_get (v := .int (gi s_22 27 18)) C fl_X10_146_9 rfl (by decide) rfl dX10_asks_19 ?_
      refine m_bipush C dX10_asks_22 cb_8 ?_
      refine m_icmp_ne (tgt := 29) C dX10_asks_24 rfl ?_ ?_
      · refine m_aload_n C dX10_asks_29 rfl ?_
        refine m_dup C dX10_asks_30 rfl ?_
        refine m_get (v := .int (gi s_22 27 18)) C fl_X10_146_9 rfl (by decide) rfl dX10_asks_31 ?_
        refine m_iconst C dX10_asks_34 ci_1 ?_
        refine m_iadd C dX10_asks_35 ?_
        refine m_puti C fl_X10_146_9 fw_9_18 rfl (by decide) rfl dX10_asks_36 (fun s_23 => ?_)
        refine m_iincb (L2 := fun v_24 => [(1, .int v_24), (0, .ref (A 27))]) (q := 1) C dX10_asks_39 rfl ci_1 (by decide) (fun _ => rfl) (fun v_24 => ?_)
        refine m_aload_n C dX10_asks_42 rfl ?_
        refine m_callVV C ml_X10_164 ⟨Nat.le_of_ble_eq_true rfl, Nat.le_of_ble_eq_true rfl⟩ rfl rfl [] [] rfl rfl (Nat.le_of_ble_eq_true rfl) dX10_asks_43 (fun o ho => kX10_nextToken l D ct A s_23 o ho) (fun s_25 => ?_)
        refine m_goto (tgt := 2) C dX10_asks_46 rfl ?_
        refine m_loc (L2 := [(0, .ref (A 27)), (1, .int v_24)]) [1, 0] rfl ?_
        exact hrec2 v_24 s_25
      · refine m_iconst C dX10_asks_27 ci_3 ?_
        exact m_iret C dX10_asks_28
theorem kX10_asks (l : Launch) (D : va_G) (ct : Nat → ClassId) (A : Nat → Nat) (s0 : Sg) (o : Int32 × Sg) (ho : fX10_asks s0 = some o) : Con l yX10_asks cX10_asks 5 (some .int) 6 D ct A [.ref (A 27)] s0 (embI o) := by
  refine con_start (by decide +kernel) (Nat.le_of_ble_eq_true rfl) ho (fun p e s m args below meth c C => ?_)
  refine m_loc (L2 := [(0, .ref (A 27))]) [0] rfl ?_
  unfold fX10_asks
  refine m_iconst C dX10_asks_0 ci_0 ?_
  refine m_istore_n (L2 := [(1, .int 0), (0, .ref (A 27))]) C dX10_asks_1 rfl (by decide) rfl ?_
  refine m_jn (P := fun (k_3 : Int32 → Sg → Option (Int32 × Sg)) => ∀ (x1_1 : Int32) (s_2 : Sg), Wm p l e (rmD 6) s m args below meth c D ct A 5 embI 49 [(0, .ref (A 27)), (1, .int x1_1)] [] s_2 (k_3 x1_1 s_2)) ?_ (fun k_3 hk_3 => ?_)
  · intro x1_1 s_2
    refine m_aload_n C dX10_asks_49 rfl ?_
    refine m_callVI C ml_X10_200 ⟨Nat.le_of_ble_eq_true rfl, Nat.le_of_ble_eq_true rfl⟩ rfl rfl [] [] rfl rfl (Nat.le_of_ble_eq_true rfl) dX10_asks_50 (fun o ho => kX10_summed l D ct A s_2 o ho) (fun r_4 s_5 => ?_)
    refine m_istore_n (L2 := [(2, .int r_4), (0, .ref (A 27)), (1, .int x1_1)]) C dX10_asks_53 rfl (by decide) rfl ?_
    refine m_iload_n C dX10_asks_54 rfl ?_
    refine m_if_eq (tgt := 60) C dX10_asks_55 rfl ?_ ?_
    · refine m_aload_n C dX10_asks_60 rfl ?_
      refine m_callVI C ml_X10_203 ⟨Nat.le_of_ble_eq_true rfl, Nat.le_of_ble_eq_true rfl⟩ rfl rfl [] [] rfl rfl (Nat.le_of_ble_eq_true rfl) dX10_asks_61 (fun o ho => kX10_compareOf l D ct A s_5 o ho) (fun r_6 s_7 => ?_)
      refine m_istore_n (L2 := [(3, .int r_6), (2, .int r_4), (0, .ref (A 27)), (1, .int x1_1)]) C dX10_asks_64 rfl (by decide) rfl ?_
      refine m_iload_n C dX10_asks_65 rfl ?_
      refine m_if_ge (tgt := 71) C dX10_asks_66 rfl ?_ ?_
      · refine m_aload_n C dX10_asks_71 rfl ?_
        refine m_callVV C ml_X10_164 ⟨Nat.le_of_ble_eq_true rfl, Nat.le_of_ble_eq_true rfl⟩ rfl rfl [] [] rfl rfl (Nat.le_of_ble_eq_true rfl) dX10_asks_72 (fun o ho => kX10_nextToken l D ct A s_7 o ho) (fun s_8 => ?_)
        refine m_aload_n C dX10_asks_75 rfl ?_
        refine m_callVI C ml_X10_200 ⟨Nat.le_of_ble_eq_true rfl, Nat.le_of_ble_eq_true rfl⟩ rfl rfl [] [] rfl rfl (Nat.le_of_ble_eq_true rfl) dX10_asks_76 (fun o ho => kX10_summed l D ct A s_8 o ho) (fun r_9 s_10 => ?_)
        refine m_istore_n (L2 := [(2, .int r_9), (3, .int r_6), (0, .ref (A 27)), (1, .int x1_1)]) C dX10_asks_79 rfl (by decide) rfl ?_
        refine m_iload_n C dX10_asks_80 rfl ?_
        refine m_if_eq (tgt := 86) C dX10_asks_81 rfl ?_ ?_
        · refine m_aload_n C dX10_asks_86 rfl ?_
          refine m_iload_n C dX10_asks_87 rfl ?_
          refine m_iconst C dX10_asks_88 ci_0 ?_
          refine m_callVV C ml_X10_149 ⟨Nat.le_of_ble_eq_true rfl, Nat.le_of_ble_eq_true rfl⟩ rfl rfl [.int r_6, .int 0] [] rfl rfl (Nat.le_of_ble_eq_true rfl) dX10_asks_89 (fun o ho => kX10_emit l D ct A r_6 0 s_10 o ho) (fun s_11 => ?_)
          refine m_aload_n C dX10_asks_92 rfl ?_
          refine m_dup C dX10_asks_93 rfl ?_
          refine m_get (v := .int (gi s_11 27 18)) C fl_X10_146_9 rfl (by decide) rfl dX10_asks_94 ?_
          refine m_iload_n C dX10_asks_97 rfl ?_
          refine m_isub C dX10_asks_98 ?_
          refine m_puti C fl_X10_146_9 fw_9_18 rfl (by decide) rfl dX10_asks_99 (fun s_12 => ?_)
          refine m_iconst C dX10_asks_102 ci_0 ?_
          refine m_istore (L2 := [(4, .int 0), (2, .int r_9), (3, .int r_6), (0, .ref (A 27)), (1, .int x1_1)]) C dX10_asks_103 (by decide) rfl ?_
          refine m_loc (L2 := [(0, .ref (A 27)), (1, .int x1_1), (4, .int 0)]) [3, 4, 0] rfl ?_
          exact wX10_asks_105 C x1_1 FU 0 s_12
        · refine m_iload_n C dX10_asks_84 rfl ?_
          exact m_iret C dX10_asks_85
      · refine m_iconst C dX10_asks_69 ci_1 ?_
        exact m_iret C dX10_asks_70
    · refine m_iload_n C dX10_asks_58 rfl ?_
      exact m_iret C dX10_asks_59
  refine m_loc (L2 := [(0, .ref (A 27)), (1, .int 0)]) [1, 0] rfl ?_
  exact wX10_asks_2 C k_3 hk_3 FU 0 s0
def fX10_either_6_b (rec6 : Bool → Bool → Bool → Sg → Option (Int32 × Sg)) (x1_1 : Bool) (x2_2 : Bool) (x3_3 : Bool) (s_4 : Sg) : Option (Int32 × Sg) :=
  if (b2i x3_3) = 0 then
    some (0, s_4)
  else
    bnd (fX10_asks s_4) fun r_5 s_6 =>
    if r_5 = 0 then
      bv (fun (s_7 : Sg) => 
        bnd (fX10_w3 97 110 100 s_7) fun r_9 s_10 =>
        bnd (fX10_isWord r_9 s_10) fun r_11 s_12 =>
        bv (fun (y_13 : Bool) => 
          bv (fun (x2_15 : Bool) (s_16 : Sg) => 
            bv (fun (y_18 : Bool) => 
              bv (fun (s_20 : Sg) => 
                rec6 r_11 x2_15 y_18 s_20)
              fun k_21 =>
              if (b2i y_18) = 0 then
                k_21 s_16
              else
                bnv (fX10_nextToken s_16) fun s_23 =>
                k_21 s_23)
            fun k_19 =>
            bv (
              k_19 true)
            fun k_24 =>
            if (b2i r_11) = 0 then
              if (b2i y_13) = 0 then
                k_19 false
              else
                k_24
            else
              k_24)
          fun k_17 =>
          if (b2i r_11) = 0 then
            bv (fun (s_25 : Sg) => 
              k_17 y_13 s_25)
            fun k_26 =>
            if (b2i x2_2) = 0 then
              k_26 s_12
            else
              bnv (fX10_emit 22 0 s_12) fun s_28 =>
              k_26 s_28
          else
            k_17 x2_2 s_12)
        fun k_14 =>
        bv (
          k_14 false)
        fun k_29 =>
        if (gi s_12 27 9) = 2 then
          if (lg_cmp (gl s_12 27 11) 28530) = 0 then
            k_14 true
          else
            k_29
        else
          k_29)
      fun k_8 =>
      if (b2i x1_1) = 0 then
        k_8 s_6
      else
        bnv (fX10_emit 21 0 s_6) fun s_31 =>
        k_8 s_31
    else
      some (r_5, s_6)
def fX10_either (s0 : Sg) : Option (Int32 × Sg) :=
  lo4 (fX10_either_6_b) FU false false true s0
theorem wX10_either_6 {p : Program} {l : Launch} {e : Env} {s : State} {m : MethodId} {args : Array Value} {below : List Frame} {meth : Method} {c : Code} {D : va_G} {ct : Nat → ClassId} {A : Nat → Nat} (C : Cx p m c cX10_either 6 s args yX10_either.cls meth (some .int) D ct A) : ∀ (n : Nat) (x1_1 : Bool) (x2_2 : Bool) (x3_3 : Bool) (s_4 : Sg), Wm p l e (rmD 7) s m args below meth c D ct A 6 embI 6 [(0, .ref (A 27)), (1, .int (b2i x1_1)), (2, .int (b2i x2_2)), (3, .int (b2i x3_3))] [] s_4 (lo4 (fX10_either_6_b) n x1_1 x2_2 x3_3 s_4) := by
  intro n
  induction n with
  | zero => intro x1_1 x2_2 x3_3 s_4; exact m_none
  | succ n hrec6 =>
    intro x1_1 x2_2 x3_3 s_4
    refine (show Wm p l e (rmD 7) s m args below meth c D ct A 6 embI 6 [(0, .ref (A 27)), (1, .int (b2i x1_1)), (2, .int (b2i x2_2)), (3, .int (b2i x3_3))] [] s_4 (fX10_either_6_b (lo4 (fX10_either_6_b) n) x1_1 x2_2 x3_3 s_4) from ?_)
    generalize lo4 (fX10_either_6_b) n = rec6 at hrec6 ⊢
    unfold fX10_either_6_b
    refine m_iload_n C dX10_either_6 rfl ?_
    refine m_if_eq (tgt := 119) C dX10_either_7 rfl ?_ ?_
    · refine m_iconst C dX10_either_119 ci_0 ?_
      exact m_iret C dX10_either_120
    · refine m_aload_n C dX10_either_10 rfl ?_
      refine m_callVI C ml_X10_206 ⟨Nat.le_of_ble_eq_true rfl, Nat.le_of_ble_eq_true rfl⟩ rfl rfl [] [] rfl rfl (Nat.le_of_ble_eq_true rfl) dX10_either_11 (fun o ho => kX10_asks l D ct A s_4 o ho) (fun r_5 s_6 => ?_)
      refine m_istore (L2 := [(4, .int r_5), (0, .ref (A 27)), (1, .int (b2i x1_1)), (2, .int (b2i x2_2)), (3, .int (b2i x3_3))]) C dX10_either_14 (by decide) rfl ?_
      refine m_iload C dX10_either_16 rfl ?_
      refine m_if_eq (tgt := 24) C dX10_either_18 rfl ?_ ?_
      · refine m_iload_n C dX10_either_24 rfl ?_
        refine m_jn (P := fun (k_8 : Sg → Option (Int32 × Sg)) => ∀ (s_7 : Sg), Wm p l e (rmD 7) s m args below meth c D ct A 6 embI 35 [(0, .ref (A 27)), (2, .int (b2i x2_2))] [] s_7 (k_8 s_7)) ?_ (fun k_8 hk_8 => ?_)
        · intro s_7
          refine m_aload_n C dX10_either_35 rfl ?_
          refine m_bipush C dX10_either_36 cb_97 ?_
          refine m_bipush C dX10_either_38 cb_110 ?_
          refine m_bipush C dX10_either_40 cb_100 ?_
          refine m_callSL C ml_X10_125 ⟨Nat.le_of_ble_eq_true rfl, Nat.le_of_ble_eq_true rfl⟩ [.int 97, .int 110, .int 100] [.ref (A 27)] rfl rfl (Nat.le_of_ble_eq_true rfl) dX10_either_42 (fun o ho => kX10_w3 l D ct A 97 110 100 s_7 o ho) (fun r_9 s_10 => ?_)
          refine m_callVZ C ml_X10_196 ⟨Nat.le_of_ble_eq_true rfl, Nat.le_of_ble_eq_true rfl⟩ rfl rfl [.long r_9] [] rfl rfl (Nat.le_of_ble_eq_true rfl) dX10_either_45 (fun o ho => kX10_isWord l D ct A r_9 s_10 o ho) (fun r_11 s_12 => ?_)
          refine m_istore_n (L2 := [(1, .int (b2i r_11)), (0, .ref (A 27)), (2, .int (b2i x2_2))]) C dX10_either_48 rfl (by decide) rfl ?_
          refine m_aload_n C dX10_either_49 rfl ?_
          refine m_get (v := .int (gi s_12 27 9)) C fl_X10_107_9 rfl (by decide) rfl dX10_either_50 ?_
          refine m_iconst C dX10_either_53 ci_2 ?_
          refine m_jn (P := fun (k_14 : Bool → Option (Int32 × Sg)) => ∀ (y_13 : Bool), Wm p l e (rmD 7) s m args below meth c D ct A 6 embI 73 [(0, .ref (A 27)), (1, .int (b2i r_11)), (2, .int (b2i x2_2))] [.int (b2i y_13)] s_12 (k_14 y_13)) ?_ (fun k_14 hk_14 => ?_)
          · intro y_13
            refine m_istore (L2 := [(5, .int (b2i y_13)), (0, .ref (A 27)), (1, .int (b2i r_11)), (2, .int (b2i x2_2))]) C dX10_either_73 (by decide) rfl ?_
            refine m_iload_n C dX10_either_75 rfl ?_
            refine m_jn (P := fun (k_17 : Bool → Sg → Option (Int32 × Sg)) => ∀ (x2_15 : Bool) (s_16 : Sg), Wm p l e (rmD 7) s m args below meth c D ct A 6 embI 93 [(0, .ref (A 27)), (1, .int (b2i r_11)), (2, .int (b2i x2_15)), (5, .int (b2i y_13))] [] s_16 (k_17 x2_15 s_16)) ?_ (fun k_17 hk_17 => ?_)
            · intro x2_15 s_16
              refine m_iload_n C dX10_either_93 rfl ?_
              refine m_jn (P := fun (k_19 : Bool → Option (Int32 × Sg)) => ∀ (y_18 : Bool), Wm p l e (rmD 7) s m args below meth c D ct A 6 embI 107 [(0, .ref (A 27)), (1, .int (b2i r_11)), (2, .int (b2i x2_15))] [.int (b2i y_18)] s_16 (k_19 y_18)) ?_ (fun k_19 hk_19 => ?_)
              · intro y_18
                refine m_istore_n (L2 := [(3, .int (b2i y_18)), (0, .ref (A 27)), (1, .int (b2i r_11)), (2, .int (b2i x2_15))]) C dX10_either_107 rfl (by decide) rfl ?_
                refine m_iload_n C dX10_either_108 rfl ?_
                refine m_jn (P := fun (k_21 : Sg → Option (Int32 × Sg)) => ∀ (s_20 : Sg), Wm p l e (rmD 7) s m args below meth c D ct A 6 embI 116 [(0, .ref (A 27)), (1, .int (b2i r_11)), (2, .int (b2i x2_15)), (3, .int (b2i y_18))] [] s_20 (k_21 s_20)) ?_ (fun k_21 hk_21 => ?_)
                · intro s_20
                  refine m_goto (tgt := 6) C dX10_either_116 rfl ?_
                  refine m_loc (L2 := [(0, .ref (A 27)), (1, .int (b2i r_11)), (2, .int (b2i x2_15)), (3, .int (b2i y_18))]) [0, 1, 2, 3] rfl ?_
                  exact hrec6 r_11 x2_15 y_18 s_20
                refine m_if_eq (tgt := 116) C dX10_either_109 rfl ?_ ?_
                · refine m_loc (L2 := [(0, .ref (A 27)), (1, .int (b2i r_11)), (2, .int (b2i x2_15)), (3, .int (b2i y_18))]) [1, 2, 3, 0] rfl ?_
                  exact hk_21 s_16
                · refine m_aload_n C dX10_either_112 rfl ?_
                  refine m_callVV C ml_X10_164 ⟨Nat.le_of_ble_eq_true rfl, Nat.le_of_ble_eq_true rfl⟩ rfl rfl [] [] rfl rfl (Nat.le_of_ble_eq_true rfl) dX10_either_113 (fun o ho => kX10_nextToken l D ct A s_16 o ho) (fun s_23 => ?_)
                  refine m_loc (L2 := [(0, .ref (A 27)), (1, .int (b2i r_11)), (2, .int (b2i x2_15)), (3, .int (b2i y_18))]) [1, 2, 3, 0] rfl ?_
                  exact hk_21 s_23
              refine m_jn (P := fun (k_24 : Option (Int32 × Sg)) => Wm p l e (rmD 7) s m args below meth c D ct A 6 embI 102 [(0, .ref (A 27)), (1, .int (b2i r_11)), (2, .int (b2i x2_15))] [] s_16 (k_24)) ?_ (fun k_24 hk_24 => ?_)
              · refine m_iconst C dX10_either_102 ci_1 ?_
                refine m_goto (tgt := 107) C dX10_either_103 rfl ?_
                refine m_loc (L2 := [(0, .ref (A 27)), (1, .int (b2i r_11)), (2, .int (b2i x2_15))]) [0, 1, 2] rfl ?_
                exact hk_19 true
              refine m_if_ne (tgt := 102) C dX10_either_94 rfl ?_ ?_
              · refine m_loc (L2 := [(0, .ref (A 27)), (1, .int (b2i r_11)), (2, .int (b2i x2_15))]) [0, 1, 2] rfl ?_
                exact hk_24
              · refine m_iload C dX10_either_97 rfl ?_
                refine m_if_eq (tgt := 106) C dX10_either_99 rfl ?_ ?_
                · refine m_iconst C dX10_either_106 ci_0 ?_
                  refine m_loc (L2 := [(0, .ref (A 27)), (1, .int (b2i r_11)), (2, .int (b2i x2_15))]) [0, 1, 2] rfl ?_
                  exact hk_19 false
                · refine m_loc (L2 := [(0, .ref (A 27)), (1, .int (b2i r_11)), (2, .int (b2i x2_15))]) [0, 1, 2] rfl ?_
                  exact hk_24
            refine m_if_ne (tgt := 93) C dX10_either_76 rfl ?_ ?_
            · refine m_loc (L2 := [(0, .ref (A 27)), (1, .int (b2i r_11)), (2, .int (b2i x2_2)), (5, .int (b2i y_13))]) [1, 2, 3, 0] rfl ?_
              exact hk_17 x2_2 s_12
            · refine m_iload_n C dX10_either_79 rfl ?_
              refine m_jn (P := fun (k_26 : Sg → Option (Int32 × Sg)) => ∀ (s_25 : Sg), Wm p l e (rmD 7) s m args below meth c D ct A 6 embI 90 [(0, .ref (A 27)), (1, .int (b2i r_11)), (5, .int (b2i y_13))] [] s_25 (k_26 s_25)) ?_ (fun k_26 hk_26 => ?_)
              · intro s_25
                refine m_iload C dX10_either_90 rfl ?_
                refine m_istore_n (L2 := [(2, .int (b2i y_13)), (0, .ref (A 27)), (1, .int (b2i r_11)), (5, .int (b2i y_13))]) C dX10_either_92 rfl (by decide) rfl ?_
                refine m_loc (L2 := [(0, .ref (A 27)), (1, .int (b2i r_11)), (2, .int (b2i y_13)), (5, .int (b2i y_13))]) [1, 2, 0, 3] rfl ?_
                exact hk_17 y_13 s_25
              refine m_if_eq (tgt := 90) C dX10_either_80 rfl ?_ ?_
              · refine m_loc (L2 := [(0, .ref (A 27)), (1, .int (b2i r_11)), (5, .int (b2i y_13))]) [1, 2, 0] rfl ?_
                exact hk_26 s_12
              · refine m_aload_n C dX10_either_83 rfl ?_
                refine m_bipush C dX10_either_84 cb_22 ?_
                refine m_iconst C dX10_either_86 ci_0 ?_
                refine m_callVV C ml_X10_149 ⟨Nat.le_of_ble_eq_true rfl, Nat.le_of_ble_eq_true rfl⟩ rfl rfl [.int 22, .int 0] [] rfl rfl (Nat.le_of_ble_eq_true rfl) dX10_either_87 (fun o ho => kX10_emit l D ct A 22 0 s_12 o ho) (fun s_28 => ?_)
                refine m_loc (L2 := [(0, .ref (A 27)), (1, .int (b2i r_11)), (5, .int (b2i y_13))]) [1, 2, 0] rfl ?_
                exact hk_26 s_28
          refine m_jn (P := fun (k_29 : Option (Int32 × Sg)) => Wm p l e (rmD 7) s m args below meth c D ct A 6 embI 72 [(0, .ref (A 27)), (1, .int (b2i r_11)), (2, .int (b2i x2_2))] [] s_12 (k_29)) ?_ (fun k_29 hk_29 => ?_)
          · refine m_iconst C dX10_either_72 ci_0 ?_
            refine m_loc (L2 := [(0, .ref (A 27)), (1, .int (b2i r_11)), (2, .int (b2i x2_2))]) [0, 1, 2] rfl ?_
            exact hk_14 false
          refine m_icmp_ne (tgt := 72) C dX10_either_54 rfl ?_ ?_
          · refine m_loc (L2 := [(0, .ref (A 27)), (1, .int (b2i r_11)), (2, .int (b2i x2_2))]) [1, 0, 2] rfl ?_
            exact hk_29
          · refine m_aload_n C dX10_either_57 rfl ?_
            refine m_get (v := .long (gl s_12 27 11)) C fl_X10_121_9 rfl (by decide) rfl dX10_either_58 ?_
            refine m_ldc2 C wd_1150 dX10_either_61 ?_
            refine m_lcmp C dX10_either_64 ?_
            refine m_if_ne (tgt := 72) C dX10_either_65 rfl ?_ ?_
            · refine m_loc (L2 := [(0, .ref (A 27)), (1, .int (b2i r_11)), (2, .int (b2i x2_2))]) [1, 0, 2] rfl ?_
              exact hk_29
            · refine m_iconst C dX10_either_68 ci_1 ?_
              refine m_goto (tgt := 73) C dX10_either_69 rfl ?_
              refine m_loc (L2 := [(0, .ref (A 27)), (1, .int (b2i r_11)), (2, .int (b2i x2_2))]) [1, 0, 2] rfl ?_
              exact hk_14 true
        refine m_if_eq (tgt := 35) C dX10_either_25 rfl ?_ ?_
        · refine m_loc (L2 := [(0, .ref (A 27)), (2, .int (b2i x2_2))]) [1, 3] rfl ?_
          exact hk_8 s_6
        · refine m_aload_n C dX10_either_28 rfl ?_
          refine m_bipush C dX10_either_29 cb_21 ?_
          refine m_iconst C dX10_either_31 ci_0 ?_
          refine m_callVV C ml_X10_149 ⟨Nat.le_of_ble_eq_true rfl, Nat.le_of_ble_eq_true rfl⟩ rfl rfl [.int 21, .int 0] [] rfl rfl (Nat.le_of_ble_eq_true rfl) dX10_either_32 (fun o ho => kX10_emit l D ct A 21 0 s_6 o ho) (fun s_31 => ?_)
          refine m_loc (L2 := [(0, .ref (A 27)), (2, .int (b2i x2_2))]) [1, 3] rfl ?_
          exact hk_8 s_31
      · refine m_iload C dX10_either_21 rfl ?_
        exact m_iret C dX10_either_23
theorem kX10_either (l : Launch) (D : va_G) (ct : Nat → ClassId) (A : Nat → Nat) (s0 : Sg) (o : Int32 × Sg) (ho : fX10_either s0 = some o) : Con l yX10_either cX10_either 6 (some .int) 7 D ct A [.ref (A 27)] s0 (embI o) := by
  refine con_start (by decide +kernel) (Nat.le_of_ble_eq_true rfl) ho (fun p e s m args below meth c C => ?_)
  refine m_loc (L2 := [(0, .ref (A 27))]) [0] rfl ?_
  unfold fX10_either
  refine m_iconst C dX10_either_0 ci_0 ?_
  refine m_istore_n (L2 := [(1, .int 0), (0, .ref (A 27))]) C dX10_either_1 rfl (by decide) rfl ?_
  refine m_iconst C dX10_either_2 ci_0 ?_
  refine m_istore_n (L2 := [(2, .int 0), (1, .int 0), (0, .ref (A 27))]) C dX10_either_3 rfl (by decide) rfl ?_
  refine m_iconst C dX10_either_4 ci_1 ?_
  refine m_istore_n (L2 := [(3, .int 1), (2, .int 0), (1, .int 0), (0, .ref (A 27))]) C dX10_either_5 rfl (by decide) rfl ?_
  refine m_loc (L2 := [(0, .ref (A 27)), (1, .int 0), (2, .int 0), (3, .int 1)]) [3, 2, 1, 0] rfl ?_
  exact wX10_either_6 C FU false false true s0
def fX10_sortOf (s0 : Sg) : Option (Int32 × Sg) :=
  bnd (fX10_w5 98 101 97 114 115 s0) fun r_1 s_2 =>
  bnd (fX10_isWord r_1 s_2) fun r_3 s_4 =>
  if (b2i r_3) = 0 then
    bnd (fX10_w4 115 97 102 101 s_4) fun r_5 s_6 =>
    bnd (fX10_isWord r_5 s_6) fun r_7 s_8 =>
    if (b2i r_7) = 0 then
      bnd (fX10_w3 112 117 116 s_8) fun r_9 s_10 =>
      bnd (fX10_isWord r_9 s_10) fun r_11 s_12 =>
      if (b2i r_11) = 0 then
        bnd (fX10_w4 116 97 107 101 s_12) fun r_13 s_14 =>
        bnd (fX10_isWord r_13 s_14) fun r_15 s_16 =>
        if (b2i r_15) = 0 then
          bnd (fX10_w4 119 97 105 116 s_16) fun r_17 s_18 =>
          bnd (fX10_isWord r_17 s_18) fun r_19 s_20 =>
          if (b2i r_19) = 0 then
            some ((-1), s_20)
          else
            some (4, s_20)
        else
          some (3, s_16)
      else
        some (2, s_12)
    else
      some (1, s_8)
  else
    some (0, s_4)
theorem kX10_sortOf (l : Launch) (D : va_G) (ct : Nat → ClassId) (A : Nat → Nat) (s0 : Sg) (o : Int32 × Sg) (ho : fX10_sortOf s0 = some o) : Con l yX10_sortOf cX10_sortOf 1 (some .int) 2 D ct A [.ref (A 27)] s0 (embI o) := by
  refine con_start (by decide +kernel) (Nat.le_of_ble_eq_true rfl) ho (fun p e s m args below meth c C => ?_)
  refine m_loc (L2 := [(0, .ref (A 27))]) [0] rfl ?_
  unfold fX10_sortOf
  refine m_aload_n C dX10_sortOf_0 rfl ?_
  refine m_bipush C dX10_sortOf_1 cb_98 ?_
  refine m_bipush C dX10_sortOf_3 cb_101 ?_
  refine m_bipush C dX10_sortOf_5 cb_97 ?_
  refine m_bipush C dX10_sortOf_7 cb_114 ?_
  refine m_bipush C dX10_sortOf_9 cb_115 ?_
  refine m_callSL C ml_X10_129 ⟨Nat.le_of_ble_eq_true rfl, Nat.le_of_ble_eq_true rfl⟩ [.int 98, .int 101, .int 97, .int 114, .int 115] [.ref (A 27)] rfl rfl (Nat.le_of_ble_eq_true rfl) dX10_sortOf_11 (fun o ho => kX10_w5 l D ct A 98 101 97 114 115 s0 o ho) (fun r_1 s_2 => ?_)
  refine m_callVZ C ml_X10_196 ⟨Nat.le_of_ble_eq_true rfl, Nat.le_of_ble_eq_true rfl⟩ rfl rfl [.long r_1] [] rfl rfl (Nat.le_of_ble_eq_true rfl) dX10_sortOf_14 (fun o ho => kX10_isWord l D ct A r_1 s_2 o ho) (fun r_3 s_4 => ?_)
  refine m_if_eq (tgt := 22) C dX10_sortOf_17 rfl ?_ ?_
  · refine m_aload_n C dX10_sortOf_22 rfl ?_
    refine m_bipush C dX10_sortOf_23 cb_115 ?_
    refine m_bipush C dX10_sortOf_25 cb_97 ?_
    refine m_bipush C dX10_sortOf_27 cb_102 ?_
    refine m_bipush C dX10_sortOf_29 cb_101 ?_
    refine m_callSL C ml_X10_153 ⟨Nat.le_of_ble_eq_true rfl, Nat.le_of_ble_eq_true rfl⟩ [.int 115, .int 97, .int 102, .int 101] [.ref (A 27)] rfl rfl (Nat.le_of_ble_eq_true rfl) dX10_sortOf_31 (fun o ho => kX10_w4 l D ct A 115 97 102 101 s_4 o ho) (fun r_5 s_6 => ?_)
    refine m_callVZ C ml_X10_196 ⟨Nat.le_of_ble_eq_true rfl, Nat.le_of_ble_eq_true rfl⟩ rfl rfl [.long r_5] [] rfl rfl (Nat.le_of_ble_eq_true rfl) dX10_sortOf_34 (fun o ho => kX10_isWord l D ct A r_5 s_6 o ho) (fun r_7 s_8 => ?_)
    refine m_if_eq (tgt := 42) C dX10_sortOf_37 rfl ?_ ?_
    · refine m_aload_n C dX10_sortOf_42 rfl ?_
      refine m_bipush C dX10_sortOf_43 cb_112 ?_
      refine m_bipush C dX10_sortOf_45 cb_117 ?_
      refine m_bipush C dX10_sortOf_47 cb_116 ?_
      refine m_callSL C ml_X10_125 ⟨Nat.le_of_ble_eq_true rfl, Nat.le_of_ble_eq_true rfl⟩ [.int 112, .int 117, .int 116] [.ref (A 27)] rfl rfl (Nat.le_of_ble_eq_true rfl) dX10_sortOf_49 (fun o ho => kX10_w3 l D ct A 112 117 116 s_8 o ho) (fun r_9 s_10 => ?_)
      refine m_callVZ C ml_X10_196 ⟨Nat.le_of_ble_eq_true rfl, Nat.le_of_ble_eq_true rfl⟩ rfl rfl [.long r_9] [] rfl rfl (Nat.le_of_ble_eq_true rfl) dX10_sortOf_52 (fun o ho => kX10_isWord l D ct A r_9 s_10 o ho) (fun r_11 s_12 => ?_)
      refine m_if_eq (tgt := 60) C dX10_sortOf_55 rfl ?_ ?_
      · refine m_aload_n C dX10_sortOf_60 rfl ?_
        refine m_bipush C dX10_sortOf_61 cb_116 ?_
        refine m_bipush C dX10_sortOf_63 cb_97 ?_
        refine m_bipush C dX10_sortOf_65 cb_107 ?_
        refine m_bipush C dX10_sortOf_67 cb_101 ?_
        refine m_callSL C ml_X10_153 ⟨Nat.le_of_ble_eq_true rfl, Nat.le_of_ble_eq_true rfl⟩ [.int 116, .int 97, .int 107, .int 101] [.ref (A 27)] rfl rfl (Nat.le_of_ble_eq_true rfl) dX10_sortOf_69 (fun o ho => kX10_w4 l D ct A 116 97 107 101 s_12 o ho) (fun r_13 s_14 => ?_)
        refine m_callVZ C ml_X10_196 ⟨Nat.le_of_ble_eq_true rfl, Nat.le_of_ble_eq_true rfl⟩ rfl rfl [.long r_13] [] rfl rfl (Nat.le_of_ble_eq_true rfl) dX10_sortOf_72 (fun o ho => kX10_isWord l D ct A r_13 s_14 o ho) (fun r_15 s_16 => ?_)
        refine m_if_eq (tgt := 82) C dX10_sortOf_75 rfl ?_ ?_
        · refine m_aload_n C dX10_sortOf_82 rfl ?_
          refine m_bipush C dX10_sortOf_83 cb_119 ?_
          refine m_bipush C dX10_sortOf_85 cb_97 ?_
          refine m_bipush C dX10_sortOf_87 cb_105 ?_
          refine m_bipush C dX10_sortOf_89 cb_116 ?_
          refine m_callSL C ml_X10_153 ⟨Nat.le_of_ble_eq_true rfl, Nat.le_of_ble_eq_true rfl⟩ [.int 119, .int 97, .int 105, .int 116] [.ref (A 27)] rfl rfl (Nat.le_of_ble_eq_true rfl) dX10_sortOf_91 (fun o ho => kX10_w4 l D ct A 119 97 105 116 s_16 o ho) (fun r_17 s_18 => ?_)
          refine m_callVZ C ml_X10_196 ⟨Nat.le_of_ble_eq_true rfl, Nat.le_of_ble_eq_true rfl⟩ rfl rfl [.long r_17] [] rfl rfl (Nat.le_of_ble_eq_true rfl) dX10_sortOf_94 (fun o ho => kX10_isWord l D ct A r_17 s_18 o ho) (fun r_19 s_20 => ?_)
          refine m_if_eq (tgt := 104) C dX10_sortOf_97 rfl ?_ ?_
          · refine m_iconst C dX10_sortOf_104 ci_m1 ?_
            exact m_iret C dX10_sortOf_105
          · refine m_iconst C dX10_sortOf_100 ci_4 ?_
            refine m_goto (tgt := 105) C dX10_sortOf_101 rfl ?_
            exact m_iret C dX10_sortOf_105
        · refine m_iconst C dX10_sortOf_78 ci_3 ?_
          refine m_goto (tgt := 105) C dX10_sortOf_79 rfl ?_
          exact m_iret C dX10_sortOf_105
      · refine m_iconst C dX10_sortOf_58 ci_2 ?_
        exact m_iret C dX10_sortOf_59
    · refine m_iconst C dX10_sortOf_40 ci_1 ?_
      exact m_iret C dX10_sortOf_41
  · refine m_iconst C dX10_sortOf_20 ci_0 ?_
    exact m_iret C dX10_sortOf_21
def fX10_figure (a1 : Int32) (a2 : Int32) (s0 : Sg) : Option (Int32 × Sg) :=
  if (gi s0 27 9) = 1 then
    if (gi s0 27 10) ≤ a2 then
      chk (inb 2720 a1) <|
      bv (si s0 30 (ix a1) (gi s0 27 10)) fun s_2 =>
      bnv (fX10_nextToken s_2) fun s_3 =>
      some (0, s_3)
    else
      some (2, s0)
  else
    some (1, s0)
theorem kX10_figure (l : Launch) (D : va_G) (ct : Nat → ClassId) (A : Nat → Nat) (a1 : Int32) (a2 : Int32) (s0 : Sg) (o : Int32 × Sg) (ho : fX10_figure a1 a2 s0 = some o) : Con l yX10_figure cX10_figure 3 (some .int) 3 D ct A [.ref (A 27), .int a1, .int a2] s0 (embI o) := by
  refine con_start (by decide +kernel) (Nat.le_of_ble_eq_true rfl) ho (fun p e s m args below meth c C => ?_)
  refine m_loc (L2 := [(0, .ref (A 27)), (1, .int a1), (2, .int a2)]) [0, 1, 2] rfl ?_
  unfold fX10_figure
  refine m_aload_n C dX10_figure_0 rfl ?_
  refine m_get (v := .int (gi s0 27 9)) C fl_X10_107_9 rfl (by decide) rfl dX10_figure_1 ?_
  refine m_iconst C dX10_figure_4 ci_1 ?_
  refine m_icmp_eq (tgt := 10) C dX10_figure_5 rfl ?_ ?_
  · refine m_aload_n C dX10_figure_10 rfl ?_
    refine m_get (v := .int (gi s0 27 10)) C fl_X10_114_9 rfl (by decide) rfl dX10_figure_11 ?_
    refine m_iload_n C dX10_figure_14 rfl ?_
    refine m_icmp_le (tgt := 20) C dX10_figure_15 rfl ?_ ?_
    · refine m_aload_n C dX10_figure_20 rfl ?_
      refine m_get (v := .ref (A 30)) C fl_X10_16_9 rfl (by decide) rfl dX10_figure_21 ?_
      refine m_iload_n C dX10_figure_24 rfl ?_
      refine m_aload_n C dX10_figure_25 rfl ?_
      refine m_get (v := .int (gi s0 27 10)) C fl_X10_114_9 rfl (by decide) rfl dX10_figure_26 ?_
      refine m_chk (fun h_1 => ?_)
      refine m_iast C rfl h_1 dX10_figure_29 (fun s_2 => ?_)
      refine m_aload_n C dX10_figure_30 rfl ?_
      refine m_callVV C ml_X10_164 ⟨Nat.le_of_ble_eq_true rfl, Nat.le_of_ble_eq_true rfl⟩ rfl rfl [] [] rfl rfl (Nat.le_of_ble_eq_true rfl) dX10_figure_31 (fun o ho => kX10_nextToken l D ct A s_2 o ho) (fun s_3 => ?_)
      refine m_iconst C dX10_figure_34 ci_0 ?_
      exact m_iret C dX10_figure_35
    · refine m_iconst C dX10_figure_18 ci_2 ?_
      exact m_iret C dX10_figure_19
  · refine m_iconst C dX10_figure_8 ci_1 ?_
    exact m_iret C dX10_figure_9
def fX10_laid (a1 : Int32) (s0 : Sg) : Option (Int32 × Sg) :=
  bnd (fX10_figure (a1 + 1) 11 s0) fun r_1 s_2 =>
  if r_1 = 0 then
    if (gi s_2 27 9) = 2 then
      if (lg_cmp (gl s_2 27 11) 28526) = 0 then
        bnv (fX10_nextToken s_2) fun s_3 =>
        bnd (fX10_figure (a1 + 2) 1 s_3) fun r_4 s_5 =>
        some (r_4, s_5)
      else
        some (1, s_2)
    else
      some (1, s_2)
  else
    some (r_1, s_2)
theorem kX10_laid (l : Launch) (D : va_G) (ct : Nat → ClassId) (A : Nat → Nat) (a1 : Int32) (s0 : Sg) (o : Int32 × Sg) (ho : fX10_laid a1 s0 = some o) : Con l yX10_laid cX10_laid 3 (some .int) 4 D ct A [.ref (A 27), .int a1] s0 (embI o) := by
  refine con_start (by decide +kernel) (Nat.le_of_ble_eq_true rfl) ho (fun p e s m args below meth c C => ?_)
  refine m_loc (L2 := [(0, .ref (A 27)), (1, .int a1)]) [0, 1] rfl ?_
  unfold fX10_laid
  refine m_aload_n C dX10_laid_0 rfl ?_
  refine m_iload_n C dX10_laid_1 rfl ?_
  refine m_iconst C dX10_laid_2 ci_1 ?_
  refine m_iadd C dX10_laid_3 ?_
  refine m_bipush C dX10_laid_4 cb_11 ?_
  refine m_callVI C ml_X10_211 ⟨Nat.le_of_ble_eq_true rfl, Nat.le_of_ble_eq_true rfl⟩ rfl rfl [.int (a1 + 1), .int 11] [] rfl rfl (Nat.le_of_ble_eq_true rfl) dX10_laid_6 (fun o ho => kX10_figure l D ct A (a1 + 1) 11 s0 o ho) (fun r_1 s_2 => ?_)
  refine m_istore_n (L2 := [(2, .int r_1), (0, .ref (A 27)), (1, .int a1)]) C dX10_laid_9 rfl (by decide) rfl ?_
  refine m_iload_n C dX10_laid_10 rfl ?_
  refine m_if_eq (tgt := 16) C dX10_laid_11 rfl ?_ ?_
  · refine m_aload_n C dX10_laid_16 rfl ?_
    refine m_get (v := .int (gi s_2 27 9)) C fl_X10_107_9 rfl (by decide) rfl dX10_laid_17 ?_
    refine m_iconst C dX10_laid_20 ci_2 ?_
    refine m_icmp_ne (tgt := 35) C dX10_laid_21 rfl ?_ ?_
    · refine m_iconst C dX10_laid_35 ci_1 ?_
      exact m_iret C dX10_laid_36
    · refine m_aload_n C dX10_laid_24 rfl ?_
      refine m_get (v := .long (gl s_2 27 11)) C fl_X10_121_9 rfl (by decide) rfl dX10_laid_25 ?_
      refine m_ldc2 C wd_1090 dX10_laid_28 ?_
      refine m_lcmp C dX10_laid_31 ?_
      refine m_if_eq (tgt := 37) C dX10_laid_32 rfl ?_ ?_
      · refine m_aload_n C dX10_laid_37 rfl ?_
        refine m_callVV C ml_X10_164 ⟨Nat.le_of_ble_eq_true rfl, Nat.le_of_ble_eq_true rfl⟩ rfl rfl [] [] rfl rfl (Nat.le_of_ble_eq_true rfl) dX10_laid_38 (fun o ho => kX10_nextToken l D ct A s_2 o ho) (fun s_3 => ?_)
        refine m_aload_n C dX10_laid_41 rfl ?_
        refine m_iload_n C dX10_laid_42 rfl ?_
        refine m_iconst C dX10_laid_43 ci_2 ?_
        refine m_iadd C dX10_laid_44 ?_
        refine m_iconst C dX10_laid_45 ci_1 ?_
        refine m_callVI C ml_X10_211 ⟨Nat.le_of_ble_eq_true rfl, Nat.le_of_ble_eq_true rfl⟩ rfl rfl [.int (a1 + 2), .int 1] [] rfl rfl (Nat.le_of_ble_eq_true rfl) dX10_laid_46 (fun o ho => kX10_figure l D ct A (a1 + 2) 1 s_3 o ho) (fun r_4 s_5 => ?_)
        exact m_iret C dX10_laid_49
      · refine m_iconst C dX10_laid_35 ci_1 ?_
        exact m_iret C dX10_laid_36
  · refine m_iload_n C dX10_laid_14 rfl ?_
    exact m_iret C dX10_laid_15
def fX10_clause (s0 : Sg) : Option (Int32 × Sg) :=
  bnd (fX10_sortOf s0) fun r_1 s_2 =>
  if 0 ≤ r_1 then
    bv (
      chk (inb 2720 (gi s_2 27 12)) <|
      bv (gi s_2 30 (ix (gi s_2 27 12))) fun v_5 =>
      if v_5 = 24 then
        some (6, s_2)
      else
        bv (fun (s_6 : Sg) => 
          bv (si s_6 27 20 r_1) fun s_8 =>
          bnv (fX10_nextToken s_8) fun s_9 =>
          bv (((gi s_9 27 12) + 1) + (3 * v_5)) fun v_10 =>
          chk (inb 2720 v_10) <|
          bv (si s_9 30 (ix v_10) r_1) fun s_12 =>
          bv (gi s_12 27 14) fun v_13 =>
          bv (fun (y_14 : Int32) (s_15 : Sg) => 
            if y_14 = 0 then
              bv (fun (s_17 : Sg) => 
                chk (inb 2720 (gi s_17 27 12)) <|
                bv (si s_17 30 (ix (gi s_17 27 12)) ((gi s_17 30 (ix (gi s_17 27 12))) + 1)) fun s_20 =>
                if (gi s_20 27 9) = 59 then
                  bnv (fX10_nextToken s_20) fun s_21 =>
                  some (0, s_21)
                else
                  some (1, s_20))
              fun k_18 =>
              if 2 ≤ r_1 then
                k_18 s_15
              else
                chk (inb 2720 (v_10 + 1)) <|
                bv (si s_15 30 (ix (v_10 + 1)) v_13) fun s_23 =>
                chk (inb 2720 (v_10 + 2)) <|
                bv (si s_23 30 (ix (v_10 + 2)) (gi s_23 27 14)) fun s_25 =>
                k_18 s_25
            else
              some (y_14, s_15))
          fun k_16 =>
          if r_1 = 2 then
            bnd (fX10_laid v_10 s_12) fun r_37 s_38 =>
            k_16 r_37 s_38
          else
            if r_1 ≤ 2 then
              if r_1 = 0 then
                bnd (fX10_summed s_12) fun r_30 s_31 =>
                k_16 r_30 s_31
              else
                bnd (fX10_either s_12) fun r_28 s_29 =>
                k_16 r_28 s_29
            else
              bv (fun (y_32 : Int32) (y_33 : Int32) => 
                bnd (fX10_figure y_32 y_33 s_12) fun r_35 s_36 =>
                k_16 r_35 s_36)
              fun k_34 =>
              if r_1 = 3 then
                k_34 (v_10 + 1) 11
              else
                k_34 (v_10 + 1) 99)
        fun k_7 =>
        if 2 ≤ r_1 then
          k_7 s_2
        else
          bv (si s_2 27 21 ((gi s_2 27 21) ||| (1 <<< (r_1 &&& 31)))) fun s_39 =>
          k_7 s_39)
    fun k_3 =>
    if 2 ≤ r_1 then
      k_3
    else
      if (((gi s_2 27 21) >>> (r_1 &&& 31)) &&& 1) = 1 then
        some (4, s_2)
      else
        k_3
  else
    some (1, s_2)
theorem kX10_clause (l : Launch) (D : va_G) (ct : Nat → ClassId) (A : Nat → Nat) (s0 : Sg) (o : Int32 × Sg) (ho : fX10_clause s0 = some o) : Con l yX10_clause cX10_clause 6 (some .int) 8 D ct A [.ref (A 27)] s0 (embI o) := by
  refine con_start (by decide +kernel) (Nat.le_of_ble_eq_true rfl) ho (fun p e s m args below meth c C => ?_)
  refine m_loc (L2 := [(0, .ref (A 27))]) [0] rfl ?_
  unfold fX10_clause
  refine m_aload_n C dX10_clause_0 rfl ?_
  refine m_callVI C ml_X10_217 ⟨Nat.le_of_ble_eq_true rfl, Nat.le_of_ble_eq_true rfl⟩ rfl rfl [] [] rfl rfl (Nat.le_of_ble_eq_true rfl) dX10_clause_1 (fun o ho => kX10_sortOf l D ct A s0 o ho) (fun r_1 s_2 => ?_)
  refine m_istore_n (L2 := [(1, .int r_1), (0, .ref (A 27))]) C dX10_clause_4 rfl (by decide) rfl ?_
  refine m_iload_n C dX10_clause_5 rfl ?_
  refine m_if_ge (tgt := 11) C dX10_clause_6 rfl ?_ ?_
  · refine m_iload_n C dX10_clause_11 rfl ?_
    refine m_iconst C dX10_clause_12 ci_2 ?_
    refine m_jn (P := fun (k_3 : Option (Int32 × Sg)) => Wm p l e (rmD 8) s m args below meth c D ct A 6 embI 30 [(0, .ref (A 27)), (1, .int r_1)] [] s_2 (k_3)) ?_ (fun k_3 hk_3 => ?_)
    · refine m_aload_n C dX10_clause_30 rfl ?_
      refine m_get (v := .ref (A 30)) C fl_X10_16_9 rfl (by decide) rfl dX10_clause_31 ?_
      refine m_aload_n C dX10_clause_34 rfl ?_
      refine m_get (v := .int (gi s_2 27 12)) C fl_X10_133_9 rfl (by decide) rfl dX10_clause_35 ?_
      refine m_chk (fun h_4 => ?_)
      refine m_iald C rfl h_4 dX10_clause_38 ?_
      refine m_let (fun v_5 => ?_)
      refine m_istore_n (L2 := [(2, .int v_5), (0, .ref (A 27)), (1, .int r_1)]) C dX10_clause_39 rfl (by decide) rfl ?_
      refine m_iload_n C dX10_clause_40 rfl ?_
      refine m_bipush C dX10_clause_41 cb_24 ?_
      refine m_icmp_ne (tgt := 49) C dX10_clause_43 rfl ?_ ?_
      · refine m_iload_n C dX10_clause_49 rfl ?_
        refine m_iconst C dX10_clause_50 ci_2 ?_
        refine m_jn (P := fun (k_7 : Sg → Option (Int32 × Sg)) => ∀ (s_6 : Sg), Wm p l e (rmD 8) s m args below meth c D ct A 6 embI 66 [(0, .ref (A 27)), (1, .int r_1), (2, .int v_5)] [] s_6 (k_7 s_6)) ?_ (fun k_7 hk_7 => ?_)
        · intro s_6
          refine m_aload_n C dX10_clause_66 rfl ?_
          refine m_iload_n C dX10_clause_67 rfl ?_
          refine m_puti C fl_X10_161_9 fw_9_20 rfl (by decide) rfl dX10_clause_68 (fun s_8 => ?_)
          refine m_aload_n C dX10_clause_71 rfl ?_
          refine m_callVV C ml_X10_164 ⟨Nat.le_of_ble_eq_true rfl, Nat.le_of_ble_eq_true rfl⟩ rfl rfl [] [] rfl rfl (Nat.le_of_ble_eq_true rfl) dX10_clause_72 (fun o ho => kX10_nextToken l D ct A s_8 o ho) (fun s_9 => ?_)
          refine m_aload_n C dX10_clause_75 rfl ?_
          refine m_get (v := .int (gi s_9 27 12)) C fl_X10_133_9 rfl (by decide) rfl dX10_clause_76 ?_
          refine m_iconst C dX10_clause_79 ci_1 ?_
          refine m_iadd C dX10_clause_80 ?_
          refine m_iconst C dX10_clause_81 ci_3 ?_
          refine m_iload_n C dX10_clause_82 rfl ?_
          refine m_imul C dX10_clause_83 ?_
          refine m_iadd C dX10_clause_84 ?_
          refine m_let (fun v_10 => ?_)
          refine m_istore_n (L2 := [(3, .int v_10), (0, .ref (A 27)), (1, .int r_1), (2, .int v_5)]) C dX10_clause_85 rfl (by decide) rfl ?_
          refine m_aload_n C dX10_clause_86 rfl ?_
          refine m_get (v := .ref (A 30)) C fl_X10_16_9 rfl (by decide) rfl dX10_clause_87 ?_
          refine m_iload_n C dX10_clause_90 rfl ?_
          refine m_iload_n C dX10_clause_91 rfl ?_
          refine m_chk (fun h_11 => ?_)
          refine m_iast C rfl h_11 dX10_clause_92 (fun s_12 => ?_)
          refine m_aload_n C dX10_clause_93 rfl ?_
          refine m_get (v := .int (gi s_12 27 14)) C fl_X10_136_9 rfl (by decide) rfl dX10_clause_94 ?_
          refine m_let (fun v_13 => ?_)
          refine m_istore (L2 := [(4, .int v_13), (3, .int v_10), (0, .ref (A 27)), (1, .int r_1), (2, .int v_5)]) C dX10_clause_97 (by decide) rfl ?_
          refine m_iload_n C dX10_clause_99 rfl ?_
          refine m_iconst C dX10_clause_100 ci_2 ?_
          refine m_jn (P := fun (k_16 : Int32 → Sg → Option (Int32 × Sg)) => ∀ (y_14 : Int32) (s_15 : Sg), Wm p l e (rmD 8) s m args below meth c D ct A 6 embI 154 [(0, .ref (A 27)), (1, .int r_1), (3, .int v_10), (4, .int v_13)] [.int y_14] s_15 (k_16 y_14 s_15)) ?_ (fun k_16 hk_16 => ?_)
          · intro y_14 s_15
            refine m_istore (L2 := [(5, .int y_14), (0, .ref (A 27)), (1, .int r_1), (3, .int v_10), (4, .int v_13)]) C dX10_clause_154 (by decide) rfl ?_
            refine m_iload C dX10_clause_156 rfl ?_
            refine m_if_eq (tgt := 164) C dX10_clause_158 rfl ?_ ?_
            · refine m_iload_n C dX10_clause_164 rfl ?_
              refine m_iconst C dX10_clause_165 ci_2 ?_
              refine m_jn (P := fun (k_18 : Sg → Option (Int32 × Sg)) => ∀ (s_17 : Sg), Wm p l e (rmD 8) s m args below meth c D ct A 6 embI 191 [(0, .ref (A 27))] [] s_17 (k_18 s_17)) ?_ (fun k_18 hk_18 => ?_)
              · intro s_17
                refine m_aload_n C dX10_clause_191 rfl ?_
                refine m_get (v := .ref (A 30)) C fl_X10_16_9 rfl (by decide) rfl dX10_clause_192 ?_
                refine m_aload_n C dX10_clause_195 rfl ?_
                refine m_get (v := .int (gi s_17 27 12)) C fl_X10_133_9 rfl (by decide) rfl dX10_clause_196 ?_
                refine m_dup2 C dX10_clause_199 rfl rfl ?_
                refine m_chk (fun h_19 => ?_)
                refine m_iald C rfl h_19 dX10_clause_200 ?_
                refine m_iconst C dX10_clause_201 ci_1 ?_
                refine m_iadd C dX10_clause_202 ?_
                refine m_iast C rfl h_19 dX10_clause_203 (fun s_20 => ?_)
                refine m_aload_n C dX10_clause_204 rfl ?_
                refine m_get (v := .int (gi s_20 27 9)) C fl_X10_107_9 rfl (by decide) rfl dX10_clause_205 ?_
                refine m_bipush C dX10_clause_208 cb_59 ?_
                refine m_icmp_eq (tgt := 215) C dX10_clause_210 rfl ?_ ?_
                · refine m_aload_n C dX10_clause_215 rfl ?_
                  refine m_callVV C ml_X10_164 ⟨Nat.le_of_ble_eq_true rfl, Nat.le_of_ble_eq_true rfl⟩ rfl rfl [] [] rfl rfl (Nat.le_of_ble_eq_true rfl) dX10_clause_216 (fun o ho => kX10_nextToken l D ct A s_20 o ho) (fun s_21 => ?_)
                  refine m_iconst C dX10_clause_219 ci_0 ?_
                  exact m_iret C dX10_clause_220
                · refine m_iconst C dX10_clause_213 ci_1 ?_
                  exact m_iret C dX10_clause_214
              refine m_icmp_ge (tgt := 191) C dX10_clause_166 rfl ?_ ?_
              · refine m_loc (L2 := [(0, .ref (A 27))]) [1] rfl ?_
                exact hk_18 s_15
              · refine m_aload_n C dX10_clause_169 rfl ?_
                refine m_get (v := .ref (A 30)) C fl_X10_16_9 rfl (by decide) rfl dX10_clause_170 ?_
                refine m_iload_n C dX10_clause_173 rfl ?_
                refine m_iconst C dX10_clause_174 ci_1 ?_
                refine m_iadd C dX10_clause_175 ?_
                refine m_iload C dX10_clause_176 rfl ?_
                refine m_chk (fun h_22 => ?_)
                refine m_iast C rfl h_22 dX10_clause_178 (fun s_23 => ?_)
                refine m_aload_n C dX10_clause_179 rfl ?_
                refine m_get (v := .ref (A 30)) C fl_X10_16_9 rfl (by decide) rfl dX10_clause_180 ?_
                refine m_iload_n C dX10_clause_183 rfl ?_
                refine m_iconst C dX10_clause_184 ci_2 ?_
                refine m_iadd C dX10_clause_185 ?_
                refine m_aload_n C dX10_clause_186 rfl ?_
                refine m_get (v := .int (gi s_23 27 14)) C fl_X10_136_9 rfl (by decide) rfl dX10_clause_187 ?_
                refine m_chk (fun h_24 => ?_)
                refine m_iast C rfl h_24 dX10_clause_190 (fun s_25 => ?_)
                refine m_loc (L2 := [(0, .ref (A 27))]) [1] rfl ?_
                exact hk_18 s_25
            · refine m_iload C dX10_clause_161 rfl ?_
              exact m_iret C dX10_clause_163
          refine m_icmp_ne (tgt := 112) C dX10_clause_101 rfl ?_ ?_
          · refine m_iload_n C dX10_clause_112 rfl ?_
            refine m_iconst C dX10_clause_113 ci_2 ?_
            refine m_icmp_le (tgt := 139) C dX10_clause_114 rfl ?_ ?_
            · refine m_iload_n C dX10_clause_139 rfl ?_
              refine m_if_ne (tgt := 150) C dX10_clause_140 rfl ?_ ?_
              · refine m_aload_n C dX10_clause_150 rfl ?_
                refine m_callVI C ml_X10_226 ⟨Nat.le_of_ble_eq_true rfl, Nat.le_of_ble_eq_true rfl⟩ rfl rfl [] [] rfl rfl (Nat.le_of_ble_eq_true rfl) dX10_clause_151 (fun o ho => kX10_either l D ct A s_12 o ho) (fun r_28 s_29 => ?_)
                refine m_loc (L2 := [(0, .ref (A 27)), (1, .int r_1), (3, .int v_10), (4, .int v_13)]) [2, 3, 1, 0] rfl ?_
                exact hk_16 r_28 s_29
              · refine m_aload_n C dX10_clause_143 rfl ?_
                refine m_callVI C ml_X10_200 ⟨Nat.le_of_ble_eq_true rfl, Nat.le_of_ble_eq_true rfl⟩ rfl rfl [] [] rfl rfl (Nat.le_of_ble_eq_true rfl) dX10_clause_144 (fun o ho => kX10_summed l D ct A s_12 o ho) (fun r_30 s_31 => ?_)
                refine m_goto (tgt := 154) C dX10_clause_147 rfl ?_
                refine m_loc (L2 := [(0, .ref (A 27)), (1, .int r_1), (3, .int v_10), (4, .int v_13)]) [2, 3, 1, 0] rfl ?_
                exact hk_16 r_30 s_31
            · refine m_aload_n C dX10_clause_117 rfl ?_
              refine m_iload_n C dX10_clause_118 rfl ?_
              refine m_iconst C dX10_clause_119 ci_1 ?_
              refine m_iadd C dX10_clause_120 ?_
              refine m_iload_n C dX10_clause_121 rfl ?_
              refine m_iconst C dX10_clause_122 ci_3 ?_
              refine m_jn (P := fun (k_34 : Int32 → Int32 → Option (Int32 × Sg)) => ∀ (y_32 : Int32) (y_33 : Int32), Wm p l e (rmD 8) s m args below meth c D ct A 6 embI 133 [(0, .ref (A 27)), (1, .int r_1), (3, .int v_10), (4, .int v_13)] [.int y_33, .int y_32, .ref (A 27)] s_12 (k_34 y_32 y_33)) ?_ (fun k_34 hk_34 => ?_)
              · intro y_32 y_33
                refine m_callVI C ml_X10_211 ⟨Nat.le_of_ble_eq_true rfl, Nat.le_of_ble_eq_true rfl⟩ rfl rfl [.int y_32, .int y_33] [] rfl rfl (Nat.le_of_ble_eq_true rfl) dX10_clause_133 (fun o ho => kX10_figure l D ct A y_32 y_33 s_12 o ho) (fun r_35 s_36 => ?_)
                refine m_goto (tgt := 154) C dX10_clause_136 rfl ?_
                refine m_loc (L2 := [(0, .ref (A 27)), (1, .int r_1), (3, .int v_10), (4, .int v_13)]) [0, 1, 2, 3] rfl ?_
                exact hk_16 r_35 s_36
              refine m_icmp_ne (tgt := 131) C dX10_clause_123 rfl ?_ ?_
              · refine m_bipush C dX10_clause_131 cb_99 ?_
                refine m_loc (L2 := [(0, .ref (A 27)), (1, .int r_1), (3, .int v_10), (4, .int v_13)]) [2, 3, 1, 0] rfl ?_
                exact hk_34 (v_10 + 1) 99
              · refine m_bipush C dX10_clause_126 cb_11 ?_
                refine m_goto (tgt := 133) C dX10_clause_128 rfl ?_
                refine m_loc (L2 := [(0, .ref (A 27)), (1, .int r_1), (3, .int v_10), (4, .int v_13)]) [2, 3, 1, 0] rfl ?_
                exact hk_34 (v_10 + 1) 11
          · refine m_aload_n C dX10_clause_104 rfl ?_
            refine m_iload_n C dX10_clause_105 rfl ?_
            refine m_callVI C ml_X10_223 ⟨Nat.le_of_ble_eq_true rfl, Nat.le_of_ble_eq_true rfl⟩ rfl rfl [.int v_10] [] rfl rfl (Nat.le_of_ble_eq_true rfl) dX10_clause_106 (fun o ho => kX10_laid l D ct A v_10 s_12 o ho) (fun r_37 s_38 => ?_)
            refine m_goto (tgt := 154) C dX10_clause_109 rfl ?_
            refine m_loc (L2 := [(0, .ref (A 27)), (1, .int r_1), (3, .int v_10), (4, .int v_13)]) [2, 3, 1, 0] rfl ?_
            exact hk_16 r_37 s_38
        refine m_icmp_ge (tgt := 66) C dX10_clause_51 rfl ?_ ?_
        · refine m_loc (L2 := [(0, .ref (A 27)), (1, .int r_1), (2, .int v_5)]) [1, 2, 0] rfl ?_
          exact hk_7 s_2
        · refine m_aload_n C dX10_clause_54 rfl ?_
          refine m_dup C dX10_clause_55 rfl ?_
          refine m_get (v := .int (gi s_2 27 21)) C fl_X10_220_9 rfl (by decide) rfl dX10_clause_56 ?_
          refine m_iconst C dX10_clause_59 ci_1 ?_
          refine m_iload_n C dX10_clause_60 rfl ?_
          refine m_ishl C dX10_clause_61 ?_
          refine m_ior C dX10_clause_62 ?_
          refine m_puti C fl_X10_220_9 fw_9_21 rfl (by decide) rfl dX10_clause_63 (fun s_39 => ?_)
          refine m_loc (L2 := [(0, .ref (A 27)), (1, .int r_1), (2, .int v_5)]) [1, 2, 0] rfl ?_
          exact hk_7 s_39
      · refine m_bipush C dX10_clause_46 cb_6 ?_
        exact m_iret C dX10_clause_48
    refine m_icmp_ge (tgt := 30) C dX10_clause_13 rfl ?_ ?_
    · refine m_loc (L2 := [(0, .ref (A 27)), (1, .int r_1)]) [1, 0] rfl ?_
      exact hk_3
    · refine m_aload_n C dX10_clause_16 rfl ?_
      refine m_get (v := .int (gi s_2 27 21)) C fl_X10_220_9 rfl (by decide) rfl dX10_clause_17 ?_
      refine m_iload_n C dX10_clause_20 rfl ?_
      refine m_ishr C dX10_clause_21 ?_
      refine m_iconst C dX10_clause_22 ci_1 ?_
      refine m_iand C dX10_clause_23 ?_
      refine m_iconst C dX10_clause_24 ci_1 ?_
      refine m_icmp_ne (tgt := 30) C dX10_clause_25 rfl ?_ ?_
      · refine m_loc (L2 := [(0, .ref (A 27)), (1, .int r_1)]) [1, 0] rfl ?_
        exact hk_3
      · refine m_iconst C dX10_clause_28 ci_4 ?_
        exact m_iret C dX10_clause_29
  · refine m_iconst C dX10_clause_9 ci_1 ?_
    exact m_iret C dX10_clause_10
def fX10_readText_49_b (rec49 : Sg → Option (Int32 × Sg)) (s_10 : Sg) : Option (Int32 × Sg) :=
  if (gi s_10 27 9) = 0 then
    some (0, s_10)
  else
    bnd (fX10_clause s_10) fun r_11 s_12 =>
    if r_11 = 0 then
      rec49 s_12
    else
      some (r_11, s_12)
def fX10_readText (s0 : Sg) : Option (Int32 × Sg) :=
  bv (si s0 27 12 (680 * (gi s0 28 (ix 7)))) fun s_1 =>
  chk (inb 2720 (gi s_1 27 12)) <|
  bv (si s_1 30 (ix (gi s_1 27 12)) 0) fun s_3 =>
  bv (si s_3 27 14 0) fun s_4 =>
  bv (si s_4 27 18 0) fun s_5 =>
  bv (si s_5 27 21 0) fun s_6 =>
  bv (si s_6 27 7 0) fun s_7 =>
  bnv (fX10_nextToken s_7) fun s_9 =>
  lo1 (fX10_readText_49_b) FU s_9
theorem wX10_readText_49 {p : Program} {l : Launch} {e : Env} {s : State} {m : MethodId} {args : Array Value} {below : List Frame} {meth : Method} {c : Code} {D : va_G} {ct : Nat → ClassId} {A : Nat → Nat} (C : Cx p m c cX10_readText 2 s args yX10_readText.cls meth (some .int) D ct A) : ∀ (n : Nat) (s_10 : Sg), Wm p l e (rmD 9) s m args below meth c D ct A 2 embI 49 [(0, .ref (A 27))] [] s_10 (lo1 (fX10_readText_49_b) n s_10) := by
  intro n
  induction n with
  | zero => intro s_10; exact m_none
  | succ n hrec49 =>
    intro s_10
    refine (show Wm p l e (rmD 9) s m args below meth c D ct A 2 embI 49 [(0, .ref (A 27))] [] s_10 (fX10_readText_49_b (lo1 (fX10_readText_49_b) n) s_10) from ?_)
    generalize lo1 (fX10_readText_49_b) n = rec49 at hrec49 ⊢
    unfold fX10_readText_49_b
    refine m_aload_n C dX10_readText_49 rfl ?_
    refine m_get (v := .int (gi s_10 27 9)) C fl_X10_107_9 rfl (by decide) rfl dX10_readText_50 ?_
    refine m_if_eq (tgt := 70) C dX10_readText_53 rfl ?_ ?_
    · refine m_iconst C dX10_readText_70 ci_0 ?_
      exact m_iret C dX10_readText_71
    · refine m_aload_n C dX10_readText_56 rfl ?_
      refine m_callVI C ml_X10_229 ⟨Nat.le_of_ble_eq_true rfl, Nat.le_of_ble_eq_true rfl⟩ rfl rfl [] [] rfl rfl (Nat.le_of_ble_eq_true rfl) dX10_readText_57 (fun o ho => kX10_clause l D ct A s_10 o ho) (fun r_11 s_12 => ?_)
      refine m_istore_n (L2 := [(1, .int r_11), (0, .ref (A 27))]) C dX10_readText_60 rfl (by decide) rfl ?_
      refine m_iload_n C dX10_readText_61 rfl ?_
      refine m_if_eq (tgt := 67) C dX10_readText_62 rfl ?_ ?_
      · refine m_goto (tgt := 49) C dX10_readText_67 rfl ?_
        refine m_loc (L2 := [(0, .ref (A 27))]) [1] rfl ?_
        exact hrec49 s_12
      · refine m_iload_n C dX10_readText_65 rfl ?_
        exact m_iret C dX10_readText_66
theorem kX10_readText (l : Launch) (D : va_G) (ct : Nat → ClassId) (A : Nat → Nat) (s0 : Sg) (o : Int32 × Sg) (ho : fX10_readText s0 = some o) : Con l yX10_readText cX10_readText 2 (some .int) 9 D ct A [.ref (A 27)] s0 (embI o) := by
  refine con_start (by decide +kernel) (Nat.le_of_ble_eq_true rfl) ho (fun p e s m args below meth c C => ?_)
  refine m_loc (L2 := [(0, .ref (A 27))]) [0] rfl ?_
  unfold fX10_readText
  refine m_aload_n C dX10_readText_0 rfl ?_
  refine m_sipush C dX10_readText_1 cs_680 ?_
  refine m_aload_n C dX10_readText_4 rfl ?_
  refine m_get (v := .ref (A 28)) C fl_X10_7_9 rfl (by decide) rfl dX10_readText_5 ?_
  refine m_bipush C dX10_readText_8 cb_7 ?_
  refine m_iald C rfl (by decide +kernel) dX10_readText_10 ?_
  refine m_imul C dX10_readText_11 ?_
  refine m_puti C fl_X10_133_9 fw_9_12 rfl (by decide) rfl dX10_readText_12 (fun s_1 => ?_)
  refine m_aload_n C dX10_readText_15 rfl ?_
  refine m_get (v := .ref (A 30)) C fl_X10_16_9 rfl (by decide) rfl dX10_readText_16 ?_
  refine m_aload_n C dX10_readText_19 rfl ?_
  refine m_get (v := .int (gi s_1 27 12)) C fl_X10_133_9 rfl (by decide) rfl dX10_readText_20 ?_
  refine m_iconst C dX10_readText_23 ci_0 ?_
  refine m_chk (fun h_2 => ?_)
  refine m_iast C rfl h_2 dX10_readText_24 (fun s_3 => ?_)
  refine m_aload_n C dX10_readText_25 rfl ?_
  refine m_iconst C dX10_readText_26 ci_0 ?_
  refine m_puti C fl_X10_136_9 fw_9_14 rfl (by decide) rfl dX10_readText_27 (fun s_4 => ?_)
  refine m_aload_n C dX10_readText_30 rfl ?_
  refine m_iconst C dX10_readText_31 ci_0 ?_
  refine m_puti C fl_X10_146_9 fw_9_18 rfl (by decide) rfl dX10_readText_32 (fun s_5 => ?_)
  refine m_aload_n C dX10_readText_35 rfl ?_
  refine m_iconst C dX10_readText_36 ci_0 ?_
  refine m_puti C fl_X10_220_9 fw_9_21 rfl (by decide) rfl dX10_readText_37 (fun s_6 => ?_)
  refine m_aload_n C dX10_readText_40 rfl ?_
  refine m_iconst C dX10_readText_41 ci_0 ?_
  refine m_puti C fl_X10_98_9 fw_9_7 rfl (by decide) rfl dX10_readText_42 (fun s_7 => ?_)
  refine m_aload_n C dX10_readText_45 rfl ?_
  refine m_callVV C ml_X10_164 ⟨Nat.le_of_ble_eq_true rfl, Nat.le_of_ble_eq_true rfl⟩ rfl rfl [] [] rfl rfl (Nat.le_of_ble_eq_true rfl) dX10_readText_46 (fun o ho => kX10_nextToken l D ct A s_7 o ho) (fun s_9 => ?_)
  refine m_loc (L2 := [(0, .ref (A 27))]) [0] rfl ?_
  exact wX10_readText_49 C FU s_9
def fX10_text (s0 : Sg) : Option (Int32 × Sg) :=
  if (gi s0 28 (ix 7)) = 4 then
    some ((-1), s0)
  else
    bnd (fX10_readText s0) fun r_1 s_2 =>
    bv (si s_2 27 5 r_1) fun s_3 =>
    bv (fun (y_4 : Int32) => 
      bv (si s_3 27 6 y_4) fun s_6 =>
      bv (si s_6 27 4 0) fun s_7 =>
      if (gi s_7 27 5) = 0 then
        bv (si s_7 28 (ix 7) ((gi s_7 28 (ix 7)) + 1)) fun s_8 =>
        some ((gi s_8 28 (ix 7)) - 1, s_8)
      else
        some ((-1), s_7))
    fun k_5 =>
    if (gi s_3 27 5) = 0 then
      k_5 (-1)
    else
      k_5 (gi s_3 27 8)
theorem kX10_text (l : Launch) (D : va_G) (ct : Nat → ClassId) (A : Nat → Nat) (s0 : Sg) (o : Int32 × Sg) (ho : fX10_text s0 = some o) : Con l yX10_text cX10_text 1 (some .int) 10 D ct A [.ref (A 27)] s0 (embI o) := by
  refine con_start (by decide +kernel) (Nat.le_of_ble_eq_true rfl) ho (fun p e s m args below meth c C => ?_)
  refine m_loc (L2 := [(0, .ref (A 27))]) [0] rfl ?_
  unfold fX10_text
  refine m_aload_n C dX10_text_0 rfl ?_
  refine m_get (v := .ref (A 28)) C fl_X10_7_9 rfl (by decide) rfl dX10_text_1 ?_
  refine m_bipush C dX10_text_4 cb_7 ?_
  refine m_iald C rfl (by decide +kernel) dX10_text_6 ?_
  refine m_iconst C dX10_text_7 ci_4 ?_
  refine m_icmp_ne (tgt := 13) C dX10_text_8 rfl ?_ ?_
  · refine m_aload_n C dX10_text_13 rfl ?_
    refine m_aload_n C dX10_text_14 rfl ?_
    refine m_callVI C ml_X10_232 ⟨Nat.le_of_ble_eq_true rfl, Nat.le_of_ble_eq_true rfl⟩ rfl rfl [] [.ref (A 27)] rfl rfl (Nat.le_of_ble_eq_true rfl) dX10_text_15 (fun o ho => kX10_readText l D ct A s0 o ho) (fun r_1 s_2 => ?_)
    refine m_puti C fl_X10_22_9 fw_9_5 rfl (by decide) rfl dX10_text_18 (fun s_3 => ?_)
    refine m_aload_n C dX10_text_21 rfl ?_
    refine m_aload_n C dX10_text_22 rfl ?_
    refine m_get (v := .int (gi s_3 27 5)) C fl_X10_22_9 rfl (by decide) rfl dX10_text_23 ?_
    refine m_jn (P := fun (k_5 : Int32 → Option (Int32 × Sg)) => ∀ (y_4 : Int32), Wm p l e (rmD 10) s m args below meth c D ct A 1 embI 37 [(0, .ref (A 27))] [.int y_4, .ref (A 27)] s_3 (k_5 y_4)) ?_ (fun k_5 hk_5 => ?_)
    · intro y_4
      refine m_puti C fl_X10_26_9 fw_9_6 rfl (by decide) rfl dX10_text_37 (fun s_6 => ?_)
      refine m_aload_n C dX10_text_40 rfl ?_
      refine m_iconst C dX10_text_41 ci_0 ?_
      refine m_puti C fl_X10_91_9 fw_9_4 rfl (by decide) rfl dX10_text_42 (fun s_7 => ?_)
      refine m_aload_n C dX10_text_45 rfl ?_
      refine m_get (v := .int (gi s_7 27 5)) C fl_X10_22_9 rfl (by decide) rfl dX10_text_46 ?_
      refine m_if_eq (tgt := 54) C dX10_text_49 rfl ?_ ?_
      · refine m_aload_n C dX10_text_54 rfl ?_
        refine m_get (v := .ref (A 28)) C fl_X10_7_9 rfl (by decide) rfl dX10_text_55 ?_
        refine m_bipush C dX10_text_58 cb_7 ?_
        refine m_dup2 C dX10_text_60 rfl rfl ?_
        refine m_iald C rfl (by decide +kernel) dX10_text_61 ?_
        refine m_iconst C dX10_text_62 ci_1 ?_
        refine m_iadd C dX10_text_63 ?_
        refine m_iast C rfl (by decide +kernel) dX10_text_64 (fun s_8 => ?_)
        refine m_aload_n C dX10_text_65 rfl ?_
        refine m_get (v := .ref (A 28)) C fl_X10_7_9 rfl (by decide) rfl dX10_text_66 ?_
        refine m_bipush C dX10_text_69 cb_7 ?_
        refine m_iald C rfl (by decide +kernel) dX10_text_71 ?_
        refine m_iconst C dX10_text_72 ci_1 ?_
        refine m_isub C dX10_text_73 ?_
        exact m_iret C dX10_text_74
      · refine m_iconst C dX10_text_52 ci_m1 ?_
        exact m_iret C dX10_text_53
    refine m_if_ne (tgt := 33) C dX10_text_26 rfl ?_ ?_
    · refine m_aload_n C dX10_text_33 rfl ?_
      refine m_get (v := .int (gi s_3 27 8)) C fl_X10_104_9 rfl (by decide) rfl dX10_text_34 ?_
      refine m_loc (L2 := [(0, .ref (A 27))]) [0] rfl ?_
      exact hk_5 (gi s_3 27 8)
    · refine m_iconst C dX10_text_29 ci_m1 ?_
      refine m_goto (tgt := 37) C dX10_text_30 rfl ?_
      refine m_loc (L2 := [(0, .ref (A 27))]) [0] rfl ?_
      exact hk_5 (-1)
  · refine m_iconst C dX10_text_11 ci_m1 ?_
    exact m_iret C dX10_text_12
def fX10_fault (a1 : Int32) (s0 : Sg) : Option (Int32 × Sg) :=
  if a1 = 0 then
    some (gi s0 27 5, s0)
  else
    if a1 = 1 then
      some (gi s0 27 6, s0)
    else
      some ((-1), s0)
theorem kX10_fault (l : Launch) (D : va_G) (ct : Nat → ClassId) (A : Nat → Nat) (a1 : Int32) (s0 : Sg) (o : Int32 × Sg) (ho : fX10_fault a1 s0 = some o) : Con l yX10_fault cX10_fault 2 (some .int) 0 D ct A [.ref (A 27), .int a1] s0 (embI o) := by
  refine con_start (by decide +kernel) (Nat.le_of_ble_eq_true rfl) ho (fun p e s m args below meth c C => ?_)
  refine m_loc (L2 := [(0, .ref (A 27)), (1, .int a1)]) [0, 1] rfl ?_
  unfold fX10_fault
  refine m_iload_n C dX10_fault_0 rfl ?_
  refine m_if_ne (tgt := 11) C dX10_fault_1 rfl ?_ ?_
  · refine m_iload_n C dX10_fault_11 rfl ?_
    refine m_iconst C dX10_fault_12 ci_1 ?_
    refine m_icmp_ne (tgt := 23) C dX10_fault_13 rfl ?_ ?_
    · refine m_iconst C dX10_fault_23 ci_m1 ?_
      exact m_iret C dX10_fault_24
    · refine m_aload_n C dX10_fault_16 rfl ?_
      refine m_get (v := .int (gi s0 27 6)) C fl_X10_26_9 rfl (by decide) rfl dX10_fault_17 ?_
      refine m_goto (tgt := 24) C dX10_fault_20 rfl ?_
      exact m_iret C dX10_fault_24
  · refine m_aload_n C dX10_fault_4 rfl ?_
    refine m_get (v := .int (gi s0 27 5)) C fl_X10_22_9 rfl (by decide) rfl dX10_fault_5 ?_
    refine m_goto (tgt := 24) C dX10_fault_8 rfl ?_
    exact m_iret C dX10_fault_24
def fX10_by (a1 : Int32) (s0 : Sg) : Option (Bool × Sg) :=
  bnd (fX10_isIn a1 (-1) ((gi s0 28 (ix 7)) - 1) s0) fun r_1 s_2 =>
  if (b2i r_1) = 0 then
    some (false, s_2)
  else
    bv (si s_2 28 (ix 8) a1) fun s_3 =>
    some (true, s_3)
theorem kX10_by (l : Launch) (D : va_G) (ct : Nat → ClassId) (A : Nat → Nat) (a1 : Int32) (s0 : Sg) (o : Bool × Sg) (ho : fX10_by a1 s0 = some o) : Con l yX10_by cX10_by 2 (some .boolean) 1 D ct A [.ref (A 27), .int a1] s0 (embZ o) := by
  refine con_start (by decide +kernel) (Nat.le_of_ble_eq_true rfl) ho (fun p e s m args below meth c C => ?_)
  refine m_loc (L2 := [(0, .ref (A 27)), (1, .int a1)]) [0, 1] rfl ?_
  unfold fX10_by
  refine m_iload_n C dX10_by_0 rfl ?_
  refine m_iconst C dX10_by_1 ci_m1 ?_
  refine m_aload_n C dX10_by_2 rfl ?_
  refine m_get (v := .ref (A 28)) C fl_X10_7_9 rfl (by decide) rfl dX10_by_3 ?_
  refine m_bipush C dX10_by_6 cb_7 ?_
  refine m_iald C rfl (by decide +kernel) dX10_by_8 ?_
  refine m_iconst C dX10_by_9 ci_1 ?_
  refine m_isub C dX10_by_10 ?_
  refine m_callSZ C ml_X10_83 ⟨Nat.le_of_ble_eq_true rfl, Nat.le_of_ble_eq_true rfl⟩ [.int a1, .int (-1), .int ((gi s0 28 (ix 7)) - 1)] [] rfl rfl (Nat.le_of_ble_eq_true rfl) dX10_by_11 (fun o ho => kX10_isIn l D ct A a1 (-1) ((gi s0 28 (ix 7)) - 1) s0 o ho) (fun r_1 s_2 => ?_)
  refine m_if_ne (tgt := 19) C dX10_by_14 rfl ?_ ?_
  · refine m_aload_n C dX10_by_19 rfl ?_
    refine m_get (v := .ref (A 28)) C fl_X10_7_9 rfl (by decide) rfl dX10_by_20 ?_
    refine m_bipush C dX10_by_23 cb_8 ?_
    refine m_iload_n C dX10_by_25 rfl ?_
    refine m_iast C rfl (by decide +kernel) dX10_by_26 (fun s_3 => ?_)
    refine m_iconst C dX10_by_27 ci_1 ?_
    exact m_zret C true rfl dX10_by_28
  · refine m_iconst C dX10_by_17 ci_0 ?_
    exact m_zret C false rfl dX10_by_18
def fX10_clip (a1 : Int64) (s0 : Sg) : Option (Int64 × Sg) :=
  if (lg_cmp a1 1000000) ≤ 0 then
    if 0 ≤ (lg_cmp a1 (-1000000)) then
      some (a1, s0)
    else
      some ((-1000000), s0)
  else
    some (1000000, s0)
theorem kX10_clip (l : Launch) (D : va_G) (ct : Nat → ClassId) (A : Nat → Nat) (a1 : Int64) (s0 : Sg) (o : Int64 × Sg) (ho : fX10_clip a1 s0 = some o) : Con l yX10_clip cX10_clip 2 (some .long) 0 D ct A [.long a1] s0 (embL o) := by
  refine con_start (by decide +kernel) (Nat.le_of_ble_eq_true rfl) ho (fun p e s m args below meth c C => ?_)
  refine m_loc (L2 := [(0, .long a1)]) [0] rfl ?_
  unfold fX10_clip
  refine m_lload_n C dX10_clip_0 rfl ?_
  refine m_ldc2 C wd_1197 dX10_clip_1 ?_
  refine m_lcmp C dX10_clip_4 ?_
  refine m_if_le (tgt := 14) C dX10_clip_5 rfl ?_ ?_
  · refine m_lload_n C dX10_clip_14 rfl ?_
    refine m_ldc2 C wd_1198 dX10_clip_15 ?_
    refine m_lcmp C dX10_clip_18 ?_
    refine m_if_ge (tgt := 28) C dX10_clip_19 rfl ?_ ?_
    · refine m_lload_n C dX10_clip_28 rfl ?_
      exact m_lret C dX10_clip_29
    · refine m_ldc2 C wd_1198 dX10_clip_22 ?_
      refine m_goto (tgt := 29) C dX10_clip_25 rfl ?_
      exact m_lret C dX10_clip_29
  · refine m_ldc2 C wd_1197 dX10_clip_8 ?_
    refine m_goto (tgt := 29) C dX10_clip_11 rfl ?_
    exact m_lret C dX10_clip_29
def fX10_two (a1 : Int32) (a2 : Int64) (a3 : Int64) (s0 : Sg) : Option (Int64 × Sg) :=
  if a1 = 3 then
    bnd (fX10_clip (a2 + a3) s0) fun r_1 s_2 =>
    some (r_1, s_2)
  else
    if a1 = 4 then
      bnd (fX10_clip (a2 - a3) s0) fun r_4 s_5 =>
      some (r_4, s_5)
    else
      if a1 = 5 then
        bnd (fX10_clip (a2 * a3) s0) fun r_7 s_8 =>
        some (r_7, s_8)
      else
        if (lg_cmp a3 0) = 0 then
          some (0, s0)
        else
          chk (!(a3 == 0)) <|
          bnd (fX10_clip (a2 / a3) s0) fun r_13 s_14 =>
          some (r_13, s_14)
theorem kX10_two (l : Launch) (D : va_G) (ct : Nat → ClassId) (A : Nat → Nat) (a1 : Int32) (a2 : Int64) (a3 : Int64) (s0 : Sg) (o : Int64 × Sg) (ho : fX10_two a1 a2 a3 s0 = some o) : Con l yX10_two cX10_two 5 (some .long) 1 D ct A [.int a1, .long a2, .long a3] s0 (embL o) := by
  refine con_start (by decide +kernel) (Nat.le_of_ble_eq_true rfl) ho (fun p e s m args below meth c C => ?_)
  refine m_loc (L2 := [(0, .int a1), (1, .long a2), (3, .long a3)]) [0, 1, 2] rfl ?_
  unfold fX10_two
  refine m_iload_n C dX10_two_0 rfl ?_
  refine m_tbl (n := 0) C dX10_two_1 3 27 28 (by decide +kernel) ?_ (fun h_3 => ?_)
  · refine m_lload_n C dX10_two_28 rfl ?_
    refine m_lload_n C dX10_two_29 rfl ?_
    refine m_ladd C dX10_two_30 ?_
    refine m_callSL C ml_X10_239 ⟨Nat.le_of_ble_eq_true rfl, Nat.le_of_ble_eq_true rfl⟩ [.long (a2 + a3)] [] rfl rfl (Nat.le_of_ble_eq_true rfl) dX10_two_31 (fun o ho => kX10_clip l D ct A (a2 + a3) s0 o ho) (fun r_1 s_2 => ?_)
    exact m_lret C dX10_two_34
  · refine m_tbl (n := 0) C dX10_two_1 4 34 35 (by decide +kernel) ?_ (fun h_6 => ?_)
    · refine m_lload_n C dX10_two_35 rfl ?_
      refine m_lload_n C dX10_two_36 rfl ?_
      refine m_lsub C dX10_two_37 ?_
      refine m_callSL C ml_X10_239 ⟨Nat.le_of_ble_eq_true rfl, Nat.le_of_ble_eq_true rfl⟩ [.long (a2 - a3)] [] rfl rfl (Nat.le_of_ble_eq_true rfl) dX10_two_38 (fun o ho => kX10_clip l D ct A (a2 - a3) s0 o ho) (fun r_4 s_5 => ?_)
      exact m_lret C dX10_two_41
    · refine m_tbl (n := 0) C dX10_two_1 5 41 42 (by decide +kernel) ?_ (fun h_9 => ?_)
      · refine m_lload_n C dX10_two_42 rfl ?_
        refine m_lload_n C dX10_two_43 rfl ?_
        refine m_lmul C dX10_two_44 ?_
        refine m_callSL C ml_X10_239 ⟨Nat.le_of_ble_eq_true rfl, Nat.le_of_ble_eq_true rfl⟩ [.long (a2 * a3)] [] rfl rfl (Nat.le_of_ble_eq_true rfl) dX10_two_45 (fun o ho => kX10_clip l D ct A (a2 * a3) s0 o ho) (fun r_7 s_8 => ?_)
        exact m_lret C dX10_two_48
      · refine m_tblD C dX10_two_1 49 rfl (tbl_dflt [3, 4, 5] (fun w hw => by simp only [List.mem_cons, List.not_mem_nil, or_false] at hw; rcases hw with rfl | rfl | rfl <;> assumption) 2 (by decide) (by decide +kernel)) ?_
        refine m_lload_n C dX10_two_49 rfl ?_
        refine m_lconst C dX10_two_50 cl_0 ?_
        refine m_lcmp C dX10_two_51 ?_
        refine m_if_ne (tgt := 59) C dX10_two_52 rfl ?_ ?_
        · refine m_lload_n C dX10_two_59 rfl ?_
          refine m_lload_n C dX10_two_60 rfl ?_
          refine m_chk (fun h_10 => ?_)
          refine m_ldiv C dX10_two_61 (by simpa using h_10) ?_
          refine m_callSL C ml_X10_239 ⟨Nat.le_of_ble_eq_true rfl, Nat.le_of_ble_eq_true rfl⟩ [.long (a2 / a3)] [] rfl rfl (Nat.le_of_ble_eq_true rfl) dX10_two_62 (fun o ho => kX10_clip l D ct A (a2 / a3) s0 o ho) (fun r_13 s_14 => ?_)
          exact m_lret C dX10_two_65
        · refine m_lconst C dX10_two_55 cl_0 ?_
          refine m_goto (tgt := 65) C dX10_two_56 rfl ?_
          exact m_lret C dX10_two_65
def fX10_isAsked (a1 : Int32) (a2 : Int64) (a3 : Int64) (s0 : Sg) : Option (Bool × Sg) :=
  if a1 = 10 then
    if 0 ≤ (lg_cmp a2 a3) then
      some (false, s0)
    else
      some (true, s0)
  else
    if a1 = 11 then
      if 0 < (lg_cmp a2 a3) then
        some (false, s0)
      else
        some (true, s0)
    else
      if a1 = 12 then
        if (lg_cmp a2 a3) ≤ 0 then
          some (false, s0)
        else
          some (true, s0)
      else
        if a1 = 13 then
          if (lg_cmp a2 a3) < 0 then
            some (false, s0)
          else
            some (true, s0)
        else
          if a1 = 14 then
            if (lg_cmp a2 a3) = 0 then
              some (true, s0)
            else
              some (false, s0)
          else
            if (lg_cmp a2 a3) = 0 then
              some (false, s0)
            else
              some (true, s0)
theorem kX10_isAsked (l : Launch) (D : va_G) (ct : Nat → ClassId) (A : Nat → Nat) (a1 : Int32) (a2 : Int64) (a3 : Int64) (s0 : Sg) (o : Bool × Sg) (ho : fX10_isAsked a1 a2 a3 s0 = some o) : Con l yX10_isAsked cX10_isAsked 5 (some .boolean) 0 D ct A [.int a1, .long a2, .long a3] s0 (embZ o) := by
  refine con_start (by decide +kernel) (Nat.le_of_ble_eq_true rfl) ho (fun p e s m args below meth c C => ?_)
  refine m_loc (L2 := [(0, .int a1), (1, .long a2), (3, .long a3)]) [0, 1, 2] rfl ?_
  unfold fX10_isAsked
  refine m_iload_n C dX10_isAsked_0 rfl ?_
  refine m_bipush C dX10_isAsked_1 cb_10 ?_
  refine m_icmp_ne (tgt := 20) C dX10_isAsked_3 rfl ?_ ?_
  · refine m_iload_n C dX10_isAsked_20 rfl ?_
    refine m_bipush C dX10_isAsked_21 cb_11 ?_
    refine m_icmp_ne (tgt := 40) C dX10_isAsked_23 rfl ?_ ?_
    · refine m_iload_n C dX10_isAsked_40 rfl ?_
      refine m_bipush C dX10_isAsked_41 cb_12 ?_
      refine m_icmp_ne (tgt := 60) C dX10_isAsked_43 rfl ?_ ?_
      · refine m_iload_n C dX10_isAsked_60 rfl ?_
        refine m_bipush C dX10_isAsked_61 cb_13 ?_
        refine m_icmp_ne (tgt := 80) C dX10_isAsked_63 rfl ?_ ?_
        · refine m_iload_n C dX10_isAsked_80 rfl ?_
          refine m_bipush C dX10_isAsked_81 cb_14 ?_
          refine m_icmp_ne (tgt := 100) C dX10_isAsked_83 rfl ?_ ?_
          · refine m_lload_n C dX10_isAsked_100 rfl ?_
            refine m_lload_n C dX10_isAsked_101 rfl ?_
            refine m_lcmp C dX10_isAsked_102 ?_
            refine m_if_eq (tgt := 110) C dX10_isAsked_103 rfl ?_ ?_
            · refine m_iconst C dX10_isAsked_110 ci_0 ?_
              exact m_zret C false rfl dX10_isAsked_111
            · refine m_iconst C dX10_isAsked_106 ci_1 ?_
              refine m_goto (tgt := 111) C dX10_isAsked_107 rfl ?_
              exact m_zret C true rfl dX10_isAsked_111
          · refine m_lload_n C dX10_isAsked_86 rfl ?_
            refine m_lload_n C dX10_isAsked_87 rfl ?_
            refine m_lcmp C dX10_isAsked_88 ?_
            refine m_if_ne (tgt := 96) C dX10_isAsked_89 rfl ?_ ?_
            · refine m_iconst C dX10_isAsked_96 ci_0 ?_
              refine m_goto (tgt := 111) C dX10_isAsked_97 rfl ?_
              exact m_zret C false rfl dX10_isAsked_111
            · refine m_iconst C dX10_isAsked_92 ci_1 ?_
              refine m_goto (tgt := 111) C dX10_isAsked_93 rfl ?_
              exact m_zret C true rfl dX10_isAsked_111
        · refine m_lload_n C dX10_isAsked_66 rfl ?_
          refine m_lload_n C dX10_isAsked_67 rfl ?_
          refine m_lcmp C dX10_isAsked_68 ?_
          refine m_if_lt (tgt := 76) C dX10_isAsked_69 rfl ?_ ?_
          · refine m_iconst C dX10_isAsked_76 ci_0 ?_
            refine m_goto (tgt := 111) C dX10_isAsked_77 rfl ?_
            exact m_zret C false rfl dX10_isAsked_111
          · refine m_iconst C dX10_isAsked_72 ci_1 ?_
            refine m_goto (tgt := 111) C dX10_isAsked_73 rfl ?_
            exact m_zret C true rfl dX10_isAsked_111
      · refine m_lload_n C dX10_isAsked_46 rfl ?_
        refine m_lload_n C dX10_isAsked_47 rfl ?_
        refine m_lcmp C dX10_isAsked_48 ?_
        refine m_if_le (tgt := 56) C dX10_isAsked_49 rfl ?_ ?_
        · refine m_iconst C dX10_isAsked_56 ci_0 ?_
          refine m_goto (tgt := 111) C dX10_isAsked_57 rfl ?_
          exact m_zret C false rfl dX10_isAsked_111
        · refine m_iconst C dX10_isAsked_52 ci_1 ?_
          refine m_goto (tgt := 111) C dX10_isAsked_53 rfl ?_
          exact m_zret C true rfl dX10_isAsked_111
    · refine m_lload_n C dX10_isAsked_26 rfl ?_
      refine m_lload_n C dX10_isAsked_27 rfl ?_
      refine m_lcmp C dX10_isAsked_28 ?_
      refine m_if_gt (tgt := 36) C dX10_isAsked_29 rfl ?_ ?_
      · refine m_iconst C dX10_isAsked_36 ci_0 ?_
        refine m_goto (tgt := 111) C dX10_isAsked_37 rfl ?_
        exact m_zret C false rfl dX10_isAsked_111
      · refine m_iconst C dX10_isAsked_32 ci_1 ?_
        refine m_goto (tgt := 111) C dX10_isAsked_33 rfl ?_
        exact m_zret C true rfl dX10_isAsked_111
  · refine m_lload_n C dX10_isAsked_6 rfl ?_
    refine m_lload_n C dX10_isAsked_7 rfl ?_
    refine m_lcmp C dX10_isAsked_8 ?_
    refine m_if_ge (tgt := 16) C dX10_isAsked_9 rfl ?_ ?_
    · refine m_iconst C dX10_isAsked_16 ci_0 ?_
      refine m_goto (tgt := 111) C dX10_isAsked_17 rfl ?_
      exact m_zret C false rfl dX10_isAsked_111
    · refine m_iconst C dX10_isAsked_12 ci_1 ?_
      refine m_goto (tgt := 111) C dX10_isAsked_13 rfl ?_
      exact m_zret C true rfl dX10_isAsked_111
def fX10_work_49_b (v_1 : Int32) (v_2 : Int32) (rec49 : Int32 → Int32 → Int32 → Sg → Option (Sg)) (x4_5 : Int32) (x5_6 : Int32) (x6_7 : Int32) (s_8 : Sg) : Option (Sg) :=
  chk (inb 2720 (v_1 + 2)) <|
  if (gi s_8 30 (ix (v_1 + 2))) ≤ x6_7 then
    some s_8
  else
    chk (inb 2720 (v_2 + (2 * x6_7))) <|
    bv (gi s_8 30 (ix (v_2 + (2 * x6_7)))) fun v_11 =>
    chk (inb 2720 ((v_2 + (2 * x6_7)) + 1)) <|
    bv (gi s_8 30 (ix ((v_2 + (2 * x6_7)) + 1))) fun v_13 =>
    bv (fun (x4_14 : Int32) (x5_15 : Int32) (s_16 : Sg) => 
      bv (x6_7 + 1) fun v_18 =>
      rec49 x4_14 x5_15 v_18 s_16)
    fun k_17 =>
    if 1 < v_11 then
      if v_11 = 2 then
        chk (inb 330 (x4_5 - 1)) <|
        bv (sl s_8 34 (ix (x4_5 - 1)) (-(gl s_8 34 (ix (x4_5 - 1))))) fun s_54 =>
        k_17 x4_5 x5_6 s_54
      else
        if 10 ≤ v_11 then
          if 20 ≤ v_11 then
            if v_11 = 20 then
              chk (inb 330 (x5_6 - 1)) <|
              bv (fun (y_34 : Int32) (y_35 : Bool) => 
                chk (inb 330 y_34) <|
                bv (si s_8 35 (ix y_34) (vp_nar .boolean (b2i y_35))) fun s_38 =>
                k_17 x4_5 x5_6 s_38)
              fun k_36 =>
              if (gi s_8 35 (ix (x5_6 - 1))) = 0 then
                k_36 (x5_6 - 1) true
              else
                k_36 (x5_6 - 1) false
            else
              bv (x5_6 + (-1)) fun v_19 =>
              bv (fun (y_20 : Int32) (y_21 : Bool) => 
                chk (inb 330 y_20) <|
                bv (si s_8 35 (ix y_20) (vp_nar .boolean (b2i y_21))) fun s_24 =>
                k_17 x4_5 v_19 s_24)
              fun k_22 =>
              if v_11 = 21 then
                chk (inb 330 (v_19 - 1)) <|
                bv (fun (y_30 : Int32) => 
                  k_22 y_30 false)
                fun k_31 =>
                if (gi s_8 35 (ix (v_19 - 1))) = 0 then
                  k_31 (v_19 - 1)
                else
                  chk (inb 330 v_19) <|
                  if (gi s_8 35 (ix v_19)) = 0 then
                    k_31 (v_19 - 1)
                  else
                    k_22 (v_19 - 1) true
              else
                chk (inb 330 (v_19 - 1)) <|
                bv (fun (y_26 : Int32) => 
                  k_22 y_26 true)
                fun k_27 =>
                if (gi s_8 35 (ix (v_19 - 1))) = 0 then
                  chk (inb 330 v_19) <|
                  if (gi s_8 35 (ix v_19)) = 0 then
                    k_22 (v_19 - 1) false
                  else
                    k_27 (v_19 - 1)
                else
                  k_27 (v_19 - 1)
          else
            bv (x4_5 + (-2)) fun v_39 =>
            chk (inb 330 v_39) <|
            chk (inb 330 (v_39 + 1)) <|
            bnd (fX10_isAsked v_11 (gl s_8 34 (ix v_39)) (gl s_8 34 (ix (v_39 + 1))) s_8) fun r_42 s_43 =>
            chk (inb 330 x5_6) <|
            bv (si s_43 35 (ix x5_6) (vp_nar .boolean (b2i r_42))) fun s_45 =>
            bv (x5_6 + 1) fun v_46 =>
            k_17 v_39 v_46 s_45
        else
          bv (x4_5 + (-1)) fun v_47 =>
          chk (inb 330 (v_47 - 1)) <|
          chk (inb 330 v_47) <|
          bnd (fX10_two v_11 (gl s_8 34 (ix (v_47 - 1))) (gl s_8 34 (ix v_47)) s_8) fun r_50 s_51 =>
          bv (sl s_51 34 (ix (v_47 - 1)) r_50) fun s_52 =>
          k_17 v_47 x5_6 s_52
    else
      bv (fun (y_55 : Int32) (y_56 : Int64) => 
        chk (inb 330 y_55) <|
        bv (sl s_8 34 (ix y_55) y_56) fun s_59 =>
        bv (x4_5 + 1) fun v_60 =>
        k_17 v_60 x5_6 s_59)
      fun k_57 =>
      if v_11 = 0 then
        k_57 x4_5 (Int32.toInt64 v_13)
      else
        chk (inb 11 v_13) <|
        k_57 x4_5 (Int32.toInt64 (gi s_8 33 (ix v_13)))
def fX10_work (a1 : Int32) (s0 : Sg) : Option (Sg) :=
  bv (((680 * (gi s0 28 (ix 8))) + 1) + (3 * a1)) fun v_1 =>
  bv ((680 * (gi s0 28 (ix 8))) + 75) fun v_2 =>
  chk (inb 2720 (v_1 + 1)) <|
  bv (gi s0 30 (ix (v_1 + 1))) fun v_4 =>
  lo4 (fX10_work_49_b v_1 v_2) FU 0 0 v_4 s0
theorem wX10_work_49 {p : Program} {l : Launch} {e : Env} {s : State} {m : MethodId} {args : Array Value} {below : List Frame} {meth : Method} {c : Code} {D : va_G} {ct : Nat → ClassId} {A : Nat → Nat} (C : Cx p m c cX10_work 9 s args yX10_work.cls meth none D ct A) (v_1 : Int32) (v_2 : Int32) : ∀ (n : Nat) (x4_5 : Int32) (x5_6 : Int32) (x6_7 : Int32) (s_8 : Sg), Wm p l e (rmD 2) s m args below meth c D ct A 9 embV 49 [(0, .ref (A 27)), (2, .int v_1), (3, .int v_2), (4, .int x4_5), (5, .int x5_6), (6, .int x6_7)] [] s_8 (lo4 (fX10_work_49_b v_1 v_2) n x4_5 x5_6 x6_7 s_8) := by
  intro n
  induction n with
  | zero => intro x4_5 x5_6 x6_7 s_8; exact m_none
  | succ n hrec49 =>
    intro x4_5 x5_6 x6_7 s_8
    refine (show Wm p l e (rmD 2) s m args below meth c D ct A 9 embV 49 [(0, .ref (A 27)), (2, .int v_1), (3, .int v_2), (4, .int x4_5), (5, .int x5_6), (6, .int x6_7)] [] s_8 (fX10_work_49_b v_1 v_2 (lo4 (fX10_work_49_b v_1 v_2) n) x4_5 x5_6 x6_7 s_8) from ?_)
    generalize lo4 (fX10_work_49_b v_1 v_2) n = rec49 at hrec49 ⊢
    unfold fX10_work_49_b
    refine m_iload C dX10_work_49 rfl ?_
    refine m_aload_n C dX10_work_51 rfl ?_
    refine m_get (v := .ref (A 30)) C fl_X10_16_9 rfl (by decide) rfl dX10_work_52 ?_
    refine m_iload_n C dX10_work_55 rfl ?_
    refine m_iconst C dX10_work_56 ci_2 ?_
    refine m_iadd C dX10_work_57 ?_
    refine m_chk (fun h_9 => ?_)
    refine m_iald C rfl h_9 dX10_work_58 ?_
    refine m_icmp_ge (tgt := 361) C dX10_work_59 rfl ?_ ?_
    · exact m_vret C dX10_work_361
    · refine m_aload_n C dX10_work_62 rfl ?_
      refine m_get (v := .ref (A 30)) C fl_X10_16_9 rfl (by decide) rfl dX10_work_63 ?_
      refine m_iload_n C dX10_work_66 rfl ?_
      refine m_iconst C dX10_work_67 ci_2 ?_
      refine m_iload C dX10_work_68 rfl ?_
      refine m_imul C dX10_work_70 ?_
      refine m_iadd C dX10_work_71 ?_
      refine m_chk (fun h_10 => ?_)
      refine m_iald C rfl h_10 dX10_work_72 ?_
      refine m_let (fun v_11 => ?_)
      refine m_istore (L2 := [(7, .int v_11), (0, .ref (A 27)), (2, .int v_1), (3, .int v_2), (4, .int x4_5), (5, .int x5_6), (6, .int x6_7)]) C dX10_work_73 (by decide) rfl ?_
      refine m_aload_n C dX10_work_75 rfl ?_
      refine m_get (v := .ref (A 30)) C fl_X10_16_9 rfl (by decide) rfl dX10_work_76 ?_
      refine m_iload_n C dX10_work_79 rfl ?_
      refine m_iconst C dX10_work_80 ci_2 ?_
      refine m_iload C dX10_work_81 rfl ?_
      refine m_imul C dX10_work_83 ?_
      refine m_iadd C dX10_work_84 ?_
      refine m_iconst C dX10_work_85 ci_1 ?_
      refine m_iadd C dX10_work_86 ?_
      refine m_chk (fun h_12 => ?_)
      refine m_iald C rfl h_12 dX10_work_87 ?_
      refine m_let (fun v_13 => ?_)
      refine m_istore (L2 := [(8, .int v_13), (7, .int v_11), (0, .ref (A 27)), (2, .int v_1), (3, .int v_2), (4, .int x4_5), (5, .int x5_6), (6, .int x6_7)]) C dX10_work_88 (by decide) rfl ?_
      refine m_iload C dX10_work_90 rfl ?_
      refine m_iconst C dX10_work_92 ci_1 ?_
      refine m_jn (P := fun (k_17 : Int32 → Int32 → Sg → Option (Sg)) => ∀ (x4_14 : Int32) (x5_15 : Int32) (s_16 : Sg), Wm p l e (rmD 2) s m args below meth c D ct A 9 embV 355 [(0, .ref (A 27)), (2, .int v_1), (3, .int v_2), (4, .int x4_14), (5, .int x5_15), (6, .int x6_7)] [] s_16 (k_17 x4_14 x5_15 s_16)) ?_ (fun k_17 hk_17 => ?_)
      · intro x4_14 x5_15 s_16
        refine m_iincb (L2 := fun v_18 => [(6, .int v_18), (0, .ref (A 27)), (2, .int v_1), (3, .int v_2), (4, .int x4_14), (5, .int x5_15)]) (q := 5) C dX10_work_355 rfl ci_1 (by decide) (fun _ => rfl) (fun v_18 => ?_)
        refine m_goto (tgt := 49) C dX10_work_358 rfl ?_
        refine m_loc (L2 := [(0, .ref (A 27)), (2, .int v_1), (3, .int v_2), (4, .int x4_14), (5, .int x5_15), (6, .int v_18)]) [1, 2, 3, 4, 5, 0] rfl ?_
        exact hrec49 x4_14 x5_15 v_18 s_16
      refine m_icmp_gt (tgt := 128) C dX10_work_93 rfl ?_ ?_
      · refine m_iload C dX10_work_128 rfl ?_
        refine m_iconst C dX10_work_130 ci_2 ?_
        refine m_icmp_ne (tgt := 156) C dX10_work_131 rfl ?_ ?_
        · refine m_iload C dX10_work_156 rfl ?_
          refine m_bipush C dX10_work_158 cb_10 ?_
          refine m_icmp_ge (tgt := 199) C dX10_work_160 rfl ?_ ?_
          · refine m_iload C dX10_work_199 rfl ?_
            refine m_bipush C dX10_work_201 cb_20 ?_
            refine m_icmp_ge (tgt := 243) C dX10_work_203 rfl ?_ ?_
            · refine m_iload C dX10_work_243 rfl ?_
              refine m_bipush C dX10_work_245 cb_20 ?_
              refine m_icmp_ne (tgt := 279) C dX10_work_247 rfl ?_ ?_
              · refine m_iincb (L2 := fun v_19 => [(5, .int v_19), (8, .int v_13), (7, .int v_11), (0, .ref (A 27)), (2, .int v_1), (3, .int v_2), (4, .int x4_5), (6, .int x6_7)]) (q := 6) C dX10_work_279 rfl ci_m1 (by decide) (fun _ => rfl) (fun v_19 => ?_)
                refine m_aload_n C dX10_work_282 rfl ?_
                refine m_get (v := .ref (A 35)) C fl_X10_39_9 rfl (by decide) rfl dX10_work_283 ?_
                refine m_iload C dX10_work_286 rfl ?_
                refine m_iconst C dX10_work_288 ci_1 ?_
                refine m_isub C dX10_work_289 ?_
                refine m_iload C dX10_work_290 rfl ?_
                refine m_bipush C dX10_work_292 cb_21 ?_
                refine m_jn (P := fun (k_22 : Int32 → Bool → Option (Sg)) => ∀ (y_20 : Int32) (y_21 : Bool), Wm p l e (rmD 2) s m args below meth c D ct A 9 embV 354 [(0, .ref (A 27)), (2, .int v_1), (3, .int v_2), (4, .int x4_5), (5, .int v_19), (6, .int x6_7)] [.int (b2i y_21), .int y_20, .ref (A 35)] s_8 (k_22 y_20 y_21)) ?_ (fun k_22 hk_22 => ?_)
                · intro y_20 y_21
                  refine m_chk (fun h_23 => ?_)
                  refine m_zast C rfl h_23 dX10_work_354 (fun s_24 => ?_)
                  refine m_loc (L2 := [(0, .ref (A 27)), (2, .int v_1), (3, .int v_2), (4, .int x4_5), (5, .int v_19), (6, .int x6_7)]) [0, 1, 2, 3, 4, 5] rfl ?_
                  exact hk_17 x4_5 v_19 s_24
                refine m_icmp_ne (tgt := 327) C dX10_work_294 rfl ?_ ?_
                · refine m_aload_n C dX10_work_327 rfl ?_
                  refine m_get (v := .ref (A 35)) C fl_X10_39_9 rfl (by decide) rfl dX10_work_328 ?_
                  refine m_iload C dX10_work_331 rfl ?_
                  refine m_iconst C dX10_work_333 ci_1 ?_
                  refine m_isub C dX10_work_334 ?_
                  refine m_chk (fun h_25 => ?_)
                  refine m_zald C rfl h_25 dX10_work_335 ?_
                  refine m_jn (P := fun (k_27 : Int32 → Option (Sg)) => ∀ (y_26 : Int32), Wm p l e (rmD 2) s m args below meth c D ct A 9 embV 349 [(0, .ref (A 27)), (2, .int v_1), (3, .int v_2), (4, .int x4_5), (5, .int v_19), (6, .int x6_7)] [.int y_26, .ref (A 35)] s_8 (k_27 y_26)) ?_ (fun k_27 hk_27 => ?_)
                  · intro y_26
                    refine m_iconst C dX10_work_349 ci_1 ?_
                    refine m_goto (tgt := 354) C dX10_work_350 rfl ?_
                    refine m_loc (L2 := [(0, .ref (A 27)), (2, .int v_1), (3, .int v_2), (4, .int x4_5), (5, .int v_19), (6, .int x6_7)]) [0, 1, 2, 3, 4, 5] rfl ?_
                    exact hk_22 y_26 true
                  refine m_if_ne (tgt := 349) C dX10_work_336 rfl ?_ ?_
                  · refine m_loc (L2 := [(0, .ref (A 27)), (2, .int v_1), (3, .int v_2), (4, .int x4_5), (5, .int v_19), (6, .int x6_7)]) [3, 4, 5, 6, 0, 7] rfl ?_
                    exact hk_27 (v_19 - 1)
                  · refine m_aload_n C dX10_work_339 rfl ?_
                    refine m_get (v := .ref (A 35)) C fl_X10_39_9 rfl (by decide) rfl dX10_work_340 ?_
                    refine m_iload C dX10_work_343 rfl ?_
                    refine m_chk (fun h_28 => ?_)
                    refine m_zald C rfl h_28 dX10_work_345 ?_
                    refine m_if_eq (tgt := 353) C dX10_work_346 rfl ?_ ?_
                    · refine m_iconst C dX10_work_353 ci_0 ?_
                      refine m_loc (L2 := [(0, .ref (A 27)), (2, .int v_1), (3, .int v_2), (4, .int x4_5), (5, .int v_19), (6, .int x6_7)]) [3, 4, 5, 6, 0, 7] rfl ?_
                      exact hk_22 (v_19 - 1) false
                    · refine m_loc (L2 := [(0, .ref (A 27)), (2, .int v_1), (3, .int v_2), (4, .int x4_5), (5, .int v_19), (6, .int x6_7)]) [3, 4, 5, 6, 0, 7] rfl ?_
                      exact hk_27 (v_19 - 1)
                · refine m_aload_n C dX10_work_297 rfl ?_
                  refine m_get (v := .ref (A 35)) C fl_X10_39_9 rfl (by decide) rfl dX10_work_298 ?_
                  refine m_iload C dX10_work_301 rfl ?_
                  refine m_iconst C dX10_work_303 ci_1 ?_
                  refine m_isub C dX10_work_304 ?_
                  refine m_chk (fun h_29 => ?_)
                  refine m_zald C rfl h_29 dX10_work_305 ?_
                  refine m_jn (P := fun (k_31 : Int32 → Option (Sg)) => ∀ (y_30 : Int32), Wm p l e (rmD 2) s m args below meth c D ct A 9 embV 323 [(0, .ref (A 27)), (2, .int v_1), (3, .int v_2), (4, .int x4_5), (5, .int v_19), (6, .int x6_7)] [.int y_30, .ref (A 35)] s_8 (k_31 y_30)) ?_ (fun k_31 hk_31 => ?_)
                  · intro y_30
                    refine m_iconst C dX10_work_323 ci_0 ?_
                    refine m_goto (tgt := 354) C dX10_work_324 rfl ?_
                    refine m_loc (L2 := [(0, .ref (A 27)), (2, .int v_1), (3, .int v_2), (4, .int x4_5), (5, .int v_19), (6, .int x6_7)]) [0, 1, 2, 3, 4, 5] rfl ?_
                    exact hk_22 y_30 false
                  refine m_if_eq (tgt := 323) C dX10_work_306 rfl ?_ ?_
                  · refine m_loc (L2 := [(0, .ref (A 27)), (2, .int v_1), (3, .int v_2), (4, .int x4_5), (5, .int v_19), (6, .int x6_7)]) [3, 4, 5, 6, 0, 7] rfl ?_
                    exact hk_31 (v_19 - 1)
                  · refine m_aload_n C dX10_work_309 rfl ?_
                    refine m_get (v := .ref (A 35)) C fl_X10_39_9 rfl (by decide) rfl dX10_work_310 ?_
                    refine m_iload C dX10_work_313 rfl ?_
                    refine m_chk (fun h_32 => ?_)
                    refine m_zald C rfl h_32 dX10_work_315 ?_
                    refine m_if_eq (tgt := 323) C dX10_work_316 rfl ?_ ?_
                    · refine m_loc (L2 := [(0, .ref (A 27)), (2, .int v_1), (3, .int v_2), (4, .int x4_5), (5, .int v_19), (6, .int x6_7)]) [3, 4, 5, 6, 0, 7] rfl ?_
                      exact hk_31 (v_19 - 1)
                    · refine m_iconst C dX10_work_319 ci_1 ?_
                      refine m_goto (tgt := 354) C dX10_work_320 rfl ?_
                      refine m_loc (L2 := [(0, .ref (A 27)), (2, .int v_1), (3, .int v_2), (4, .int x4_5), (5, .int v_19), (6, .int x6_7)]) [3, 4, 5, 6, 0, 7] rfl ?_
                      exact hk_22 (v_19 - 1) true
              · refine m_aload_n C dX10_work_250 rfl ?_
                refine m_get (v := .ref (A 35)) C fl_X10_39_9 rfl (by decide) rfl dX10_work_251 ?_
                refine m_iload C dX10_work_254 rfl ?_
                refine m_iconst C dX10_work_256 ci_1 ?_
                refine m_isub C dX10_work_257 ?_
                refine m_aload_n C dX10_work_258 rfl ?_
                refine m_get (v := .ref (A 35)) C fl_X10_39_9 rfl (by decide) rfl dX10_work_259 ?_
                refine m_iload C dX10_work_262 rfl ?_
                refine m_iconst C dX10_work_264 ci_1 ?_
                refine m_isub C dX10_work_265 ?_
                refine m_chk (fun h_33 => ?_)
                refine m_zald C rfl h_33 dX10_work_266 ?_
                refine m_jn (P := fun (k_36 : Int32 → Bool → Option (Sg)) => ∀ (y_34 : Int32) (y_35 : Bool), Wm p l e (rmD 2) s m args below meth c D ct A 9 embV 275 [(0, .ref (A 27)), (2, .int v_1), (3, .int v_2), (4, .int x4_5), (5, .int x5_6), (6, .int x6_7)] [.int (b2i y_35), .int y_34, .ref (A 35)] s_8 (k_36 y_34 y_35)) ?_ (fun k_36 hk_36 => ?_)
                · intro y_34 y_35
                  refine m_chk (fun h_37 => ?_)
                  refine m_zast C rfl h_37 dX10_work_275 (fun s_38 => ?_)
                  refine m_goto (tgt := 355) C dX10_work_276 rfl ?_
                  refine m_loc (L2 := [(0, .ref (A 27)), (2, .int v_1), (3, .int v_2), (4, .int x4_5), (5, .int x5_6), (6, .int x6_7)]) [0, 1, 2, 3, 4, 5] rfl ?_
                  exact hk_17 x4_5 x5_6 s_38
                refine m_if_ne (tgt := 274) C dX10_work_267 rfl ?_ ?_
                · refine m_iconst C dX10_work_274 ci_0 ?_
                  refine m_loc (L2 := [(0, .ref (A 27)), (2, .int v_1), (3, .int v_2), (4, .int x4_5), (5, .int x5_6), (6, .int x6_7)]) [2, 3, 4, 5, 6, 7] rfl ?_
                  exact hk_36 (x5_6 - 1) false
                · refine m_iconst C dX10_work_270 ci_1 ?_
                  refine m_goto (tgt := 275) C dX10_work_271 rfl ?_
                  refine m_loc (L2 := [(0, .ref (A 27)), (2, .int v_1), (3, .int v_2), (4, .int x4_5), (5, .int x5_6), (6, .int x6_7)]) [2, 3, 4, 5, 6, 7] rfl ?_
                  exact hk_36 (x5_6 - 1) true
            · refine m_iincb (L2 := fun v_39 => [(4, .int v_39), (8, .int v_13), (7, .int v_11), (0, .ref (A 27)), (2, .int v_1), (3, .int v_2), (5, .int x5_6), (6, .int x6_7)]) (q := 5) C dX10_work_206 rfl ci_m2 (by decide) (fun _ => rfl) (fun v_39 => ?_)
              refine m_aload_n C dX10_work_209 rfl ?_
              refine m_get (v := .ref (A 35)) C fl_X10_39_9 rfl (by decide) rfl dX10_work_210 ?_
              refine m_iload C dX10_work_213 rfl ?_
              refine m_iload C dX10_work_215 rfl ?_
              refine m_aload_n C dX10_work_217 rfl ?_
              refine m_get (v := .ref (A 34)) C fl_X10_35_9 rfl (by decide) rfl dX10_work_218 ?_
              refine m_iload C dX10_work_221 rfl ?_
              refine m_chk (fun h_40 => ?_)
              refine m_lald C rfl h_40 dX10_work_223 ?_
              refine m_aload_n C dX10_work_224 rfl ?_
              refine m_get (v := .ref (A 34)) C fl_X10_35_9 rfl (by decide) rfl dX10_work_225 ?_
              refine m_iload C dX10_work_228 rfl ?_
              refine m_iconst C dX10_work_230 ci_1 ?_
              refine m_iadd C dX10_work_231 ?_
              refine m_chk (fun h_41 => ?_)
              refine m_lald C rfl h_41 dX10_work_232 ?_
              refine m_callSZ C ml_X10_247 ⟨Nat.le_of_ble_eq_true rfl, Nat.le_of_ble_eq_true rfl⟩ [.int v_11, .long (gl s_8 34 (ix v_39)), .long (gl s_8 34 (ix (v_39 + 1)))] [.int x5_6, .ref (A 35)] rfl rfl (Nat.le_of_ble_eq_true rfl) dX10_work_233 (fun o ho => kX10_isAsked l D ct A v_11 (gl s_8 34 (ix v_39)) (gl s_8 34 (ix (v_39 + 1))) s_8 o ho) (fun r_42 s_43 => ?_)
              refine m_chk (fun h_44 => ?_)
              refine m_zast C rfl h_44 dX10_work_236 (fun s_45 => ?_)
              refine m_iincb (L2 := fun v_46 => [(5, .int v_46), (4, .int v_39), (8, .int v_13), (7, .int v_11), (0, .ref (A 27)), (2, .int v_1), (3, .int v_2), (6, .int x6_7)]) (q := 6) C dX10_work_237 rfl ci_1 (by decide) (fun _ => rfl) (fun v_46 => ?_)
              refine m_goto (tgt := 355) C dX10_work_240 rfl ?_
              refine m_loc (L2 := [(0, .ref (A 27)), (2, .int v_1), (3, .int v_2), (4, .int v_39), (5, .int v_46), (6, .int x6_7)]) [4, 5, 6, 1, 0, 7] rfl ?_
              exact hk_17 v_39 v_46 s_45
          · refine m_iincb (L2 := fun v_47 => [(4, .int v_47), (8, .int v_13), (7, .int v_11), (0, .ref (A 27)), (2, .int v_1), (3, .int v_2), (5, .int x5_6), (6, .int x6_7)]) (q := 5) C dX10_work_163 rfl ci_m1 (by decide) (fun _ => rfl) (fun v_47 => ?_)
            refine m_aload_n C dX10_work_166 rfl ?_
            refine m_get (v := .ref (A 34)) C fl_X10_35_9 rfl (by decide) rfl dX10_work_167 ?_
            refine m_iload C dX10_work_170 rfl ?_
            refine m_iconst C dX10_work_172 ci_1 ?_
            refine m_isub C dX10_work_173 ?_
            refine m_iload C dX10_work_174 rfl ?_
            refine m_aload_n C dX10_work_176 rfl ?_
            refine m_get (v := .ref (A 34)) C fl_X10_35_9 rfl (by decide) rfl dX10_work_177 ?_
            refine m_iload C dX10_work_180 rfl ?_
            refine m_iconst C dX10_work_182 ci_1 ?_
            refine m_isub C dX10_work_183 ?_
            refine m_chk (fun h_48 => ?_)
            refine m_lald C rfl h_48 dX10_work_184 ?_
            refine m_aload_n C dX10_work_185 rfl ?_
            refine m_get (v := .ref (A 34)) C fl_X10_35_9 rfl (by decide) rfl dX10_work_186 ?_
            refine m_iload C dX10_work_189 rfl ?_
            refine m_chk (fun h_49 => ?_)
            refine m_lald C rfl h_49 dX10_work_191 ?_
            refine m_callSL C ml_X10_243 ⟨Nat.le_of_ble_eq_true rfl, Nat.le_of_ble_eq_true rfl⟩ [.int v_11, .long (gl s_8 34 (ix (v_47 - 1))), .long (gl s_8 34 (ix v_47))] [.int (v_47 - 1), .ref (A 34)] rfl rfl (Nat.le_of_ble_eq_true rfl) dX10_work_192 (fun o ho => kX10_two l D ct A v_11 (gl s_8 34 (ix (v_47 - 1))) (gl s_8 34 (ix v_47)) s_8 o ho) (fun r_50 s_51 => ?_)
            refine m_last C rfl h_48 dX10_work_195 (fun s_52 => ?_)
            refine m_goto (tgt := 355) C dX10_work_196 rfl ?_
            refine m_loc (L2 := [(0, .ref (A 27)), (2, .int v_1), (3, .int v_2), (4, .int v_47), (5, .int x5_6), (6, .int x6_7)]) [3, 4, 5, 0, 6, 7] rfl ?_
            exact hk_17 v_47 x5_6 s_52
        · refine m_aload_n C dX10_work_134 rfl ?_
          refine m_get (v := .ref (A 34)) C fl_X10_35_9 rfl (by decide) rfl dX10_work_135 ?_
          refine m_iload C dX10_work_138 rfl ?_
          refine m_iconst C dX10_work_140 ci_1 ?_
          refine m_isub C dX10_work_141 ?_
          refine m_aload_n C dX10_work_142 rfl ?_
          refine m_get (v := .ref (A 34)) C fl_X10_35_9 rfl (by decide) rfl dX10_work_143 ?_
          refine m_iload C dX10_work_146 rfl ?_
          refine m_iconst C dX10_work_148 ci_1 ?_
          refine m_isub C dX10_work_149 ?_
          refine m_chk (fun h_53 => ?_)
          refine m_lald C rfl h_53 dX10_work_150 ?_
          refine m_lneg C dX10_work_151 ?_
          refine m_last C rfl h_53 dX10_work_152 (fun s_54 => ?_)
          refine m_goto (tgt := 355) C dX10_work_153 rfl ?_
          refine m_loc (L2 := [(0, .ref (A 27)), (2, .int v_1), (3, .int v_2), (4, .int x4_5), (5, .int x5_6), (6, .int x6_7)]) [2, 3, 4, 5, 6, 7] rfl ?_
          exact hk_17 x4_5 x5_6 s_54
      · refine m_aload_n C dX10_work_96 rfl ?_
        refine m_get (v := .ref (A 34)) C fl_X10_35_9 rfl (by decide) rfl dX10_work_97 ?_
        refine m_iload C dX10_work_100 rfl ?_
        refine m_iload C dX10_work_102 rfl ?_
        refine m_jn (P := fun (k_57 : Int32 → Int64 → Option (Sg)) => ∀ (y_55 : Int32) (y_56 : Int64), Wm p l e (rmD 2) s m args below meth c D ct A 9 embV 121 [(0, .ref (A 27)), (2, .int v_1), (3, .int v_2), (4, .int x4_5), (5, .int x5_6), (6, .int x6_7)] [.long y_56, .int y_55, .ref (A 34)] s_8 (k_57 y_55 y_56)) ?_ (fun k_57 hk_57 => ?_)
        · intro y_55 y_56
          refine m_chk (fun h_58 => ?_)
          refine m_last C rfl h_58 dX10_work_121 (fun s_59 => ?_)
          refine m_iincb (L2 := fun v_60 => [(4, .int v_60), (0, .ref (A 27)), (2, .int v_1), (3, .int v_2), (5, .int x5_6), (6, .int x6_7)]) (q := 3) C dX10_work_122 rfl ci_1 (by decide) (fun _ => rfl) (fun v_60 => ?_)
          refine m_goto (tgt := 355) C dX10_work_125 rfl ?_
          refine m_loc (L2 := [(0, .ref (A 27)), (2, .int v_1), (3, .int v_2), (4, .int v_60), (5, .int x5_6), (6, .int x6_7)]) [1, 2, 3, 0, 4, 5] rfl ?_
          exact hk_17 v_60 x5_6 s_59
        refine m_if_ne (tgt := 113) C dX10_work_104 rfl ?_ ?_
        · refine m_aload_n C dX10_work_113 rfl ?_
          refine m_get (v := .ref (A 33)) C fl_X10_32_9 rfl (by decide) rfl dX10_work_114 ?_
          refine m_iload C dX10_work_117 rfl ?_
          refine m_chk (fun h_61 => ?_)
          refine m_iald C rfl h_61 dX10_work_119 ?_
          refine m_i2l C dX10_work_120 ?_
          refine m_loc (L2 := [(0, .ref (A 27)), (2, .int v_1), (3, .int v_2), (4, .int x4_5), (5, .int x5_6), (6, .int x6_7)]) [2, 3, 4, 5, 6, 7] rfl ?_
          exact hk_57 x4_5 (Int32.toInt64 (gi s_8 33 (ix v_13)))
        · refine m_iload C dX10_work_107 rfl ?_
          refine m_i2l C dX10_work_109 ?_
          refine m_goto (tgt := 121) C dX10_work_110 rfl ?_
          refine m_loc (L2 := [(0, .ref (A 27)), (2, .int v_1), (3, .int v_2), (4, .int x4_5), (5, .int x5_6), (6, .int x6_7)]) [2, 3, 4, 5, 6, 7] rfl ?_
          exact hk_57 x4_5 (Int32.toInt64 v_13)
theorem kX10_work (l : Launch) (D : va_G) (ct : Nat → ClassId) (A : Nat → Nat) (a1 : Int32) (s0 : Sg) (o : Sg) (ho : fX10_work a1 s0 = some o) : Con l yX10_work cX10_work 9 none 2 D ct A [.ref (A 27), .int a1] s0 (embV o) := by
  refine con_start (by decide +kernel) (Nat.le_of_ble_eq_true rfl) ho (fun p e s m args below meth c C => ?_)
  refine m_loc (L2 := [(0, .ref (A 27)), (1, .int a1)]) [0, 1] rfl ?_
  unfold fX10_work
  refine m_sipush C dX10_work_0 cs_680 ?_
  refine m_aload_n C dX10_work_3 rfl ?_
  refine m_get (v := .ref (A 28)) C fl_X10_7_9 rfl (by decide) rfl dX10_work_4 ?_
  refine m_bipush C dX10_work_7 cb_8 ?_
  refine m_iald C rfl (by decide +kernel) dX10_work_9 ?_
  refine m_imul C dX10_work_10 ?_
  refine m_iconst C dX10_work_11 ci_1 ?_
  refine m_iadd C dX10_work_12 ?_
  refine m_iconst C dX10_work_13 ci_3 ?_
  refine m_iload_n C dX10_work_14 rfl ?_
  refine m_imul C dX10_work_15 ?_
  refine m_iadd C dX10_work_16 ?_
  refine m_let (fun v_1 => ?_)
  refine m_istore_n (L2 := [(2, .int v_1), (0, .ref (A 27)), (1, .int a1)]) C dX10_work_17 rfl (by decide) rfl ?_
  refine m_sipush C dX10_work_18 cs_680 ?_
  refine m_aload_n C dX10_work_21 rfl ?_
  refine m_get (v := .ref (A 28)) C fl_X10_7_9 rfl (by decide) rfl dX10_work_22 ?_
  refine m_bipush C dX10_work_25 cb_8 ?_
  refine m_iald C rfl (by decide +kernel) dX10_work_27 ?_
  refine m_imul C dX10_work_28 ?_
  refine m_bipush C dX10_work_29 cb_75 ?_
  refine m_iadd C dX10_work_31 ?_
  refine m_let (fun v_2 => ?_)
  refine m_istore_n (L2 := [(3, .int v_2), (2, .int v_1), (0, .ref (A 27)), (1, .int a1)]) C dX10_work_32 rfl (by decide) rfl ?_
  refine m_iconst C dX10_work_33 ci_0 ?_
  refine m_istore (L2 := [(4, .int 0), (3, .int v_2), (2, .int v_1), (0, .ref (A 27)), (1, .int a1)]) C dX10_work_34 (by decide) rfl ?_
  refine m_iconst C dX10_work_36 ci_0 ?_
  refine m_istore (L2 := [(5, .int 0), (4, .int 0), (3, .int v_2), (2, .int v_1), (0, .ref (A 27)), (1, .int a1)]) C dX10_work_37 (by decide) rfl ?_
  refine m_aload_n C dX10_work_39 rfl ?_
  refine m_get (v := .ref (A 30)) C fl_X10_16_9 rfl (by decide) rfl dX10_work_40 ?_
  refine m_iload_n C dX10_work_43 rfl ?_
  refine m_iconst C dX10_work_44 ci_1 ?_
  refine m_iadd C dX10_work_45 ?_
  refine m_chk (fun h_3 => ?_)
  refine m_iald C rfl h_3 dX10_work_46 ?_
  refine m_let (fun v_4 => ?_)
  refine m_istore (L2 := [(6, .int v_4), (5, .int 0), (4, .int 0), (3, .int v_2), (2, .int v_1), (0, .ref (A 27)), (1, .int a1)]) C dX10_work_47 (by decide) rfl ?_
  refine m_loc (L2 := [(0, .ref (A 27)), (2, .int v_1), (3, .int v_2), (4, .int 0), (5, .int 0), (6, .int v_4)]) [5, 4, 3, 2, 1, 0] rfl ?_
  exact wX10_work_49 C v_1 v_2 FU 0 0 v_4 s0
