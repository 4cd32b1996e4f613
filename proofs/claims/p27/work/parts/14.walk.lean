def fX10_by_ (a1 : Int32) (a2 : Int32) (s0 : Sg) : Option (Int32 × Sg) :=
  bv (a1 ||| (1 <<< (a2 &&& 31))) fun v_1 =>
  chk (inb 1024 v_1) <|
  if (gi s0 38 (ix v_1)) = 0 then
    some (100000000, s0)
  else
    if (gi s0 39 (ix v_1)) ≤ (gi s0 41 (ix v_1)) then
      some (gi s0 41 (ix v_1), s0)
    else
      some (gi s0 39 (ix v_1), s0)
theorem kX10_by_ (l : Launch) (D : va_G) (ct : Nat → ClassId) (A : Nat → Nat) (a1 : Int32) (a2 : Int32) (s0 : Sg) (o : Int32 × Sg) (ho : fX10_by_ a1 a2 s0 = some o) : Con l yX10_by_ cX10_by_ 4 (some .int) 0 D ct A [.ref (A 27), .int a1, .int a2] s0 (embI o) := by
  refine con_start (by decide +kernel) (Nat.le_of_ble_eq_true rfl) ho (fun p e s m args below meth c C => ?_)
  refine m_loc (L2 := [(0, .ref (A 27)), (1, .int a1), (2, .int a2)]) [0, 1, 2] rfl ?_
  unfold fX10_by_
  refine m_iload_n C dX10_by__0 rfl ?_
  refine m_iconst C dX10_by__1 ci_1 ?_
  refine m_iload_n C dX10_by__2 rfl ?_
  refine m_ishl C dX10_by__3 ?_
  refine m_ior C dX10_by__4 ?_
  refine m_let (fun v_1 => ?_)
  refine m_istore_n (L2 := [(3, .int v_1), (0, .ref (A 27)), (1, .int a1), (2, .int a2)]) C dX10_by__5 rfl (by decide) rfl ?_
  refine m_aload_n C dX10_by__6 rfl ?_
  refine m_get (v := .ref (A 38)) C fl_X10_49_9 rfl (by decide) rfl dX10_by__7 ?_
  refine m_iload_n C dX10_by__10 rfl ?_
  refine m_chk (fun h_2 => ?_)
  refine m_zald C rfl h_2 dX10_by__11 ?_
  refine m_if_ne (tgt := 21) C dX10_by__12 rfl ?_ ?_
  · refine m_aload_n C dX10_by__21 rfl ?_
    refine m_get (v := .ref (A 39)) C fl_X10_52_9 rfl (by decide) rfl dX10_by__22 ?_
    refine m_iload_n C dX10_by__25 rfl ?_
    refine m_iald C rfl h_2 dX10_by__26 ?_
    refine m_aload_n C dX10_by__27 rfl ?_
    refine m_get (v := .ref (A 41)) C fl_X10_58_9 rfl (by decide) rfl dX10_by__28 ?_
    refine m_iload_n C dX10_by__31 rfl ?_
    refine m_iald C rfl h_2 dX10_by__32 ?_
    refine m_icmp_le (tgt := 45) C dX10_by__33 rfl ?_ ?_
    · refine m_aload_n C dX10_by__45 rfl ?_
      refine m_get (v := .ref (A 41)) C fl_X10_58_9 rfl (by decide) rfl dX10_by__46 ?_
      refine m_iload_n C dX10_by__49 rfl ?_
      refine m_iald C rfl h_2 dX10_by__50 ?_
      exact m_iret C dX10_by__51
    · refine m_aload_n C dX10_by__36 rfl ?_
      refine m_get (v := .ref (A 39)) C fl_X10_52_9 rfl (by decide) rfl dX10_by__37 ?_
      refine m_iload_n C dX10_by__40 rfl ?_
      refine m_iald C rfl h_2 dX10_by__41 ?_
      refine m_goto (tgt := 51) C dX10_by__42 rfl ?_
      exact m_iret C dX10_by__51
  · refine m_ldcw C wd_1298 dX10_by__15 ?_
    refine m_goto (tgt := 51) C dX10_by__18 rfl ?_
    exact m_iret C dX10_by__51
def fX10_findLeft_35_b (x2_2 : Int32) (k_10 : Sg → Option (Sg)) (rec35 : Int32 → Sg → Option (Sg)) (x3_12 : Int32) (s_13 : Sg) : Option (Sg) :=
  if (gi s_13 27 29) ≤ x3_12 then
    k_10 s_13
  else
    bnd (fX10_has x2_2 x3_12 s_13) fun r_14 s_15 =>
    bv (fun (s_16 : Sg) => 
      bv (x3_12 + 1) fun v_18 =>
      rec35 v_18 s_16)
    fun k_17 =>
    if (b2i r_14) = 0 then
      bnd (fX10_by_ x2_2 x3_12 s_15) fun r_19 s_20 =>
      chk (inb 1024 x2_2) <|
      if (gi s_20 41 (ix x2_2)) ≤ r_19 then
        k_17 s_20
      else
        bnd (fX10_by_ x2_2 x3_12 s_20) fun r_22 s_23 =>
        bv (si s_23 41 (ix x2_2) r_22) fun s_24 =>
        k_17 s_24
    else
      k_17 s_15
def fX10_findLeft_11_b (v_1 : Int32) (rec11 : Int32 → Sg → Option (Sg)) (x2_2 : Int32) (s_3 : Sg) : Option (Sg) :=
  if x2_2 < 0 then
    some s_3
  else
    bv (fun (y_4 : Int32) (y_5 : Int32) => 
      chk (inb 1024 y_4) <|
      bv (si s_3 41 (ix y_4) y_5) fun s_8 =>
      bv (fun (s_9 : Sg) => 
        bv (x2_2 + (-1)) fun v_11 =>
        rec11 v_11 s_9)
      fun k_10 =>
      lo2 (fX10_findLeft_35_b x2_2 k_10) FU 0 s_8)
    fun k_6 =>
    if x2_2 = v_1 then
      k_6 x2_2 0
    else
      k_6 x2_2 100000000
def fX10_findLeft (s0 : Sg) : Option (Sg) :=
  bv ((1 <<< ((gi s0 27 29) &&& 31)) - 1) fun v_1 =>
  lo2 (fX10_findLeft_11_b v_1) FU v_1 s0
theorem wX10_findLeft_35 {p : Program} {l : Launch} {e : Env} {s : State} {m : MethodId} {args : Array Value} {below : List Frame} {meth : Method} {c : Code} {D : va_G} {ct : Nat → ClassId} {A : Nat → Nat} (C : Cx p m c cX10_findLeft 4 s args yX10_findLeft.cls meth none D ct A) (v_1 : Int32) (x2_2 : Int32) (k_10 : Sg → Option (Sg)) (hk_10 : ∀ (s_9 : Sg), Wm p l e (rmD 1) s m args below meth c D ct A 4 embV 84 [(0, .ref (A 27)), (1, .int v_1), (2, .int x2_2)] [] s_9 (k_10 s_9)) : ∀ (n : Nat) (x3_12 : Int32) (s_13 : Sg), Wm p l e (rmD 1) s m args below meth c D ct A 4 embV 35 [(0, .ref (A 27)), (1, .int v_1), (2, .int x2_2), (3, .int x3_12)] [] s_13 (lo2 (fX10_findLeft_35_b x2_2 k_10) n x3_12 s_13) := by
  intro n
  induction n with
  | zero => intro x3_12 s_13; exact m_none
  | succ n hrec35 =>
    intro x3_12 s_13
    refine (show Wm p l e (rmD 1) s m args below meth c D ct A 4 embV 35 [(0, .ref (A 27)), (1, .int v_1), (2, .int x2_2), (3, .int x3_12)] [] s_13 (fX10_findLeft_35_b x2_2 k_10 (lo2 (fX10_findLeft_35_b x2_2 k_10) n) x3_12 s_13) from ?_)
    generalize lo2 (fX10_findLeft_35_b x2_2 k_10) n = rec35 at hrec35 ⊢
    unfold fX10_findLeft_35_b
    refine m_iload_n C dX10_findLeft_35 rfl ?_
    refine m_aload_n C dX10_findLeft_36 rfl ?_
    refine m_get (v := .int (gi s_13 27 29)) C fl_X10_324_9 rfl (by decide) rfl dX10_findLeft_37 ?_
    refine m_icmp_ge (tgt := 84) C dX10_findLeft_40 rfl ?_ ?_
    · refine m_loc (L2 := [(0, .ref (A 27)), (1, .int v_1), (2, .int x2_2)]) [0, 1, 2] rfl ?_
      exact hk_10 s_13
    · refine m_iload_n C dX10_findLeft_43 rfl ?_
      refine m_iload_n C dX10_findLeft_44 rfl ?_
      refine m_callSZ C ml_X10_321 ⟨Nat.le_of_ble_eq_true rfl, Nat.le_of_ble_eq_true rfl⟩ [.int x2_2, .int x3_12] [] rfl rfl (Nat.le_of_ble_eq_true rfl) dX10_findLeft_45 (fun o ho => kX10_has l D ct A x2_2 x3_12 s_13 o ho) (fun r_14 s_15 => ?_)
      refine m_jn (P := fun (k_17 : Sg → Option (Sg)) => ∀ (s_16 : Sg), Wm p l e (rmD 1) s m args below meth c D ct A 4 embV 78 [(0, .ref (A 27)), (1, .int v_1), (2, .int x2_2), (3, .int x3_12)] [] s_16 (k_17 s_16)) ?_ (fun k_17 hk_17 => ?_)
      · intro s_16
        refine m_iincb (L2 := fun v_18 => [(3, .int v_18), (0, .ref (A 27)), (1, .int v_1), (2, .int x2_2)]) (q := 3) C dX10_findLeft_78 rfl ci_1 (by decide) (fun _ => rfl) (fun v_18 => ?_)
        refine m_goto (tgt := 35) C dX10_findLeft_81 rfl ?_
        refine m_loc (L2 := [(0, .ref (A 27)), (1, .int v_1), (2, .int x2_2), (3, .int v_18)]) [1, 2, 3, 0] rfl ?_
        exact hrec35 v_18 s_16
      refine m_if_ne (tgt := 78) C dX10_findLeft_48 rfl ?_ ?_
      · refine m_loc (L2 := [(0, .ref (A 27)), (1, .int v_1), (2, .int x2_2), (3, .int x3_12)]) [0, 1, 2, 3] rfl ?_
        exact hk_17 s_15
      · refine m_aload_n C dX10_findLeft_51 rfl ?_
        refine m_iload_n C dX10_findLeft_52 rfl ?_
        refine m_iload_n C dX10_findLeft_53 rfl ?_
        refine m_callVI C ml_X10_336 ⟨Nat.le_of_ble_eq_true rfl, Nat.le_of_ble_eq_true rfl⟩ rfl rfl [.int x2_2, .int x3_12] [] rfl rfl (Nat.le_of_ble_eq_true rfl) dX10_findLeft_54 (fun o ho => kX10_by_ l D ct A x2_2 x3_12 s_15 o ho) (fun r_19 s_20 => ?_)
        refine m_aload_n C dX10_findLeft_57 rfl ?_
        refine m_get (v := .ref (A 41)) C fl_X10_58_9 rfl (by decide) rfl dX10_findLeft_58 ?_
        refine m_iload_n C dX10_findLeft_61 rfl ?_
        refine m_chk (fun h_21 => ?_)
        refine m_iald C rfl h_21 dX10_findLeft_62 ?_
        refine m_icmp_ge (tgt := 78) C dX10_findLeft_63 rfl ?_ ?_
        · refine m_loc (L2 := [(0, .ref (A 27)), (1, .int v_1), (2, .int x2_2), (3, .int x3_12)]) [0, 1, 2, 3] rfl ?_
          exact hk_17 s_20
        · refine m_aload_n C dX10_findLeft_66 rfl ?_
          refine m_get (v := .ref (A 41)) C fl_X10_58_9 rfl (by decide) rfl dX10_findLeft_67 ?_
          refine m_iload_n C dX10_findLeft_70 rfl ?_
          refine m_aload_n C dX10_findLeft_71 rfl ?_
          refine m_iload_n C dX10_findLeft_72 rfl ?_
          refine m_iload_n C dX10_findLeft_73 rfl ?_
          refine m_callVI C ml_X10_336 ⟨Nat.le_of_ble_eq_true rfl, Nat.le_of_ble_eq_true rfl⟩ rfl rfl [.int x2_2, .int x3_12] [.int x2_2, .ref (A 41)] rfl rfl (Nat.le_of_ble_eq_true rfl) dX10_findLeft_74 (fun o ho => kX10_by_ l D ct A x2_2 x3_12 s_20 o ho) (fun r_22 s_23 => ?_)
          refine m_iast C rfl h_21 dX10_findLeft_77 (fun s_24 => ?_)
          refine m_loc (L2 := [(0, .ref (A 27)), (1, .int v_1), (2, .int x2_2), (3, .int x3_12)]) [0, 1, 2, 3] rfl ?_
          exact hk_17 s_24
theorem wX10_findLeft_11 {p : Program} {l : Launch} {e : Env} {s : State} {m : MethodId} {args : Array Value} {below : List Frame} {meth : Method} {c : Code} {D : va_G} {ct : Nat → ClassId} {A : Nat → Nat} (C : Cx p m c cX10_findLeft 4 s args yX10_findLeft.cls meth none D ct A) (v_1 : Int32) : ∀ (n : Nat) (x2_2 : Int32) (s_3 : Sg), Wm p l e (rmD 1) s m args below meth c D ct A 4 embV 11 [(0, .ref (A 27)), (1, .int v_1), (2, .int x2_2)] [] s_3 (lo2 (fX10_findLeft_11_b v_1) n x2_2 s_3) := by
  intro n
  induction n with
  | zero => intro x2_2 s_3; exact m_none
  | succ n hrec11 =>
    intro x2_2 s_3
    refine (show Wm p l e (rmD 1) s m args below meth c D ct A 4 embV 11 [(0, .ref (A 27)), (1, .int v_1), (2, .int x2_2)] [] s_3 (fX10_findLeft_11_b v_1 (lo2 (fX10_findLeft_11_b v_1) n) x2_2 s_3) from ?_)
    generalize lo2 (fX10_findLeft_11_b v_1) n = rec11 at hrec11 ⊢
    unfold fX10_findLeft_11_b
    refine m_iload_n C dX10_findLeft_11 rfl ?_
    refine m_if_lt (tgt := 90) C dX10_findLeft_12 rfl ?_ ?_
    · exact m_vret C dX10_findLeft_90
    · refine m_aload_n C dX10_findLeft_15 rfl ?_
      refine m_get (v := .ref (A 41)) C fl_X10_58_9 rfl (by decide) rfl dX10_findLeft_16 ?_
      refine m_iload_n C dX10_findLeft_19 rfl ?_
      refine m_iload_n C dX10_findLeft_20 rfl ?_
      refine m_iload_n C dX10_findLeft_21 rfl ?_
      refine m_jn (P := fun (k_6 : Int32 → Int32 → Option (Sg)) => ∀ (y_4 : Int32) (y_5 : Int32), Wm p l e (rmD 1) s m args below meth c D ct A 4 embV 32 [(0, .ref (A 27)), (1, .int v_1), (2, .int x2_2)] [.int y_5, .int y_4, .ref (A 41)] s_3 (k_6 y_4 y_5)) ?_ (fun k_6 hk_6 => ?_)
      · intro y_4 y_5
        refine m_chk (fun h_7 => ?_)
        refine m_iast C rfl h_7 dX10_findLeft_32 (fun s_8 => ?_)
        refine m_iconst C dX10_findLeft_33 ci_0 ?_
        refine m_istore_n (L2 := [(3, .int 0), (0, .ref (A 27)), (1, .int v_1), (2, .int x2_2)]) C dX10_findLeft_34 rfl (by decide) rfl ?_
        refine m_jn (P := fun (k_10 : Sg → Option (Sg)) => ∀ (s_9 : Sg), Wm p l e (rmD 1) s m args below meth c D ct A 4 embV 84 [(0, .ref (A 27)), (1, .int v_1), (2, .int x2_2)] [] s_9 (k_10 s_9)) ?_ (fun k_10 hk_10 => ?_)
        · intro s_9
          refine m_iincb (L2 := fun v_11 => [(2, .int v_11), (0, .ref (A 27)), (1, .int v_1)]) (q := 2) C dX10_findLeft_84 rfl ci_m1 (by decide) (fun _ => rfl) (fun v_11 => ?_)
          refine m_goto (tgt := 11) C dX10_findLeft_87 rfl ?_
          refine m_loc (L2 := [(0, .ref (A 27)), (1, .int v_1), (2, .int v_11)]) [1, 2, 0] rfl ?_
          exact hrec11 v_11 s_9
        refine m_loc (L2 := [(0, .ref (A 27)), (1, .int v_1), (2, .int x2_2), (3, .int 0)]) [1, 2, 3, 0] rfl ?_
        exact wX10_findLeft_35 C v_1 x2_2 k_10 hk_10 FU 0 s_8
      refine m_icmp_ne (tgt := 29) C dX10_findLeft_22 rfl ?_ ?_
      · refine m_ldcw C wd_1298 dX10_findLeft_29 ?_
        refine m_loc (L2 := [(0, .ref (A 27)), (1, .int v_1), (2, .int x2_2)]) [0, 1, 2] rfl ?_
        exact hk_6 x2_2 100000000
      · refine m_iconst C dX10_findLeft_25 ci_0 ?_
        refine m_goto (tgt := 32) C dX10_findLeft_26 rfl ?_
        refine m_loc (L2 := [(0, .ref (A 27)), (1, .int v_1), (2, .int x2_2)]) [0, 1, 2] rfl ?_
        exact hk_6 x2_2 0
theorem kX10_findLeft (l : Launch) (D : va_G) (ct : Nat → ClassId) (A : Nat → Nat) (s0 : Sg) (o : Sg) (ho : fX10_findLeft s0 = some o) : Con l yX10_findLeft cX10_findLeft 4 none 1 D ct A [.ref (A 27)] s0 (embV o) := by
  refine con_start (by decide +kernel) (Nat.le_of_ble_eq_true rfl) ho (fun p e s m args below meth c C => ?_)
  refine m_loc (L2 := [(0, .ref (A 27))]) [0] rfl ?_
  unfold fX10_findLeft
  refine m_iconst C dX10_findLeft_0 ci_1 ?_
  refine m_aload_n C dX10_findLeft_1 rfl ?_
  refine m_get (v := .int (gi s0 27 29)) C fl_X10_324_9 rfl (by decide) rfl dX10_findLeft_2 ?_
  refine m_ishl C dX10_findLeft_5 ?_
  refine m_iconst C dX10_findLeft_6 ci_1 ?_
  refine m_isub C dX10_findLeft_7 ?_
  refine m_let (fun v_1 => ?_)
  refine m_istore_n (L2 := [(1, .int v_1), (0, .ref (A 27))]) C dX10_findLeft_8 rfl (by decide) rfl ?_
  refine m_iload_n C dX10_findLeft_9 rfl ?_
  refine m_istore_n (L2 := [(2, .int v_1), (1, .int v_1), (0, .ref (A 27))]) C dX10_findLeft_10 rfl (by decide) rfl ?_
  refine m_loc (L2 := [(0, .ref (A 27)), (1, .int v_1), (2, .int v_1)]) [2, 1, 0] rfl ?_
  exact wX10_findLeft_11 C v_1 FU v_1 s0
def fX10_gentle_78_b (x4_9 : Int32) (k_15 : Int32 → Sg → Option (Int32 × Sg)) (rec78 : Int32 → Sg → Option (Int32 × Sg)) (x5_18 : Int32) (s_19 : Sg) : Option (Int32 × Sg) :=
  bnd (fX10_has x4_9 x5_18 s_19) fun r_20 s_21 =>
  bv (fun (s_22 : Sg) => 
    bv (x5_18 + 1) fun v_24 =>
    rec78 v_24 s_22)
  fun k_23 =>
  if (b2i r_20) = 0 then
    bnd (fX10_by_ x4_9 x5_18 s_21) fun r_25 s_26 =>
    if r_25 ≤ (gi s_26 41 (ix 0)) then
      k_15 x5_18 s_26
    else
      k_23 s_26
  else
    k_23 s_21
def fX10_gentle_69_b (a3 : Int32) (k_7 : Int32 → Sg → Option (Int32 × Sg)) (rec69 : Int32 → Int32 → Int32 → Sg → Option (Int32 × Sg)) (x4_9 : Int32) (x5_10 : Int32) (x6_11 : Int32) (s_12 : Sg) : Option (Int32 × Sg) :=
  if a3 < x6_11 then
    k_7 x5_10 s_12
  else
    bv (fun (x5_13 : Int32) (s_14 : Sg) => 
      bv (x4_9 ||| (1 <<< (x5_13 &&& 31))) fun v_16 =>
      bv (x6_11 + 1) fun v_17 =>
      rec69 v_16 x5_13 v_17 s_14)
    fun k_15 =>
    lo2 (fX10_gentle_78_b x4_9 k_15) FU 0 s_12
def fX10_gentle (a1 : Int32) (a2 : Int32) (a3 : Int32) (s0 : Sg) : Option (Int32 × Sg) :=
  bnd (fX10_areAsked a1 a2 s0) fun r_1 s_2 =>
  if (b2i r_1) = 0 then
    some ((-1), s_2)
  else
    if (-1) ≤ a3 then
      bnv (fX10_findLoads a1 a2 s_2) fun s_3 =>
      bnv (fX10_findLeft s_3) fun s_4 =>
      if 100000000 ≤ (gi s_4 41 (ix 0)) then
        some ((-1), s_4)
      else
        if a3 < (gi s_4 27 29) then
          if a3 = (-1) then
            some (gi s_4 41 (ix 0), s_4)
          else
            bv (fun (x5_5 : Int32) (s_6 : Sg) => 
              chk (inb 12 x5_5) <|
              some (gi s_6 36 (ix x5_5), s_6))
            fun k_7 =>
            lo4 (fX10_gentle_69_b a3 k_7) FU 0 0 0 s_4
        else
          some ((-1), s_4)
    else
      some ((-1), s_2)
theorem wX10_gentle_78 {p : Program} {l : Launch} {e : Env} {s : State} {m : MethodId} {args : Array Value} {below : List Frame} {meth : Method} {c : Code} {D : va_G} {ct : Nat → ClassId} {A : Nat → Nat} (C : Cx p m c cX10_gentle 7 s args yX10_gentle.cls meth (some .int) D ct A) (a3 : Int32) (x4_9 : Int32) (x6_11 : Int32) (k_15 : Int32 → Sg → Option (Int32 × Sg)) (hk_15 : ∀ (x5_13 : Int32) (s_14 : Sg), Wm p l e (rmD 7) s m args below meth c D ct A 7 embI 111 [(0, .ref (A 27)), (3, .int a3), (4, .int x4_9), (5, .int x5_13), (6, .int x6_11)] [] s_14 (k_15 x5_13 s_14)) : ∀ (n : Nat) (x5_18 : Int32) (s_19 : Sg), Wm p l e (rmD 7) s m args below meth c D ct A 7 embI 78 [(0, .ref (A 27)), (3, .int a3), (4, .int x4_9), (5, .int x5_18), (6, .int x6_11)] [] s_19 (lo2 (fX10_gentle_78_b x4_9 k_15) n x5_18 s_19) := by
  intro n
  induction n with
  | zero => intro x5_18 s_19; exact m_none
  | succ n hrec78 =>
    intro x5_18 s_19
    refine (show Wm p l e (rmD 7) s m args below meth c D ct A 7 embI 78 [(0, .ref (A 27)), (3, .int a3), (4, .int x4_9), (5, .int x5_18), (6, .int x6_11)] [] s_19 (fX10_gentle_78_b x4_9 k_15 (lo2 (fX10_gentle_78_b x4_9 k_15) n) x5_18 s_19) from ?_)
    generalize lo2 (fX10_gentle_78_b x4_9 k_15) n = rec78 at hrec78 ⊢
    unfold fX10_gentle_78_b
    refine m_iload C dX10_gentle_78 rfl ?_
    refine m_iload C dX10_gentle_80 rfl ?_
    refine m_callSZ C ml_X10_321 ⟨Nat.le_of_ble_eq_true rfl, Nat.le_of_ble_eq_true rfl⟩ [.int x4_9, .int x5_18] [] rfl rfl (Nat.le_of_ble_eq_true rfl) dX10_gentle_82 (fun o ho => kX10_has l D ct A x4_9 x5_18 s_19 o ho) (fun r_20 s_21 => ?_)
    refine m_jn (P := fun (k_23 : Sg → Option (Int32 × Sg)) => ∀ (s_22 : Sg), Wm p l e (rmD 7) s m args below meth c D ct A 7 embI 105 [(0, .ref (A 27)), (3, .int a3), (4, .int x4_9), (5, .int x5_18), (6, .int x6_11)] [] s_22 (k_23 s_22)) ?_ (fun k_23 hk_23 => ?_)
    · intro s_22
      refine m_iincb (L2 := fun v_24 => [(5, .int v_24), (0, .ref (A 27)), (3, .int a3), (4, .int x4_9), (6, .int x6_11)]) (q := 3) C dX10_gentle_105 rfl ci_1 (by decide) (fun _ => rfl) (fun v_24 => ?_)
      refine m_goto (tgt := 78) C dX10_gentle_108 rfl ?_
      refine m_loc (L2 := [(0, .ref (A 27)), (3, .int a3), (4, .int x4_9), (5, .int v_24), (6, .int x6_11)]) [1, 2, 3, 0, 4] rfl ?_
      exact hrec78 v_24 s_22
    refine m_if_ne (tgt := 105) C dX10_gentle_85 rfl ?_ ?_
    · refine m_loc (L2 := [(0, .ref (A 27)), (3, .int a3), (4, .int x4_9), (5, .int x5_18), (6, .int x6_11)]) [0, 1, 2, 3, 4] rfl ?_
      exact hk_23 s_21
    · refine m_aload_n C dX10_gentle_88 rfl ?_
      refine m_iload C dX10_gentle_89 rfl ?_
      refine m_iload C dX10_gentle_91 rfl ?_
      refine m_callVI C ml_X10_336 ⟨Nat.le_of_ble_eq_true rfl, Nat.le_of_ble_eq_true rfl⟩ rfl rfl [.int x4_9, .int x5_18] [] rfl rfl (Nat.le_of_ble_eq_true rfl) dX10_gentle_93 (fun o ho => kX10_by_ l D ct A x4_9 x5_18 s_21 o ho) (fun r_25 s_26 => ?_)
      refine m_aload_n C dX10_gentle_96 rfl ?_
      refine m_get (v := .ref (A 41)) C fl_X10_58_9 rfl (by decide) rfl dX10_gentle_97 ?_
      refine m_iconst C dX10_gentle_100 ci_0 ?_
      refine m_iald C rfl (by decide +kernel) dX10_gentle_101 ?_
      refine m_icmp_le (tgt := 111) C dX10_gentle_102 rfl ?_ ?_
      · refine m_loc (L2 := [(0, .ref (A 27)), (3, .int a3), (4, .int x4_9), (5, .int x5_18), (6, .int x6_11)]) [0, 1, 2, 3, 4] rfl ?_
        exact hk_15 x5_18 s_26
      · refine m_loc (L2 := [(0, .ref (A 27)), (3, .int a3), (4, .int x4_9), (5, .int x5_18), (6, .int x6_11)]) [0, 1, 2, 3, 4] rfl ?_
        exact hk_23 s_26
theorem wX10_gentle_69 {p : Program} {l : Launch} {e : Env} {s : State} {m : MethodId} {args : Array Value} {below : List Frame} {meth : Method} {c : Code} {D : va_G} {ct : Nat → ClassId} {A : Nat → Nat} (C : Cx p m c cX10_gentle 7 s args yX10_gentle.cls meth (some .int) D ct A) (a3 : Int32) (k_7 : Int32 → Sg → Option (Int32 × Sg)) (hk_7 : ∀ (x5_5 : Int32) (s_6 : Sg), Wm p l e (rmD 7) s m args below meth c D ct A 7 embI 126 [(0, .ref (A 27)), (5, .int x5_5)] [] s_6 (k_7 x5_5 s_6)) : ∀ (n : Nat) (x4_9 : Int32) (x5_10 : Int32) (x6_11 : Int32) (s_12 : Sg), Wm p l e (rmD 7) s m args below meth c D ct A 7 embI 69 [(0, .ref (A 27)), (3, .int a3), (4, .int x4_9), (5, .int x5_10), (6, .int x6_11)] [] s_12 (lo4 (fX10_gentle_69_b a3 k_7) n x4_9 x5_10 x6_11 s_12) := by
  intro n
  induction n with
  | zero => intro x4_9 x5_10 x6_11 s_12; exact m_none
  | succ n hrec69 =>
    intro x4_9 x5_10 x6_11 s_12
    refine (show Wm p l e (rmD 7) s m args below meth c D ct A 7 embI 69 [(0, .ref (A 27)), (3, .int a3), (4, .int x4_9), (5, .int x5_10), (6, .int x6_11)] [] s_12 (fX10_gentle_69_b a3 k_7 (lo4 (fX10_gentle_69_b a3 k_7) n) x4_9 x5_10 x6_11 s_12) from ?_)
    generalize lo4 (fX10_gentle_69_b a3 k_7) n = rec69 at hrec69 ⊢
    unfold fX10_gentle_69_b
    refine m_iload C dX10_gentle_69 rfl ?_
    refine m_iload_n C dX10_gentle_71 rfl ?_
    refine m_icmp_gt (tgt := 126) C dX10_gentle_72 rfl ?_ ?_
    · refine m_loc (L2 := [(0, .ref (A 27)), (5, .int x5_10)]) [0, 3] rfl ?_
      exact hk_7 x5_10 s_12
    · refine m_iconst C dX10_gentle_75 ci_0 ?_
      refine m_istore (L2 := [(5, .int 0), (0, .ref (A 27)), (3, .int a3), (4, .int x4_9), (6, .int x6_11)]) C dX10_gentle_76 (by decide) rfl ?_
      refine m_jn (P := fun (k_15 : Int32 → Sg → Option (Int32 × Sg)) => ∀ (x5_13 : Int32) (s_14 : Sg), Wm p l e (rmD 7) s m args below meth c D ct A 7 embI 111 [(0, .ref (A 27)), (3, .int a3), (4, .int x4_9), (5, .int x5_13), (6, .int x6_11)] [] s_14 (k_15 x5_13 s_14)) ?_ (fun k_15 hk_15 => ?_)
      · intro x5_13 s_14
        refine m_iload C dX10_gentle_111 rfl ?_
        refine m_iconst C dX10_gentle_113 ci_1 ?_
        refine m_iload C dX10_gentle_114 rfl ?_
        refine m_ishl C dX10_gentle_116 ?_
        refine m_ior C dX10_gentle_117 ?_
        refine m_let (fun v_16 => ?_)
        refine m_istore (L2 := [(4, .int v_16), (0, .ref (A 27)), (3, .int a3), (5, .int x5_13), (6, .int x6_11)]) C dX10_gentle_118 (by decide) rfl ?_
        refine m_iincb (L2 := fun v_17 => [(6, .int v_17), (4, .int v_16), (0, .ref (A 27)), (3, .int a3), (5, .int x5_13)]) (q := 4) C dX10_gentle_120 rfl ci_1 (by decide) (fun _ => rfl) (fun v_17 => ?_)
        refine m_goto (tgt := 69) C dX10_gentle_123 rfl ?_
        refine m_loc (L2 := [(0, .ref (A 27)), (3, .int a3), (4, .int v_16), (5, .int x5_13), (6, .int v_17)]) [2, 3, 1, 4, 0] rfl ?_
        exact hrec69 v_16 x5_13 v_17 s_14
      refine m_loc (L2 := [(0, .ref (A 27)), (3, .int a3), (4, .int x4_9), (5, .int 0), (6, .int x6_11)]) [1, 2, 3, 0, 4] rfl ?_
      exact wX10_gentle_78 C a3 x4_9 x6_11 k_15 hk_15 FU 0 s_12
theorem kX10_gentle (l : Launch) (D : va_G) (ct : Nat → ClassId) (A : Nat → Nat) (a1 : Int32) (a2 : Int32) (a3 : Int32) (s0 : Sg) (o : Int32 × Sg) (ho : fX10_gentle a1 a2 a3 s0 = some o) : Con l yX10_gentle cX10_gentle 7 (some .int) 7 D ct A [.ref (A 27), .int a1, .int a2, .int a3] s0 (embI o) := by
  refine con_start (by decide +kernel) (Nat.le_of_ble_eq_true rfl) ho (fun p e s m args below meth c C => ?_)
  refine m_loc (L2 := [(0, .ref (A 27)), (1, .int a1), (2, .int a2), (3, .int a3)]) [0, 1, 2, 3] rfl ?_
  unfold fX10_gentle
  refine m_aload_n C dX10_gentle_0 rfl ?_
  refine m_iload_n C dX10_gentle_1 rfl ?_
  refine m_iload_n C dX10_gentle_2 rfl ?_
  refine m_callVZ C ml_X10_327 ⟨Nat.le_of_ble_eq_true rfl, Nat.le_of_ble_eq_true rfl⟩ rfl rfl [.int a1, .int a2] [] rfl rfl (Nat.le_of_ble_eq_true rfl) dX10_gentle_3 (fun o ho => kX10_areAsked l D ct A a1 a2 s0 o ho) (fun r_1 s_2 => ?_)
  refine m_if_eq (tgt := 14) C dX10_gentle_6 rfl ?_ ?_
  · refine m_iconst C dX10_gentle_14 ci_m1 ?_
    exact m_iret C dX10_gentle_15
  · refine m_iload_n C dX10_gentle_9 rfl ?_
    refine m_iconst C dX10_gentle_10 ci_m1 ?_
    refine m_icmp_ge (tgt := 16) C dX10_gentle_11 rfl ?_ ?_
    · refine m_aload_n C dX10_gentle_16 rfl ?_
      refine m_iload_n C dX10_gentle_17 rfl ?_
      refine m_iload_n C dX10_gentle_18 rfl ?_
      refine m_callVV C ml_X10_332 ⟨Nat.le_of_ble_eq_true rfl, Nat.le_of_ble_eq_true rfl⟩ rfl rfl [.int a1, .int a2] [] rfl rfl (Nat.le_of_ble_eq_true rfl) dX10_gentle_19 (fun o ho => kX10_findLoads l D ct A a1 a2 s_2 o ho) (fun s_3 => ?_)
      refine m_aload_n C dX10_gentle_22 rfl ?_
      refine m_callVV C ml_X10_339 ⟨Nat.le_of_ble_eq_true rfl, Nat.le_of_ble_eq_true rfl⟩ rfl rfl [] [] rfl rfl (Nat.le_of_ble_eq_true rfl) dX10_gentle_23 (fun o ho => kX10_findLeft l D ct A s_3 o ho) (fun s_4 => ?_)
      refine m_aload_n C dX10_gentle_26 rfl ?_
      refine m_get (v := .ref (A 41)) C fl_X10_58_9 rfl (by decide) rfl dX10_gentle_27 ?_
      refine m_iconst C dX10_gentle_30 ci_0 ?_
      refine m_iald C rfl (by decide +kernel) dX10_gentle_31 ?_
      refine m_ldcw C wd_1298 dX10_gentle_32 ?_
      refine m_icmp_ge (tgt := 46) C dX10_gentle_35 rfl ?_ ?_
      · refine m_iconst C dX10_gentle_46 ci_m1 ?_
        exact m_iret C dX10_gentle_47
      · refine m_iload_n C dX10_gentle_38 rfl ?_
        refine m_aload_n C dX10_gentle_39 rfl ?_
        refine m_get (v := .int (gi s_4 27 29)) C fl_X10_324_9 rfl (by decide) rfl dX10_gentle_40 ?_
        refine m_icmp_lt (tgt := 48) C dX10_gentle_43 rfl ?_ ?_
        · refine m_iload_n C dX10_gentle_48 rfl ?_
          refine m_iconst C dX10_gentle_49 ci_m1 ?_
          refine m_icmp_ne (tgt := 60) C dX10_gentle_50 rfl ?_ ?_
          · refine m_iconst C dX10_gentle_60 ci_0 ?_
            refine m_istore (L2 := [(4, .int 0), (0, .ref (A 27)), (1, .int a1), (2, .int a2), (3, .int a3)]) C dX10_gentle_61 (by decide) rfl ?_
            refine m_iconst C dX10_gentle_63 ci_0 ?_
            refine m_istore (L2 := [(5, .int 0), (4, .int 0), (0, .ref (A 27)), (1, .int a1), (2, .int a2), (3, .int a3)]) C dX10_gentle_64 (by decide) rfl ?_
            refine m_iconst C dX10_gentle_66 ci_0 ?_
            refine m_istore (L2 := [(6, .int 0), (5, .int 0), (4, .int 0), (0, .ref (A 27)), (1, .int a1), (2, .int a2), (3, .int a3)]) C dX10_gentle_67 (by decide) rfl ?_
            refine m_jn (P := fun (k_7 : Int32 → Sg → Option (Int32 × Sg)) => ∀ (x5_5 : Int32) (s_6 : Sg), Wm p l e (rmD 7) s m args below meth c D ct A 7 embI 126 [(0, .ref (A 27)), (5, .int x5_5)] [] s_6 (k_7 x5_5 s_6)) ?_ (fun k_7 hk_7 => ?_)
            · intro x5_5 s_6
              refine m_aload_n C dX10_gentle_126 rfl ?_
              refine m_get (v := .ref (A 36)) C fl_X10_43_9 rfl (by decide) rfl dX10_gentle_127 ?_
              refine m_iload C dX10_gentle_130 rfl ?_
              refine m_chk (fun h_8 => ?_)
              refine m_iald C rfl h_8 dX10_gentle_132 ?_
              exact m_iret C dX10_gentle_133
            refine m_loc (L2 := [(0, .ref (A 27)), (3, .int a3), (4, .int 0), (5, .int 0), (6, .int 0)]) [3, 6, 2, 1, 0] rfl ?_
            exact wX10_gentle_69 C a3 k_7 hk_7 FU 0 0 0 s_4
          · refine m_aload_n C dX10_gentle_53 rfl ?_
            refine m_get (v := .ref (A 41)) C fl_X10_58_9 rfl (by decide) rfl dX10_gentle_54 ?_
            refine m_iconst C dX10_gentle_57 ci_0 ?_
            refine m_iald C rfl (by decide +kernel) dX10_gentle_58 ?_
            exact m_iret C dX10_gentle_59
        · refine m_iconst C dX10_gentle_46 ci_m1 ?_
          exact m_iret C dX10_gentle_47
    · refine m_iconst C dX10_gentle_14 ci_m1 ?_
      exact m_iret C dX10_gentle_15
def fX10_reading (a1 : Int32) (a2 : Int32) (s0 : Sg) : Option (Int32 × Sg) :=
  bnd (fX10_isIn a1 0 1 s0) fun r_1 s_2 =>
  if (b2i r_1) = 0 then
    some ((-1), s_2)
  else
    bnd (fX10_isIn a2 0 2 s_2) fun r_3 s_4 =>
    if (b2i r_3) = 0 then
      some ((-1), s_4)
    else
      if (gi s_4 28 (ix 10)) = 10 then
        some ((-1), s_4)
      else
        bv (55 + (10 * (gi s_4 28 (ix 10)))) fun v_5 =>
        chk (inb 720 v_5) <|
        bv (si s_4 28 (ix v_5) a1) fun s_7 =>
        chk (inb 720 (v_5 + 1)) <|
        bv (si s_7 28 (ix (v_5 + 1)) a2) fun s_9 =>
        chk (inb 720 (v_5 + 2)) <|
        bv (si s_9 28 (ix (v_5 + 2)) (gi s_9 28 (ix 4))) fun s_11 =>
        chk (inb 720 (v_5 + 3)) <|
        bv (si s_11 28 (ix (v_5 + 3)) (gi s_11 28 (ix 5))) fun s_13 =>
        chk (inb 720 (v_5 + 4)) <|
        bv (si s_13 28 (ix (v_5 + 4)) (gi s_13 28 (ix 6))) fun s_15 =>
        chk (inb 720 (v_5 + 5)) <|
        bv (si s_15 28 (ix (v_5 + 5)) (gi s_15 28 (ix 1))) fun s_17 =>
        chk (inb 720 (v_5 + 6)) <|
        bv (si s_17 28 (ix (v_5 + 6)) (gi s_17 28 (ix 2))) fun s_19 =>
        chk (inb 720 (v_5 + 7)) <|
        bv (si s_19 28 (ix (v_5 + 7)) (gi s_19 28 (ix 3))) fun s_21 =>
        bnv (fX10_nameNow s_21) fun s_22 =>
        bnd (fX10_load 0 s_22) fun r_23 s_24 =>
        chk (inb 720 (v_5 + 8)) <|
        bv (si s_24 28 (ix (v_5 + 8)) r_23) fun s_26 =>
        bnd (fX10_load 1 s_26) fun r_27 s_28 =>
        chk (inb 720 (v_5 + 9)) <|
        bv (si s_28 28 (ix (v_5 + 9)) r_27) fun s_30 =>
        bv (si s_30 28 (ix 10) ((gi s_30 28 (ix 10)) + 1)) fun s_31 =>
        some (gi s_31 28 (ix 10), s_31)
theorem kX10_reading (l : Launch) (D : va_G) (ct : Nat → ClassId) (A : Nat → Nat) (a1 : Int32) (a2 : Int32) (s0 : Sg) (o : Int32 × Sg) (ho : fX10_reading a1 a2 s0 = some o) : Con l yX10_reading cX10_reading 4 (some .int) 6 D ct A [.ref (A 27), .int a1, .int a2] s0 (embI o) := by
  refine con_start (by decide +kernel) (Nat.le_of_ble_eq_true rfl) ho (fun p e s m args below meth c C => ?_)
  refine m_loc (L2 := [(0, .ref (A 27)), (1, .int a1), (2, .int a2)]) [0, 1, 2] rfl ?_
  unfold fX10_reading
  refine m_iload_n C dX10_reading_0 rfl ?_
  refine m_iconst C dX10_reading_1 ci_0 ?_
  refine m_iconst C dX10_reading_2 ci_1 ?_
  refine m_callSZ C ml_X10_83 ⟨Nat.le_of_ble_eq_true rfl, Nat.le_of_ble_eq_true rfl⟩ [.int a1, .int 0, .int 1] [] rfl rfl (Nat.le_of_ble_eq_true rfl) dX10_reading_3 (fun o ho => kX10_isIn l D ct A a1 0 1 s0 o ho) (fun r_1 s_2 => ?_)
  refine m_if_eq (tgt := 30) C dX10_reading_6 rfl ?_ ?_
  · refine m_iconst C dX10_reading_30 ci_m1 ?_
    exact m_iret C dX10_reading_31
  · refine m_iload_n C dX10_reading_9 rfl ?_
    refine m_iconst C dX10_reading_10 ci_0 ?_
    refine m_iconst C dX10_reading_11 ci_2 ?_
    refine m_callSZ C ml_X10_83 ⟨Nat.le_of_ble_eq_true rfl, Nat.le_of_ble_eq_true rfl⟩ [.int a2, .int 0, .int 2] [] rfl rfl (Nat.le_of_ble_eq_true rfl) dX10_reading_12 (fun o ho => kX10_isIn l D ct A a2 0 2 s_2 o ho) (fun r_3 s_4 => ?_)
    refine m_if_eq (tgt := 30) C dX10_reading_15 rfl ?_ ?_
    · refine m_iconst C dX10_reading_30 ci_m1 ?_
      exact m_iret C dX10_reading_31
    · refine m_aload_n C dX10_reading_18 rfl ?_
      refine m_get (v := .ref (A 28)) C fl_X10_7_9 rfl (by decide) rfl dX10_reading_19 ?_
      refine m_bipush C dX10_reading_22 cb_10 ?_
      refine m_iald C rfl (by decide +kernel) dX10_reading_24 ?_
      refine m_bipush C dX10_reading_25 cb_10 ?_
      refine m_icmp_ne (tgt := 32) C dX10_reading_27 rfl ?_ ?_
      · refine m_bipush C dX10_reading_32 cb_55 ?_
        refine m_bipush C dX10_reading_34 cb_10 ?_
        refine m_aload_n C dX10_reading_36 rfl ?_
        refine m_get (v := .ref (A 28)) C fl_X10_7_9 rfl (by decide) rfl dX10_reading_37 ?_
        refine m_bipush C dX10_reading_40 cb_10 ?_
        refine m_iald C rfl (by decide +kernel) dX10_reading_42 ?_
        refine m_imul C dX10_reading_43 ?_
        refine m_iadd C dX10_reading_44 ?_
        refine m_let (fun v_5 => ?_)
        refine m_istore_n (L2 := [(3, .int v_5), (0, .ref (A 27)), (1, .int a1), (2, .int a2)]) C dX10_reading_45 rfl (by decide) rfl ?_
        refine m_aload_n C dX10_reading_46 rfl ?_
        refine m_get (v := .ref (A 28)) C fl_X10_7_9 rfl (by decide) rfl dX10_reading_47 ?_
        refine m_iload_n C dX10_reading_50 rfl ?_
        refine m_iload_n C dX10_reading_51 rfl ?_
        refine m_chk (fun h_6 => ?_)
        refine m_iast C rfl h_6 dX10_reading_52 (fun s_7 => ?_)
        refine m_aload_n C dX10_reading_53 rfl ?_
        refine m_get (v := .ref (A 28)) C fl_X10_7_9 rfl (by decide) rfl dX10_reading_54 ?_
        refine m_iload_n C dX10_reading_57 rfl ?_
        refine m_iconst C dX10_reading_58 ci_1 ?_
        refine m_iadd C dX10_reading_59 ?_
        refine m_iload_n C dX10_reading_60 rfl ?_
        refine m_chk (fun h_8 => ?_)
        refine m_iast C rfl h_8 dX10_reading_61 (fun s_9 => ?_)
        refine m_aload_n C dX10_reading_62 rfl ?_
        refine m_get (v := .ref (A 28)) C fl_X10_7_9 rfl (by decide) rfl dX10_reading_63 ?_
        refine m_iload_n C dX10_reading_66 rfl ?_
        refine m_iconst C dX10_reading_67 ci_2 ?_
        refine m_iadd C dX10_reading_68 ?_
        refine m_aload_n C dX10_reading_69 rfl ?_
        refine m_get (v := .ref (A 28)) C fl_X10_7_9 rfl (by decide) rfl dX10_reading_70 ?_
        refine m_iconst C dX10_reading_73 ci_4 ?_
        refine m_iald C rfl (by decide +kernel) dX10_reading_74 ?_
        refine m_chk (fun h_10 => ?_)
        refine m_iast C rfl h_10 dX10_reading_75 (fun s_11 => ?_)
        refine m_aload_n C dX10_reading_76 rfl ?_
        refine m_get (v := .ref (A 28)) C fl_X10_7_9 rfl (by decide) rfl dX10_reading_77 ?_
        refine m_iload_n C dX10_reading_80 rfl ?_
        refine m_iconst C dX10_reading_81 ci_3 ?_
        refine m_iadd C dX10_reading_82 ?_
        refine m_aload_n C dX10_reading_83 rfl ?_
        refine m_get (v := .ref (A 28)) C fl_X10_7_9 rfl (by decide) rfl dX10_reading_84 ?_
        refine m_iconst C dX10_reading_87 ci_5 ?_
        refine m_iald C rfl (by decide +kernel) dX10_reading_88 ?_
        refine m_chk (fun h_12 => ?_)
        refine m_iast C rfl h_12 dX10_reading_89 (fun s_13 => ?_)
        refine m_aload_n C dX10_reading_90 rfl ?_
        refine m_get (v := .ref (A 28)) C fl_X10_7_9 rfl (by decide) rfl dX10_reading_91 ?_
        refine m_iload_n C dX10_reading_94 rfl ?_
        refine m_iconst C dX10_reading_95 ci_4 ?_
        refine m_iadd C dX10_reading_96 ?_
        refine m_aload_n C dX10_reading_97 rfl ?_
        refine m_get (v := .ref (A 28)) C fl_X10_7_9 rfl (by decide) rfl dX10_reading_98 ?_
        refine m_bipush C dX10_reading_101 cb_6 ?_
        refine m_iald C rfl (by decide +kernel) dX10_reading_103 ?_
        refine m_chk (fun h_14 => ?_)
        refine m_iast C rfl h_14 dX10_reading_104 (fun s_15 => ?_)
        refine m_aload_n C dX10_reading_105 rfl ?_
        refine m_get (v := .ref (A 28)) C fl_X10_7_9 rfl (by decide) rfl dX10_reading_106 ?_
        refine m_iload_n C dX10_reading_109 rfl ?_
        refine m_iconst C dX10_reading_110 ci_5 ?_
        refine m_iadd C dX10_reading_111 ?_
        refine m_aload_n C dX10_reading_112 rfl ?_
        refine m_get (v := .ref (A 28)) C fl_X10_7_9 rfl (by decide) rfl dX10_reading_113 ?_
        refine m_iconst C dX10_reading_116 ci_1 ?_
        refine m_iald C rfl (by decide +kernel) dX10_reading_117 ?_
        refine m_chk (fun h_16 => ?_)
        refine m_iast C rfl h_16 dX10_reading_118 (fun s_17 => ?_)
        refine m_aload_n C dX10_reading_119 rfl ?_
        refine m_get (v := .ref (A 28)) C fl_X10_7_9 rfl (by decide) rfl dX10_reading_120 ?_
        refine m_iload_n C dX10_reading_123 rfl ?_
        refine m_bipush C dX10_reading_124 cb_6 ?_
        refine m_iadd C dX10_reading_126 ?_
        refine m_aload_n C dX10_reading_127 rfl ?_
        refine m_get (v := .ref (A 28)) C fl_X10_7_9 rfl (by decide) rfl dX10_reading_128 ?_
        refine m_iconst C dX10_reading_131 ci_2 ?_
        refine m_iald C rfl (by decide +kernel) dX10_reading_132 ?_
        refine m_chk (fun h_18 => ?_)
        refine m_iast C rfl h_18 dX10_reading_133 (fun s_19 => ?_)
        refine m_aload_n C dX10_reading_134 rfl ?_
        refine m_get (v := .ref (A 28)) C fl_X10_7_9 rfl (by decide) rfl dX10_reading_135 ?_
        refine m_iload_n C dX10_reading_138 rfl ?_
        refine m_bipush C dX10_reading_139 cb_7 ?_
        refine m_iadd C dX10_reading_141 ?_
        refine m_aload_n C dX10_reading_142 rfl ?_
        refine m_get (v := .ref (A 28)) C fl_X10_7_9 rfl (by decide) rfl dX10_reading_143 ?_
        refine m_iconst C dX10_reading_146 ci_3 ?_
        refine m_iald C rfl (by decide +kernel) dX10_reading_147 ?_
        refine m_chk (fun h_20 => ?_)
        refine m_iast C rfl h_20 dX10_reading_148 (fun s_21 => ?_)
        refine m_aload_n C dX10_reading_149 rfl ?_
        refine m_callVV C ml_X10_280 ⟨Nat.le_of_ble_eq_true rfl, Nat.le_of_ble_eq_true rfl⟩ rfl rfl [] [] rfl rfl (Nat.le_of_ble_eq_true rfl) dX10_reading_150 (fun o ho => kX10_nameNow l D ct A s_21 o ho) (fun s_22 => ?_)
        refine m_aload_n C dX10_reading_153 rfl ?_
        refine m_get (v := .ref (A 28)) C fl_X10_7_9 rfl (by decide) rfl dX10_reading_154 ?_
        refine m_iload_n C dX10_reading_157 rfl ?_
        refine m_bipush C dX10_reading_158 cb_8 ?_
        refine m_iadd C dX10_reading_160 ?_
        refine m_aload_n C dX10_reading_161 rfl ?_
        refine m_iconst C dX10_reading_162 ci_0 ?_
        refine m_callVI C ml_X10_283 ⟨Nat.le_of_ble_eq_true rfl, Nat.le_of_ble_eq_true rfl⟩ rfl rfl [.int 0] [.int (v_5 + 8), .ref (A 28)] rfl rfl (Nat.le_of_ble_eq_true rfl) dX10_reading_163 (fun o ho => kX10_load l D ct A 0 s_22 o ho) (fun r_23 s_24 => ?_)
        refine m_chk (fun h_25 => ?_)
        refine m_iast C rfl h_25 dX10_reading_166 (fun s_26 => ?_)
        refine m_aload_n C dX10_reading_167 rfl ?_
        refine m_get (v := .ref (A 28)) C fl_X10_7_9 rfl (by decide) rfl dX10_reading_168 ?_
        refine m_iload_n C dX10_reading_171 rfl ?_
        refine m_bipush C dX10_reading_172 cb_9 ?_
        refine m_iadd C dX10_reading_174 ?_
        refine m_aload_n C dX10_reading_175 rfl ?_
        refine m_iconst C dX10_reading_176 ci_1 ?_
        refine m_callVI C ml_X10_283 ⟨Nat.le_of_ble_eq_true rfl, Nat.le_of_ble_eq_true rfl⟩ rfl rfl [.int 1] [.int (v_5 + 9), .ref (A 28)] rfl rfl (Nat.le_of_ble_eq_true rfl) dX10_reading_177 (fun o ho => kX10_load l D ct A 1 s_26 o ho) (fun r_27 s_28 => ?_)
        refine m_chk (fun h_29 => ?_)
        refine m_iast C rfl h_29 dX10_reading_180 (fun s_30 => ?_)
        refine m_aload_n C dX10_reading_181 rfl ?_
        refine m_get (v := .ref (A 28)) C fl_X10_7_9 rfl (by decide) rfl dX10_reading_182 ?_
        refine m_bipush C dX10_reading_185 cb_10 ?_
        refine m_dup2 C dX10_reading_187 rfl rfl ?_
        refine m_iald C rfl (by decide +kernel) dX10_reading_188 ?_
        refine m_iconst C dX10_reading_189 ci_1 ?_
        refine m_iadd C dX10_reading_190 ?_
        refine m_iast C rfl (by decide +kernel) dX10_reading_191 (fun s_31 => ?_)
        refine m_aload_n C dX10_reading_192 rfl ?_
        refine m_get (v := .ref (A 28)) C fl_X10_7_9 rfl (by decide) rfl dX10_reading_193 ?_
        refine m_bipush C dX10_reading_196 cb_10 ?_
        refine m_iald C rfl (by decide +kernel) dX10_reading_198 ?_
        exact m_iret C dX10_reading_199
      · refine m_iconst C dX10_reading_30 ci_m1 ?_
        exact m_iret C dX10_reading_31
def fX10_forget (s0 : Sg) : Option (Int32 × Sg) :=
  bv (gi s0 28 (ix 10)) fun v_1 =>
  bv (si s0 28 (ix 10) 0) fun s_2 =>
  some (v_1, s_2)
theorem kX10_forget (l : Launch) (D : va_G) (ct : Nat → ClassId) (A : Nat → Nat) (s0 : Sg) (o : Int32 × Sg) (ho : fX10_forget s0 = some o) : Con l yX10_forget cX10_forget 2 (some .int) 0 D ct A [.ref (A 27)] s0 (embI o) := by
  refine con_start (by decide +kernel) (Nat.le_of_ble_eq_true rfl) ho (fun p e s m args below meth c C => ?_)
  refine m_loc (L2 := [(0, .ref (A 27))]) [0] rfl ?_
  unfold fX10_forget
  refine m_aload_n C dX10_forget_0 rfl ?_
  refine m_get (v := .ref (A 28)) C fl_X10_7_9 rfl (by decide) rfl dX10_forget_1 ?_
  refine m_bipush C dX10_forget_4 cb_10 ?_
  refine m_iald C rfl (by decide +kernel) dX10_forget_6 ?_
  refine m_let (fun v_1 => ?_)
  refine m_istore_n (L2 := [(1, .int v_1), (0, .ref (A 27))]) C dX10_forget_7 rfl (by decide) rfl ?_
  refine m_aload_n C dX10_forget_8 rfl ?_
  refine m_get (v := .ref (A 28)) C fl_X10_7_9 rfl (by decide) rfl dX10_forget_9 ?_
  refine m_bipush C dX10_forget_12 cb_10 ?_
  refine m_iconst C dX10_forget_14 ci_0 ?_
  refine m_iast C rfl (by decide +kernel) dX10_forget_15 (fun s_2 => ?_)
  refine m_iload_n C dX10_forget_16 rfl ?_
  exact m_iret C dX10_forget_17
def fX10_borneBy (a1 : Int32) (a2 : Int32) (s0 : Sg) : Option (Int32 × Sg) :=
  bv (55 + (10 * a1)) fun v_1 =>
  chk (inb 720 (v_1 + 2)) <|
  chk (inb 720 (v_1 + 3)) <|
  chk (inb 720 (v_1 + 4)) <|
  bnv (fX10_name (gi s0 28 (ix (v_1 + 2))) (gi s0 28 (ix (v_1 + 3))) (gi s0 28 (ix (v_1 + 4))) s0) fun s_5 =>
  chk (inb 720 v_1) <|
  bnd (fX10_borne 12 a2 0 (gi s_5 28 (ix v_1)) s_5) fun r_7 s_8 =>
  some (r_7, s_8)
theorem kX10_borneBy (l : Launch) (D : va_G) (ct : Nat → ClassId) (A : Nat → Nat) (a1 : Int32) (a2 : Int32) (s0 : Sg) (o : Int32 × Sg) (ho : fX10_borneBy a1 a2 s0 = some o) : Con l yX10_borneBy cX10_borneBy 4 (some .int) 4 D ct A [.ref (A 27), .int a1, .int a2] s0 (embI o) := by
  refine con_start (by decide +kernel) (Nat.le_of_ble_eq_true rfl) ho (fun p e s m args below meth c C => ?_)
  refine m_loc (L2 := [(0, .ref (A 27)), (1, .int a1), (2, .int a2)]) [0, 1, 2] rfl ?_
  unfold fX10_borneBy
  refine m_bipush C dX10_borneBy_0 cb_55 ?_
  refine m_bipush C dX10_borneBy_2 cb_10 ?_
  refine m_iload_n C dX10_borneBy_4 rfl ?_
  refine m_imul C dX10_borneBy_5 ?_
  refine m_iadd C dX10_borneBy_6 ?_
  refine m_let (fun v_1 => ?_)
  refine m_istore_n (L2 := [(3, .int v_1), (0, .ref (A 27)), (1, .int a1), (2, .int a2)]) C dX10_borneBy_7 rfl (by decide) rfl ?_
  refine m_aload_n C dX10_borneBy_8 rfl ?_
  refine m_aload_n C dX10_borneBy_9 rfl ?_
  refine m_get (v := .ref (A 28)) C fl_X10_7_9 rfl (by decide) rfl dX10_borneBy_10 ?_
  refine m_iload_n C dX10_borneBy_13 rfl ?_
  refine m_iconst C dX10_borneBy_14 ci_2 ?_
  refine m_iadd C dX10_borneBy_15 ?_
  refine m_chk (fun h_2 => ?_)
  refine m_iald C rfl h_2 dX10_borneBy_16 ?_
  refine m_aload_n C dX10_borneBy_17 rfl ?_
  refine m_get (v := .ref (A 28)) C fl_X10_7_9 rfl (by decide) rfl dX10_borneBy_18 ?_
  refine m_iload_n C dX10_borneBy_21 rfl ?_
  refine m_iconst C dX10_borneBy_22 ci_3 ?_
  refine m_iadd C dX10_borneBy_23 ?_
  refine m_chk (fun h_3 => ?_)
  refine m_iald C rfl h_3 dX10_borneBy_24 ?_
  refine m_aload_n C dX10_borneBy_25 rfl ?_
  refine m_get (v := .ref (A 28)) C fl_X10_7_9 rfl (by decide) rfl dX10_borneBy_26 ?_
  refine m_iload_n C dX10_borneBy_29 rfl ?_
  refine m_iconst C dX10_borneBy_30 ci_4 ?_
  refine m_iadd C dX10_borneBy_31 ?_
  refine m_chk (fun h_4 => ?_)
  refine m_iald C rfl h_4 dX10_borneBy_32 ?_
  refine m_callVV C ml_X10_264 ⟨Nat.le_of_ble_eq_true rfl, Nat.le_of_ble_eq_true rfl⟩ rfl rfl [.int (gi s0 28 (ix (v_1 + 2))), .int (gi s0 28 (ix (v_1 + 3))), .int (gi s0 28 (ix (v_1 + 4)))] [] rfl rfl (Nat.le_of_ble_eq_true rfl) dX10_borneBy_33 (fun o ho => kX10_name l D ct A (gi s0 28 (ix (v_1 + 2))) (gi s0 28 (ix (v_1 + 3))) (gi s0 28 (ix (v_1 + 4))) s0 o ho) (fun s_5 => ?_)
  refine m_aload_n C dX10_borneBy_36 rfl ?_
  refine m_bipush C dX10_borneBy_37 cb_12 ?_
  refine m_iload_n C dX10_borneBy_39 rfl ?_
  refine m_iconst C dX10_borneBy_40 ci_0 ?_
  refine m_aload_n C dX10_borneBy_41 rfl ?_
  refine m_get (v := .ref (A 28)) C fl_X10_7_9 rfl (by decide) rfl dX10_borneBy_42 ?_
  refine m_iload_n C dX10_borneBy_45 rfl ?_
  refine m_chk (fun h_6 => ?_)
  refine m_iald C rfl h_6 dX10_borneBy_46 ?_
  refine m_callVI C ml_X10_261 ⟨Nat.le_of_ble_eq_true rfl, Nat.le_of_ble_eq_true rfl⟩ rfl rfl [.int 12, .int a2, .int 0, .int (gi s_5 28 (ix v_1))] [] rfl rfl (Nat.le_of_ble_eq_true rfl) dX10_borneBy_47 (fun o ho => kX10_borne l D ct A 12 a2 0 (gi s_5 28 (ix v_1)) s_5 o ho) (fun r_7 s_8 => ?_)
  exact m_iret C dX10_borneBy_50
def fX10_isRead (a1 : Int32) (a2 : Int32) (a3 : Int32) (a4 : Int32) (s0 : Sg) : Option (Bool × Sg) :=
  bv (55 + (10 * a1)) fun v_1 =>
  chk (inb 720 (v_1 + 8)) <|
  chk (inb 720 v_1) <|
  bv (fun (y_4 : Int32) (y_5 : Int32) => 
    bv (y_4 + y_5) fun v_7 =>
    chk (inb 720 (v_1 + 9)) <|
    chk (inb 720 v_1) <|
    bv (fun (y_10 : Int32) (y_11 : Int32) => 
      bv (y_10 + y_11) fun v_13 =>
      chk (inb 720 (v_1 + 4)) <|
      chk (inb 720 (v_1 + 7)) <|
      bnd (fX10_beamBy (((a3 * v_7) - (a4 * v_13)) + (10 * (gi s0 28 (ix (v_1 + 4))))) (gi s0 28 (ix (v_1 + 7))) s0) fun r_16 s_17 =>
      chk (inb 720 (v_1 + 1)) <|
      if r_16 = (gi s_17 28 (ix (v_1 + 1))) then
        some (true, s_17)
      else
        some (false, s_17))
    fun k_12 =>
    if (gi s0 28 (ix v_1)) = 1 then
      k_12 (gi s0 28 (ix (v_1 + 9))) a2
    else
      k_12 (gi s0 28 (ix (v_1 + 9))) 0)
  fun k_6 =>
  if (gi s0 28 (ix v_1)) = 0 then
    k_6 (gi s0 28 (ix (v_1 + 8))) a2
  else
    k_6 (gi s0 28 (ix (v_1 + 8))) 0
theorem kX10_isRead (l : Launch) (D : va_G) (ct : Nat → ClassId) (A : Nat → Nat) (a1 : Int32) (a2 : Int32) (a3 : Int32) (a4 : Int32) (s0 : Sg) (o : Bool × Sg) (ho : fX10_isRead a1 a2 a3 a4 s0 = some o) : Con l yX10_isRead cX10_isRead 8 (some .boolean) 2 D ct A [.ref (A 27), .int a1, .int a2, .int a3, .int a4] s0 (embZ o) := by
  refine con_start (by decide +kernel) (Nat.le_of_ble_eq_true rfl) ho (fun p e s m args below meth c C => ?_)
  refine m_loc (L2 := [(0, .ref (A 27)), (1, .int a1), (2, .int a2), (3, .int a3), (4, .int a4)]) [0, 1, 2, 3, 4] rfl ?_
  unfold fX10_isRead
  refine m_bipush C dX10_isRead_0 cb_55 ?_
  refine m_bipush C dX10_isRead_2 cb_10 ?_
  refine m_iload_n C dX10_isRead_4 rfl ?_
  refine m_imul C dX10_isRead_5 ?_
  refine m_iadd C dX10_isRead_6 ?_
  refine m_let (fun v_1 => ?_)
  refine m_istore (L2 := [(5, .int v_1), (0, .ref (A 27)), (1, .int a1), (2, .int a2), (3, .int a3), (4, .int a4)]) C dX10_isRead_7 (by decide) rfl ?_
  refine m_aload_n C dX10_isRead_9 rfl ?_
  refine m_get (v := .ref (A 28)) C fl_X10_7_9 rfl (by decide) rfl dX10_isRead_10 ?_
  refine m_iload C dX10_isRead_13 rfl ?_
  refine m_bipush C dX10_isRead_15 cb_8 ?_
  refine m_iadd C dX10_isRead_17 ?_
  refine m_chk (fun h_2 => ?_)
  refine m_iald C rfl h_2 dX10_isRead_18 ?_
  refine m_aload_n C dX10_isRead_19 rfl ?_
  refine m_get (v := .ref (A 28)) C fl_X10_7_9 rfl (by decide) rfl dX10_isRead_20 ?_
  refine m_iload C dX10_isRead_23 rfl ?_
  refine m_chk (fun h_3 => ?_)
  refine m_iald C rfl h_3 dX10_isRead_25 ?_
  refine m_jn (P := fun (k_6 : Int32 → Int32 → Option (Bool × Sg)) => ∀ (y_4 : Int32) (y_5 : Int32), Wm p l e (rmD 2) s m args below meth c D ct A 8 embZ 34 [(0, .ref (A 27)), (2, .int a2), (3, .int a3), (4, .int a4), (5, .int v_1)] [.int y_5, .int y_4] s0 (k_6 y_4 y_5)) ?_ (fun k_6 hk_6 => ?_)
  · intro y_4 y_5
    refine m_iadd C dX10_isRead_34 ?_
    refine m_let (fun v_7 => ?_)
    refine m_istore (L2 := [(6, .int v_7), (0, .ref (A 27)), (2, .int a2), (3, .int a3), (4, .int a4), (5, .int v_1)]) C dX10_isRead_35 (by decide) rfl ?_
    refine m_aload_n C dX10_isRead_37 rfl ?_
    refine m_get (v := .ref (A 28)) C fl_X10_7_9 rfl (by decide) rfl dX10_isRead_38 ?_
    refine m_iload C dX10_isRead_41 rfl ?_
    refine m_bipush C dX10_isRead_43 cb_9 ?_
    refine m_iadd C dX10_isRead_45 ?_
    refine m_chk (fun h_8 => ?_)
    refine m_iald C rfl h_8 dX10_isRead_46 ?_
    refine m_aload_n C dX10_isRead_47 rfl ?_
    refine m_get (v := .ref (A 28)) C fl_X10_7_9 rfl (by decide) rfl dX10_isRead_48 ?_
    refine m_iload C dX10_isRead_51 rfl ?_
    refine m_chk (fun h_9 => ?_)
    refine m_iald C rfl h_9 dX10_isRead_53 ?_
    refine m_iconst C dX10_isRead_54 ci_1 ?_
    refine m_jn (P := fun (k_12 : Int32 → Int32 → Option (Bool × Sg)) => ∀ (y_10 : Int32) (y_11 : Int32), Wm p l e (rmD 2) s m args below meth c D ct A 8 embZ 63 [(0, .ref (A 27)), (3, .int a3), (4, .int a4), (5, .int v_1), (6, .int v_7)] [.int y_11, .int y_10] s0 (k_12 y_10 y_11)) ?_ (fun k_12 hk_12 => ?_)
    · intro y_10 y_11
      refine m_iadd C dX10_isRead_63 ?_
      refine m_let (fun v_13 => ?_)
      refine m_istore (L2 := [(7, .int v_13), (0, .ref (A 27)), (3, .int a3), (4, .int a4), (5, .int v_1), (6, .int v_7)]) C dX10_isRead_64 (by decide) rfl ?_
      refine m_iload_n C dX10_isRead_66 rfl ?_
      refine m_iload C dX10_isRead_67 rfl ?_
      refine m_imul C dX10_isRead_69 ?_
      refine m_iload C dX10_isRead_70 rfl ?_
      refine m_iload C dX10_isRead_72 rfl ?_
      refine m_imul C dX10_isRead_74 ?_
      refine m_isub C dX10_isRead_75 ?_
      refine m_bipush C dX10_isRead_76 cb_10 ?_
      refine m_aload_n C dX10_isRead_78 rfl ?_
      refine m_get (v := .ref (A 28)) C fl_X10_7_9 rfl (by decide) rfl dX10_isRead_79 ?_
      refine m_iload C dX10_isRead_82 rfl ?_
      refine m_iconst C dX10_isRead_84 ci_4 ?_
      refine m_iadd C dX10_isRead_85 ?_
      refine m_chk (fun h_14 => ?_)
      refine m_iald C rfl h_14 dX10_isRead_86 ?_
      refine m_imul C dX10_isRead_87 ?_
      refine m_iadd C dX10_isRead_88 ?_
      refine m_aload_n C dX10_isRead_89 rfl ?_
      refine m_get (v := .ref (A 28)) C fl_X10_7_9 rfl (by decide) rfl dX10_isRead_90 ?_
      refine m_iload C dX10_isRead_93 rfl ?_
      refine m_bipush C dX10_isRead_95 cb_7 ?_
      refine m_iadd C dX10_isRead_97 ?_
      refine m_chk (fun h_15 => ?_)
      refine m_iald C rfl h_15 dX10_isRead_98 ?_
      refine m_callSI C ml_X10_293 ⟨Nat.le_of_ble_eq_true rfl, Nat.le_of_ble_eq_true rfl⟩ [.int (((a3 * v_7) - (a4 * v_13)) + (10 * (gi s0 28 (ix (v_1 + 4))))), .int (gi s0 28 (ix (v_1 + 7)))] [] rfl rfl (Nat.le_of_ble_eq_true rfl) dX10_isRead_99 (fun o ho => kX10_beamBy l D ct A (((a3 * v_7) - (a4 * v_13)) + (10 * (gi s0 28 (ix (v_1 + 4))))) (gi s0 28 (ix (v_1 + 7))) s0 o ho) (fun r_16 s_17 => ?_)
      refine m_aload_n C dX10_isRead_102 rfl ?_
      refine m_get (v := .ref (A 28)) C fl_X10_7_9 rfl (by decide) rfl dX10_isRead_103 ?_
      refine m_iload C dX10_isRead_106 rfl ?_
      refine m_iconst C dX10_isRead_108 ci_1 ?_
      refine m_iadd C dX10_isRead_109 ?_
      refine m_chk (fun h_18 => ?_)
      refine m_iald C rfl h_18 dX10_isRead_110 ?_
      refine m_icmp_ne (tgt := 118) C dX10_isRead_111 rfl ?_ ?_
      · refine m_iconst C dX10_isRead_118 ci_0 ?_
        exact m_zret C false rfl dX10_isRead_119
      · refine m_iconst C dX10_isRead_114 ci_1 ?_
        refine m_goto (tgt := 119) C dX10_isRead_115 rfl ?_
        exact m_zret C true rfl dX10_isRead_119
    refine m_icmp_ne (tgt := 62) C dX10_isRead_55 rfl ?_ ?_
    · refine m_iconst C dX10_isRead_62 ci_0 ?_
      refine m_loc (L2 := [(0, .ref (A 27)), (3, .int a3), (4, .int a4), (5, .int v_1), (6, .int v_7)]) [1, 3, 4, 5, 0] rfl ?_
      exact hk_12 (gi s0 28 (ix (v_1 + 9))) 0
    · refine m_iload_n C dX10_isRead_58 rfl ?_
      refine m_goto (tgt := 63) C dX10_isRead_59 rfl ?_
      refine m_loc (L2 := [(0, .ref (A 27)), (3, .int a3), (4, .int a4), (5, .int v_1), (6, .int v_7)]) [1, 3, 4, 5, 0] rfl ?_
      exact hk_12 (gi s0 28 (ix (v_1 + 9))) a2
  refine m_if_ne (tgt := 33) C dX10_isRead_26 rfl ?_ ?_
  · refine m_iconst C dX10_isRead_33 ci_0 ?_
    refine m_loc (L2 := [(0, .ref (A 27)), (2, .int a2), (3, .int a3), (4, .int a4), (5, .int v_1)]) [1, 3, 4, 5, 0] rfl ?_
    exact hk_6 (gi s0 28 (ix (v_1 + 8))) 0
  · refine m_iload_n C dX10_isRead_29 rfl ?_
    refine m_goto (tgt := 34) C dX10_isRead_30 rfl ?_
    refine m_loc (L2 := [(0, .ref (A 27)), (2, .int a2), (3, .int a3), (4, .int a4), (5, .int v_1)]) [1, 3, 4, 5, 0] rfl ?_
    exact hk_6 (gi s0 28 (ix (v_1 + 8))) a2
def fX10_areRead_2_b (a1 : Int32) (rec2 : Int32 → Sg → Option (Bool × Sg)) (x2_1 : Int32) (s_2 : Sg) : Option (Bool × Sg) :=
  if (gi s_2 28 (ix 10)) ≤ x2_1 then
    some (true, s_2)
  else
    bnd (fX10_borneBy x2_1 a1 s_2) fun r_3 s_4 =>
    chk (inb 720 ((55 + (10 * x2_1)) + 5)) <|
    chk (inb 720 ((55 + (10 * x2_1)) + 6)) <|
    bnd (fX10_isRead x2_1 r_3 (gi s_4 28 (ix ((55 + (10 * x2_1)) + 5))) (gi s_4 28 (ix ((55 + (10 * x2_1)) + 6))) s_4) fun r_7 s_8 =>
    if (b2i r_7) = 0 then
      some (false, s_8)
    else
      bv (x2_1 + 1) fun v_9 =>
      rec2 v_9 s_8
def fX10_areRead (a1 : Int32) (s0 : Sg) : Option (Bool × Sg) :=
  lo2 (fX10_areRead_2_b a1) FU 0 s0
theorem wX10_areRead_2 {p : Program} {l : Launch} {e : Env} {s : State} {m : MethodId} {args : Array Value} {below : List Frame} {meth : Method} {c : Code} {D : va_G} {ct : Nat → ClassId} {A : Nat → Nat} (C : Cx p m c cX10_areRead 3 s args yX10_areRead.cls meth (some .boolean) D ct A) (a1 : Int32) : ∀ (n : Nat) (x2_1 : Int32) (s_2 : Sg), Wm p l e (rmD 5) s m args below meth c D ct A 3 embZ 2 [(0, .ref (A 27)), (1, .int a1), (2, .int x2_1)] [] s_2 (lo2 (fX10_areRead_2_b a1) n x2_1 s_2) := by
  intro n
  induction n with
  | zero => intro x2_1 s_2; exact m_none
  | succ n hrec2 =>
    intro x2_1 s_2
    refine (show Wm p l e (rmD 5) s m args below meth c D ct A 3 embZ 2 [(0, .ref (A 27)), (1, .int a1), (2, .int x2_1)] [] s_2 (fX10_areRead_2_b a1 (lo2 (fX10_areRead_2_b a1) n) x2_1 s_2) from ?_)
    generalize lo2 (fX10_areRead_2_b a1) n = rec2 at hrec2 ⊢
    unfold fX10_areRead_2_b
    refine m_iload_n C dX10_areRead_2 rfl ?_
    refine m_aload_n C dX10_areRead_3 rfl ?_
    refine m_get (v := .ref (A 28)) C fl_X10_7_9 rfl (by decide) rfl dX10_areRead_4 ?_
    refine m_bipush C dX10_areRead_7 cb_10 ?_
    refine m_iald C rfl (by decide +kernel) dX10_areRead_9 ?_
    refine m_icmp_ge (tgt := 64) C dX10_areRead_10 rfl ?_ ?_
    · refine m_iconst C dX10_areRead_64 ci_1 ?_
      exact m_zret C true rfl dX10_areRead_65
    · refine m_aload_n C dX10_areRead_13 rfl ?_
      refine m_iload_n C dX10_areRead_14 rfl ?_
      refine m_aload_n C dX10_areRead_15 rfl ?_
      refine m_iload_n C dX10_areRead_16 rfl ?_
      refine m_iload_n C dX10_areRead_17 rfl ?_
      refine m_callVI C ml_X10_342 ⟨Nat.le_of_ble_eq_true rfl, Nat.le_of_ble_eq_true rfl⟩ rfl rfl [.int x2_1, .int a1] [.int x2_1, .ref (A 27)] rfl rfl (Nat.le_of_ble_eq_true rfl) dX10_areRead_18 (fun o ho => kX10_borneBy l D ct A x2_1 a1 s_2 o ho) (fun r_3 s_4 => ?_)
      refine m_aload_n C dX10_areRead_21 rfl ?_
      refine m_get (v := .ref (A 28)) C fl_X10_7_9 rfl (by decide) rfl dX10_areRead_22 ?_
      refine m_bipush C dX10_areRead_25 cb_55 ?_
      refine m_bipush C dX10_areRead_27 cb_10 ?_
      refine m_iload_n C dX10_areRead_29 rfl ?_
      refine m_imul C dX10_areRead_30 ?_
      refine m_iadd C dX10_areRead_31 ?_
      refine m_iconst C dX10_areRead_32 ci_5 ?_
      refine m_iadd C dX10_areRead_33 ?_
      refine m_chk (fun h_5 => ?_)
      refine m_iald C rfl h_5 dX10_areRead_34 ?_
      refine m_aload_n C dX10_areRead_35 rfl ?_
      refine m_get (v := .ref (A 28)) C fl_X10_7_9 rfl (by decide) rfl dX10_areRead_36 ?_
      refine m_bipush C dX10_areRead_39 cb_55 ?_
      refine m_bipush C dX10_areRead_41 cb_10 ?_
      refine m_iload_n C dX10_areRead_43 rfl ?_
      refine m_imul C dX10_areRead_44 ?_
      refine m_iadd C dX10_areRead_45 ?_
      refine m_bipush C dX10_areRead_46 cb_6 ?_
      refine m_iadd C dX10_areRead_48 ?_
      refine m_chk (fun h_6 => ?_)
      refine m_iald C rfl h_6 dX10_areRead_49 ?_
      refine m_callVZ C ml_X10_345 ⟨Nat.le_of_ble_eq_true rfl, Nat.le_of_ble_eq_true rfl⟩ rfl rfl [.int x2_1, .int r_3, .int (gi s_4 28 (ix ((55 + (10 * x2_1)) + 5))), .int (gi s_4 28 (ix ((55 + (10 * x2_1)) + 6)))] [] rfl rfl (Nat.le_of_ble_eq_true rfl) dX10_areRead_50 (fun o ho => kX10_isRead l D ct A x2_1 r_3 (gi s_4 28 (ix ((55 + (10 * x2_1)) + 5))) (gi s_4 28 (ix ((55 + (10 * x2_1)) + 6))) s_4 o ho) (fun r_7 s_8 => ?_)
      refine m_if_ne (tgt := 58) C dX10_areRead_53 rfl ?_ ?_
      · refine m_iincb (L2 := fun v_9 => [(2, .int v_9), (0, .ref (A 27)), (1, .int a1)]) (q := 2) C dX10_areRead_58 rfl ci_1 (by decide) (fun _ => rfl) (fun v_9 => ?_)
        refine m_goto (tgt := 2) C dX10_areRead_61 rfl ?_
        refine m_loc (L2 := [(0, .ref (A 27)), (1, .int a1), (2, .int v_9)]) [1, 2, 0] rfl ?_
        exact hrec2 v_9 s_8
      · refine m_iconst C dX10_areRead_56 ci_0 ?_
        exact m_zret C false rfl dX10_areRead_57
theorem kX10_areRead (l : Launch) (D : va_G) (ct : Nat → ClassId) (A : Nat → Nat) (a1 : Int32) (s0 : Sg) (o : Bool × Sg) (ho : fX10_areRead a1 s0 = some o) : Con l yX10_areRead cX10_areRead 3 (some .boolean) 5 D ct A [.ref (A 27), .int a1] s0 (embZ o) := by
  refine con_start (by decide +kernel) (Nat.le_of_ble_eq_true rfl) ho (fun p e s m args below meth c C => ?_)
  refine m_loc (L2 := [(0, .ref (A 27)), (1, .int a1)]) [0, 1] rfl ?_
  unfold fX10_areRead
  refine m_iconst C dX10_areRead_0 ci_0 ?_
  refine m_istore_n (L2 := [(2, .int 0), (0, .ref (A 27)), (1, .int a1)]) C dX10_areRead_1 rfl (by decide) rfl ?_
  refine m_loc (L2 := [(0, .ref (A 27)), (1, .int a1), (2, .int 0)]) [1, 2, 0] rfl ?_
  exact wX10_areRead_2 C a1 FU 0 s0
def fX10_span_21_b (k_7 : Int32 → Int32 → Int32 → Sg → Option (Int32 × Sg)) (rec21 : Int32 → Int32 → Int32 → Int32 → Sg → Option (Int32 × Sg)) (x2_8 : Int32) (x3_9 : Int32) (x4_10 : Int32) (x5_11 : Int32) (s_12 : Sg) : Option (Int32 × Sg) :=
  if 999 < x5_11 then
    k_7 x2_8 x3_9 x4_10 s_12
  else
    bnd (fX10_areRead x5_11 s_12) fun r_13 s_14 =>
    bv (fun (x2_15 : Int32) (x3_16 : Int32) (x4_17 : Int32) => 
      bv (x5_11 + 1) fun v_19 =>
      rec21 x2_15 x3_16 x4_17 v_19 s_14)
    fun k_18 =>
    if (b2i r_13) = 0 then
      k_18 x2_8 x3_9 x4_10
    else
      bv (x2_8 + 1) fun v_20 =>
      bv (fun (y_21 : Int32) => 
        k_18 v_20 y_21 x5_11)
      fun k_22 =>
      if 0 ≤ x3_9 then
        k_22 x3_9
      else
        k_22 x5_11
def fX10_span (a1 : Int32) (s0 : Sg) : Option (Int32 × Sg) :=
  bnd (fX10_isIn a1 0 2 s0) fun r_1 s_2 =>
  if (b2i r_1) = 0 then
    some ((-1), s_2)
  else
    bv (fun (x2_3 : Int32) (x3_4 : Int32) (x4_5 : Int32) (s_6 : Sg) => 
      if a1 = 0 then
        some (x2_3, s_6)
      else
        if a1 = 1 then
          some (x3_4, s_6)
        else
          some (x4_5, s_6))
    fun k_7 =>
    lo5 (fX10_span_21_b k_7) FU 0 (-1) (-1) 1 s_2
theorem wX10_span_21 {p : Program} {l : Launch} {e : Env} {s : State} {m : MethodId} {args : Array Value} {below : List Frame} {meth : Method} {c : Code} {D : va_G} {ct : Nat → ClassId} {A : Nat → Nat} (C : Cx p m c cX10_span 6 s args yX10_span.cls meth (some .int) D ct A) (a1 : Int32) (k_7 : Int32 → Int32 → Int32 → Sg → Option (Int32 × Sg)) (hk_7 : ∀ (x2_3 : Int32) (x3_4 : Int32) (x4_5 : Int32) (s_6 : Sg), Wm p l e (rmD 6) s m args below meth c D ct A 6 embI 65 [(1, .int a1), (2, .int x2_3), (3, .int x3_4), (4, .int x4_5)] [] s_6 (k_7 x2_3 x3_4 x4_5 s_6)) : ∀ (n : Nat) (x2_8 : Int32) (x3_9 : Int32) (x4_10 : Int32) (x5_11 : Int32) (s_12 : Sg), Wm p l e (rmD 6) s m args below meth c D ct A 6 embI 21 [(0, .ref (A 27)), (1, .int a1), (2, .int x2_8), (3, .int x3_9), (4, .int x4_10), (5, .int x5_11)] [] s_12 (lo5 (fX10_span_21_b k_7) n x2_8 x3_9 x4_10 x5_11 s_12) := by
  intro n
  induction n with
  | zero => intro x2_8 x3_9 x4_10 x5_11 s_12; exact m_none
  | succ n hrec21 =>
    intro x2_8 x3_9 x4_10 x5_11 s_12
    refine (show Wm p l e (rmD 6) s m args below meth c D ct A 6 embI 21 [(0, .ref (A 27)), (1, .int a1), (2, .int x2_8), (3, .int x3_9), (4, .int x4_10), (5, .int x5_11)] [] s_12 (fX10_span_21_b k_7 (lo5 (fX10_span_21_b k_7) n) x2_8 x3_9 x4_10 x5_11 s_12) from ?_)
    generalize lo5 (fX10_span_21_b k_7) n = rec21 at hrec21 ⊢
    unfold fX10_span_21_b
    refine m_iload C dX10_span_21 rfl ?_
    refine m_sipush C dX10_span_23 cs_999 ?_
    refine m_icmp_gt (tgt := 65) C dX10_span_26 rfl ?_ ?_
    · refine m_loc (L2 := [(1, .int a1), (2, .int x2_8), (3, .int x3_9), (4, .int x4_10)]) [1, 2, 3, 4] rfl ?_
      exact hk_7 x2_8 x3_9 x4_10 s_12
    · refine m_aload_n C dX10_span_29 rfl ?_
      refine m_iload C dX10_span_30 rfl ?_
      refine m_callVZ C ml_X10_349 ⟨Nat.le_of_ble_eq_true rfl, Nat.le_of_ble_eq_true rfl⟩ rfl rfl [.int x5_11] [] rfl rfl (Nat.le_of_ble_eq_true rfl) dX10_span_32 (fun o ho => kX10_areRead l D ct A x5_11 s_12 o ho) (fun r_13 s_14 => ?_)
      refine m_jn (P := fun (k_18 : Int32 → Int32 → Int32 → Option (Int32 × Sg)) => ∀ (x2_15 : Int32) (x3_16 : Int32) (x4_17 : Int32), Wm p l e (rmD 6) s m args below meth c D ct A 6 embI 59 [(0, .ref (A 27)), (1, .int a1), (2, .int x2_15), (3, .int x3_16), (4, .int x4_17), (5, .int x5_11)] [] s_14 (k_18 x2_15 x3_16 x4_17)) ?_ (fun k_18 hk_18 => ?_)
      · intro x2_15 x3_16 x4_17
        refine m_iincb (L2 := fun v_19 => [(5, .int v_19), (0, .ref (A 27)), (1, .int a1), (2, .int x2_15), (3, .int x3_16), (4, .int x4_17)]) (q := 5) C dX10_span_59 rfl ci_1 (by decide) (fun _ => rfl) (fun v_19 => ?_)
        refine m_goto (tgt := 21) C dX10_span_62 rfl ?_
        refine m_loc (L2 := [(0, .ref (A 27)), (1, .int a1), (2, .int x2_15), (3, .int x3_16), (4, .int x4_17), (5, .int v_19)]) [1, 2, 3, 4, 5, 0] rfl ?_
        exact hrec21 x2_15 x3_16 x4_17 v_19 s_14
      refine m_if_ne (tgt := 41) C dX10_span_35 rfl ?_ ?_
      · refine m_iincb (L2 := fun v_20 => [(2, .int v_20), (0, .ref (A 27)), (1, .int a1), (3, .int x3_9), (4, .int x4_10), (5, .int x5_11)]) (q := 2) C dX10_span_41 rfl ci_1 (by decide) (fun _ => rfl) (fun v_20 => ?_)
        refine m_iload_n C dX10_span_44 rfl ?_
        refine m_jn (P := fun (k_22 : Int32 → Option (Int32 × Sg)) => ∀ (y_21 : Int32), Wm p l e (rmD 6) s m args below meth c D ct A 6 embI 54 [(0, .ref (A 27)), (1, .int a1), (2, .int v_20), (5, .int x5_11)] [.int y_21] s_14 (k_22 y_21)) ?_ (fun k_22 hk_22 => ?_)
        · intro y_21
          refine m_istore_n (L2 := [(3, .int y_21), (0, .ref (A 27)), (1, .int a1), (2, .int v_20), (5, .int x5_11)]) C dX10_span_54 rfl (by decide) rfl ?_
          refine m_iload C dX10_span_55 rfl ?_
          refine m_istore (L2 := [(4, .int x5_11), (3, .int y_21), (0, .ref (A 27)), (1, .int a1), (2, .int v_20), (5, .int x5_11)]) C dX10_span_57 (by decide) rfl ?_
          refine m_loc (L2 := [(0, .ref (A 27)), (1, .int a1), (2, .int v_20), (3, .int y_21), (4, .int x5_11), (5, .int x5_11)]) [2, 3, 4, 1, 0, 5] rfl ?_
          exact hk_18 v_20 y_21 x5_11
        refine m_if_ge (tgt := 53) C dX10_span_45 rfl ?_ ?_
        · refine m_iload_n C dX10_span_53 rfl ?_
          refine m_loc (L2 := [(0, .ref (A 27)), (1, .int a1), (2, .int v_20), (5, .int x5_11)]) [1, 2, 0, 5] rfl ?_
          exact hk_22 x3_9
        · refine m_iload C dX10_span_48 rfl ?_
          refine m_goto (tgt := 54) C dX10_span_50 rfl ?_
          refine m_loc (L2 := [(0, .ref (A 27)), (1, .int a1), (2, .int v_20), (5, .int x5_11)]) [1, 2, 0, 5] rfl ?_
          exact hk_22 x5_11
      · refine m_goto (tgt := 59) C dX10_span_38 rfl ?_
        refine m_loc (L2 := [(0, .ref (A 27)), (1, .int a1), (2, .int x2_8), (3, .int x3_9), (4, .int x4_10), (5, .int x5_11)]) [0, 1, 2, 3, 4, 5] rfl ?_
        exact hk_18 x2_8 x3_9 x4_10
theorem kX10_span (l : Launch) (D : va_G) (ct : Nat → ClassId) (A : Nat → Nat) (a1 : Int32) (s0 : Sg) (o : Int32 × Sg) (ho : fX10_span a1 s0 = some o) : Con l yX10_span cX10_span 6 (some .int) 6 D ct A [.ref (A 27), .int a1] s0 (embI o) := by
  refine con_start (by decide +kernel) (Nat.le_of_ble_eq_true rfl) ho (fun p e s m args below meth c C => ?_)
  refine m_loc (L2 := [(0, .ref (A 27)), (1, .int a1)]) [0, 1] rfl ?_
  unfold fX10_span
  refine m_iload_n C dX10_span_0 rfl ?_
  refine m_iconst C dX10_span_1 ci_0 ?_
  refine m_iconst C dX10_span_2 ci_2 ?_
  refine m_callSZ C ml_X10_83 ⟨Nat.le_of_ble_eq_true rfl, Nat.le_of_ble_eq_true rfl⟩ [.int a1, .int 0, .int 2] [] rfl rfl (Nat.le_of_ble_eq_true rfl) dX10_span_3 (fun o ho => kX10_isIn l D ct A a1 0 2 s0 o ho) (fun r_1 s_2 => ?_)
  refine m_if_ne (tgt := 11) C dX10_span_6 rfl ?_ ?_
  · refine m_iconst C dX10_span_11 ci_0 ?_
    refine m_istore_n (L2 := [(2, .int 0), (0, .ref (A 27)), (1, .int a1)]) C dX10_span_12 rfl (by decide) rfl ?_
    refine m_iconst C dX10_span_13 ci_m1 ?_
    refine m_istore_n (L2 := [(3, .int (-1)), (2, .int 0), (0, .ref (A 27)), (1, .int a1)]) C dX10_span_14 rfl (by decide) rfl ?_
    refine m_iconst C dX10_span_15 ci_m1 ?_
    refine m_istore (L2 := [(4, .int (-1)), (3, .int (-1)), (2, .int 0), (0, .ref (A 27)), (1, .int a1)]) C dX10_span_16 (by decide) rfl ?_
    refine m_iconst C dX10_span_18 ci_1 ?_
    refine m_istore (L2 := [(5, .int 1), (4, .int (-1)), (3, .int (-1)), (2, .int 0), (0, .ref (A 27)), (1, .int a1)]) C dX10_span_19 (by decide) rfl ?_
    refine m_jn (P := fun (k_7 : Int32 → Int32 → Int32 → Sg → Option (Int32 × Sg)) => ∀ (x2_3 : Int32) (x3_4 : Int32) (x4_5 : Int32) (s_6 : Sg), Wm p l e (rmD 6) s m args below meth c D ct A 6 embI 65 [(1, .int a1), (2, .int x2_3), (3, .int x3_4), (4, .int x4_5)] [] s_6 (k_7 x2_3 x3_4 x4_5 s_6)) ?_ (fun k_7 hk_7 => ?_)
    · intro x2_3 x3_4 x4_5 s_6
      refine m_iload_n C dX10_span_65 rfl ?_
      refine m_if_ne (tgt := 73) C dX10_span_66 rfl ?_ ?_
      · refine m_iload_n C dX10_span_73 rfl ?_
        refine m_iconst C dX10_span_74 ci_1 ?_
        refine m_icmp_ne (tgt := 82) C dX10_span_75 rfl ?_ ?_
        · refine m_iload C dX10_span_82 rfl ?_
          exact m_iret C dX10_span_84
        · refine m_iload_n C dX10_span_78 rfl ?_
          refine m_goto (tgt := 84) C dX10_span_79 rfl ?_
          exact m_iret C dX10_span_84
      · refine m_iload_n C dX10_span_69 rfl ?_
        refine m_goto (tgt := 84) C dX10_span_70 rfl ?_
        exact m_iret C dX10_span_84
    refine m_loc (L2 := [(0, .ref (A 27)), (1, .int a1), (2, .int 0), (3, .int (-1)), (4, .int (-1)), (5, .int 1)]) [4, 5, 3, 2, 1, 0] rfl ?_
    exact wX10_span_21 C a1 k_7 hk_7 FU 0 (-1) (-1) 1 s_2
  · refine m_iconst C dX10_span_9 ci_m1 ?_
    exact m_iret C dX10_span_10
def fX10_bent_84_b (x5_13 : Int32) (x6_22 : Int32) (k_26 : Bool → Sg → Option (Int32 × Sg)) (rec84 : Bool → Int32 → Sg → Option (Int32 × Sg)) (x7_34 : Bool) (x8_35 : Int32) (s_36 : Sg) : Option (Int32 × Sg) :=
  if (gi s_36 28 (ix 10)) ≤ x8_35 then
    k_26 x7_34 s_36
  else
    bv (fun (y_37 : Bool) (s_38 : Sg) => 
      bv (x8_35 + 1) fun v_40 =>
      rec84 y_37 v_40 s_38)
    fun k_39 =>
    bv (fun (s_41 : Sg) => 
      k_39 false s_41)
    fun k_42 =>
    if (b2i x7_34) = 0 then
      k_42 s_36
    else
      chk (inb 10 x8_35) <|
      bnd (fX10_isRead x8_35 (gi s_36 42 (ix x8_35)) x5_13 x6_22 s_36) fun r_44 s_45 =>
      if (b2i r_44) = 0 then
        k_42 s_45
      else
        k_39 true s_45
def fX10_bent_71_b (x5_13 : Int32) (k_18 : Int32 → Int32 → Sg → Option (Int32 × Sg)) (rec71 : Int32 → Int32 → Int32 → Sg → Option (Int32 × Sg)) (x3_20 : Int32) (x4_21 : Int32) (x6_22 : Int32) (s_23 : Sg) : Option (Int32 × Sg) :=
  if 20 < x6_22 then
    k_18 x3_20 x4_21 s_23
  else
    bv (fun (x7_24 : Bool) (s_25 : Sg) => 
      bv (fun (x3_27 : Int32) (x4_28 : Int32) => 
        bv (x6_22 + 1) fun v_30 =>
        rec71 x3_27 x4_28 v_30 s_25)
      fun k_29 =>
      if (b2i x7_24) = 0 then
        k_29 x3_20 x4_21
      else
        bv (x3_20 + 1) fun v_31 =>
        bv (fun (y_32 : Int32) => 
          k_29 v_31 y_32)
        fun k_33 =>
        if 0 ≤ x4_21 then
          k_33 x4_21
        else
          k_33 ((100 * x5_13) + x6_22))
    fun k_26 =>
    lo3 (fX10_bent_84_b x5_13 x6_22 k_26) FU true 0 s_23
def fX10_bent_61_b (k_10 : Int32 → Int32 → Sg → Option (Int32 × Sg)) (rec61 : Int32 → Int32 → Int32 → Sg → Option (Int32 × Sg)) (x3_11 : Int32) (x4_12 : Int32) (x5_13 : Int32) (s_14 : Sg) : Option (Int32 × Sg) :=
  if 20 < x5_13 then
    k_10 x3_11 x4_12 s_14
  else
    bv (fun (x3_15 : Int32) (x4_16 : Int32) (s_17 : Sg) => 
      bv (x5_13 + 1) fun v_19 =>
      rec61 x3_15 x4_16 v_19 s_17)
    fun k_18 =>
    lo4 (fX10_bent_71_b x5_13 k_18) FU x3_11 x4_12 1 s_14
def fX10_bent_24_b (a1 : Int32) (k_6 : Sg → Option (Int32 × Sg)) (rec24 : Int32 → Sg → Option (Int32 × Sg)) (x3_46 : Int32) (s_47 : Sg) : Option (Int32 × Sg) :=
  if (gi s_47 28 (ix 10)) ≤ x3_46 then
    k_6 s_47
  else
    bnd (fX10_borneBy x3_46 a1 s_47) fun r_48 s_49 =>
    chk (inb 10 x3_46) <|
    bv (si s_49 42 (ix x3_46) r_48) fun s_51 =>
    bv (x3_46 + 1) fun v_52 =>
    rec24 v_52 s_51
def fX10_bent (a1 : Int32) (a2 : Int32) (s0 : Sg) : Option (Int32 × Sg) :=
  bnd (fX10_isIn a1 1 999 s0) fun r_1 s_2 =>
  if (b2i r_1) = 0 then
    some ((-1), s_2)
  else
    bnd (fX10_isIn a2 0 1 s_2) fun r_3 s_4 =>
    if (b2i r_3) = 0 then
      some ((-1), s_4)
    else
      bv (fun (s_5 : Sg) => 
        bv (fun (x3_7 : Int32) (x4_8 : Int32) (s_9 : Sg) => 
          if a2 = 0 then
            some (x3_7, s_9)
          else
            some (x4_8, s_9))
        fun k_10 =>
        lo4 (fX10_bent_61_b k_10) FU 0 (-1) 1 s_5)
      fun k_6 =>
      lo2 (fX10_bent_24_b a1 k_6) FU 0 s_4
theorem wX10_bent_84 {p : Program} {l : Launch} {e : Env} {s : State} {m : MethodId} {args : Array Value} {below : List Frame} {meth : Method} {c : Code} {D : va_G} {ct : Nat → ClassId} {A : Nat → Nat} (C : Cx p m c cX10_bent 9 s args yX10_bent.cls meth (some .int) D ct A) (a2 : Int32) (x5_13 : Int32) (x3_20 : Int32) (x4_21 : Int32) (x6_22 : Int32) (k_26 : Bool → Sg → Option (Int32 × Sg)) (hk_26 : ∀ (x7_24 : Bool) (s_25 : Sg), Wm p l e (rmD 5) s m args below meth c D ct A 9 embI 134 [(0, .ref (A 27)), (2, .int a2), (3, .int x3_20), (4, .int x4_21), (5, .int x5_13), (6, .int x6_22), (7, .int (b2i x7_24))] [] s_25 (k_26 x7_24 s_25)) : ∀ (n : Nat) (x7_34 : Bool) (x8_35 : Int32) (s_36 : Sg), Wm p l e (rmD 5) s m args below meth c D ct A 9 embI 84 [(0, .ref (A 27)), (2, .int a2), (3, .int x3_20), (4, .int x4_21), (5, .int x5_13), (6, .int x6_22), (7, .int (b2i x7_34)), (8, .int x8_35)] [] s_36 (lo3 (fX10_bent_84_b x5_13 x6_22 k_26) n x7_34 x8_35 s_36) := by
  intro n
  induction n with
  | zero => intro x7_34 x8_35 s_36; exact m_none
  | succ n hrec84 =>
    intro x7_34 x8_35 s_36
    refine (show Wm p l e (rmD 5) s m args below meth c D ct A 9 embI 84 [(0, .ref (A 27)), (2, .int a2), (3, .int x3_20), (4, .int x4_21), (5, .int x5_13), (6, .int x6_22), (7, .int (b2i x7_34)), (8, .int x8_35)] [] s_36 (fX10_bent_84_b x5_13 x6_22 k_26 (lo3 (fX10_bent_84_b x5_13 x6_22 k_26) n) x7_34 x8_35 s_36) from ?_)
    generalize lo3 (fX10_bent_84_b x5_13 x6_22 k_26) n = rec84 at hrec84 ⊢
    unfold fX10_bent_84_b
    refine m_iload C dX10_bent_84 rfl ?_
    refine m_aload_n C dX10_bent_86 rfl ?_
    refine m_get (v := .ref (A 28)) C fl_X10_7_9 rfl (by decide) rfl dX10_bent_87 ?_
    refine m_bipush C dX10_bent_90 cb_10 ?_
    refine m_iald C rfl (by decide +kernel) dX10_bent_92 ?_
    refine m_icmp_ge (tgt := 134) C dX10_bent_93 rfl ?_ ?_
    · refine m_loc (L2 := [(0, .ref (A 27)), (2, .int a2), (3, .int x3_20), (4, .int x4_21), (5, .int x5_13), (6, .int x6_22), (7, .int (b2i x7_34))]) [0, 1, 2, 3, 4, 5, 6] rfl ?_
      exact hk_26 x7_34 s_36
    · refine m_iload C dX10_bent_96 rfl ?_
      refine m_jn (P := fun (k_39 : Bool → Sg → Option (Int32 × Sg)) => ∀ (y_37 : Bool) (s_38 : Sg), Wm p l e (rmD 5) s m args below meth c D ct A 9 embI 126 [(0, .ref (A 27)), (2, .int a2), (3, .int x3_20), (4, .int x4_21), (5, .int x5_13), (6, .int x6_22), (8, .int x8_35)] [.int (b2i y_37)] s_38 (k_39 y_37 s_38)) ?_ (fun k_39 hk_39 => ?_)
      · intro y_37 s_38
        refine m_istore (L2 := [(7, .int (b2i y_37)), (0, .ref (A 27)), (2, .int a2), (3, .int x3_20), (4, .int x4_21), (5, .int x5_13), (6, .int x6_22), (8, .int x8_35)]) C dX10_bent_126 (by decide) rfl ?_
        refine m_iincb (L2 := fun v_40 => [(8, .int v_40), (7, .int (b2i y_37)), (0, .ref (A 27)), (2, .int a2), (3, .int x3_20), (4, .int x4_21), (5, .int x5_13), (6, .int x6_22)]) (q := 7) C dX10_bent_128 rfl ci_1 (by decide) (fun _ => rfl) (fun v_40 => ?_)
        refine m_goto (tgt := 84) C dX10_bent_131 rfl ?_
        refine m_loc (L2 := [(0, .ref (A 27)), (2, .int a2), (3, .int x3_20), (4, .int x4_21), (5, .int x5_13), (6, .int x6_22), (7, .int (b2i y_37)), (8, .int v_40)]) [2, 3, 4, 5, 6, 7, 1, 0] rfl ?_
        exact hrec84 y_37 v_40 s_38
      refine m_jn (P := fun (k_42 : Sg → Option (Int32 × Sg)) => ∀ (s_41 : Sg), Wm p l e (rmD 5) s m args below meth c D ct A 9 embI 125 [(0, .ref (A 27)), (2, .int a2), (3, .int x3_20), (4, .int x4_21), (5, .int x5_13), (6, .int x6_22), (8, .int x8_35)] [] s_41 (k_42 s_41)) ?_ (fun k_42 hk_42 => ?_)
      · intro s_41
        refine m_iconst C dX10_bent_125 ci_0 ?_
        refine m_loc (L2 := [(0, .ref (A 27)), (2, .int a2), (3, .int x3_20), (4, .int x4_21), (5, .int x5_13), (6, .int x6_22), (8, .int x8_35)]) [0, 1, 2, 3, 4, 5, 6] rfl ?_
        exact hk_39 false s_41
      refine m_if_eq (tgt := 125) C dX10_bent_98 rfl ?_ ?_
      · refine m_loc (L2 := [(0, .ref (A 27)), (2, .int a2), (3, .int x3_20), (4, .int x4_21), (5, .int x5_13), (6, .int x6_22), (8, .int x8_35)]) [0, 1, 2, 3, 4, 5, 7] rfl ?_
        exact hk_42 s_36
      · refine m_aload_n C dX10_bent_101 rfl ?_
        refine m_iload C dX10_bent_102 rfl ?_
        refine m_aload_n C dX10_bent_104 rfl ?_
        refine m_get (v := .ref (A 42)) C fl_X10_61_9 rfl (by decide) rfl dX10_bent_105 ?_
        refine m_iload C dX10_bent_108 rfl ?_
        refine m_chk (fun h_43 => ?_)
        refine m_iald C rfl h_43 dX10_bent_110 ?_
        refine m_iload C dX10_bent_111 rfl ?_
        refine m_iload C dX10_bent_113 rfl ?_
        refine m_callVZ C ml_X10_345 ⟨Nat.le_of_ble_eq_true rfl, Nat.le_of_ble_eq_true rfl⟩ rfl rfl [.int x8_35, .int (gi s_36 42 (ix x8_35)), .int x5_13, .int x6_22] [] rfl rfl (Nat.le_of_ble_eq_true rfl) dX10_bent_115 (fun o ho => kX10_isRead l D ct A x8_35 (gi s_36 42 (ix x8_35)) x5_13 x6_22 s_36 o ho) (fun r_44 s_45 => ?_)
        refine m_if_eq (tgt := 125) C dX10_bent_118 rfl ?_ ?_
        · refine m_loc (L2 := [(0, .ref (A 27)), (2, .int a2), (3, .int x3_20), (4, .int x4_21), (5, .int x5_13), (6, .int x6_22), (8, .int x8_35)]) [0, 1, 2, 3, 4, 5, 7] rfl ?_
          exact hk_42 s_45
        · refine m_iconst C dX10_bent_121 ci_1 ?_
          refine m_goto (tgt := 126) C dX10_bent_122 rfl ?_
          refine m_loc (L2 := [(0, .ref (A 27)), (2, .int a2), (3, .int x3_20), (4, .int x4_21), (5, .int x5_13), (6, .int x6_22), (8, .int x8_35)]) [0, 1, 2, 3, 4, 5, 7] rfl ?_
          exact hk_39 true s_45
theorem wX10_bent_71 {p : Program} {l : Launch} {e : Env} {s : State} {m : MethodId} {args : Array Value} {below : List Frame} {meth : Method} {c : Code} {D : va_G} {ct : Nat → ClassId} {A : Nat → Nat} (C : Cx p m c cX10_bent 9 s args yX10_bent.cls meth (some .int) D ct A) (a2 : Int32) (x5_13 : Int32) (k_18 : Int32 → Int32 → Sg → Option (Int32 × Sg)) (hk_18 : ∀ (x3_15 : Int32) (x4_16 : Int32) (s_17 : Sg), Wm p l e (rmD 5) s m args below meth c D ct A 9 embI 171 [(0, .ref (A 27)), (2, .int a2), (3, .int x3_15), (4, .int x4_16), (5, .int x5_13)] [] s_17 (k_18 x3_15 x4_16 s_17)) : ∀ (n : Nat) (x3_20 : Int32) (x4_21 : Int32) (x6_22 : Int32) (s_23 : Sg), Wm p l e (rmD 5) s m args below meth c D ct A 9 embI 71 [(0, .ref (A 27)), (2, .int a2), (3, .int x3_20), (4, .int x4_21), (5, .int x5_13), (6, .int x6_22)] [] s_23 (lo4 (fX10_bent_71_b x5_13 k_18) n x3_20 x4_21 x6_22 s_23) := by
  intro n
  induction n with
  | zero => intro x3_20 x4_21 x6_22 s_23; exact m_none
  | succ n hrec71 =>
    intro x3_20 x4_21 x6_22 s_23
    refine (show Wm p l e (rmD 5) s m args below meth c D ct A 9 embI 71 [(0, .ref (A 27)), (2, .int a2), (3, .int x3_20), (4, .int x4_21), (5, .int x5_13), (6, .int x6_22)] [] s_23 (fX10_bent_71_b x5_13 k_18 (lo4 (fX10_bent_71_b x5_13 k_18) n) x3_20 x4_21 x6_22 s_23) from ?_)
    generalize lo4 (fX10_bent_71_b x5_13 k_18) n = rec71 at hrec71 ⊢
    unfold fX10_bent_71_b
    refine m_iload C dX10_bent_71 rfl ?_
    refine m_bipush C dX10_bent_73 cb_20 ?_
    refine m_icmp_gt (tgt := 171) C dX10_bent_75 rfl ?_ ?_
    · refine m_loc (L2 := [(0, .ref (A 27)), (2, .int a2), (3, .int x3_20), (4, .int x4_21), (5, .int x5_13)]) [0, 1, 2, 3, 4] rfl ?_
      exact hk_18 x3_20 x4_21 s_23
    · refine m_iconst C dX10_bent_78 ci_1 ?_
      refine m_istore (L2 := [(7, .int 1), (0, .ref (A 27)), (2, .int a2), (3, .int x3_20), (4, .int x4_21), (5, .int x5_13), (6, .int x6_22)]) C dX10_bent_79 (by decide) rfl ?_
      refine m_iconst C dX10_bent_81 ci_0 ?_
      refine m_istore (L2 := [(8, .int 0), (7, .int 1), (0, .ref (A 27)), (2, .int a2), (3, .int x3_20), (4, .int x4_21), (5, .int x5_13), (6, .int x6_22)]) C dX10_bent_82 (by decide) rfl ?_
      refine m_jn (P := fun (k_26 : Bool → Sg → Option (Int32 × Sg)) => ∀ (x7_24 : Bool) (s_25 : Sg), Wm p l e (rmD 5) s m args below meth c D ct A 9 embI 134 [(0, .ref (A 27)), (2, .int a2), (3, .int x3_20), (4, .int x4_21), (5, .int x5_13), (6, .int x6_22), (7, .int (b2i x7_24))] [] s_25 (k_26 x7_24 s_25)) ?_ (fun k_26 hk_26 => ?_)
      · intro x7_24 s_25
        refine m_iload C dX10_bent_134 rfl ?_
        refine m_jn (P := fun (k_29 : Int32 → Int32 → Option (Int32 × Sg)) => ∀ (x3_27 : Int32) (x4_28 : Int32), Wm p l e (rmD 5) s m args below meth c D ct A 9 embI 165 [(0, .ref (A 27)), (2, .int a2), (3, .int x3_27), (4, .int x4_28), (5, .int x5_13), (6, .int x6_22)] [] s_25 (k_29 x3_27 x4_28)) ?_ (fun k_29 hk_29 => ?_)
        · intro x3_27 x4_28
          refine m_iincb (L2 := fun v_30 => [(6, .int v_30), (0, .ref (A 27)), (2, .int a2), (3, .int x3_27), (4, .int x4_28), (5, .int x5_13)]) (q := 5) C dX10_bent_165 rfl ci_1 (by decide) (fun _ => rfl) (fun v_30 => ?_)
          refine m_goto (tgt := 71) C dX10_bent_168 rfl ?_
          refine m_loc (L2 := [(0, .ref (A 27)), (2, .int a2), (3, .int x3_27), (4, .int x4_28), (5, .int x5_13), (6, .int v_30)]) [1, 2, 3, 4, 5, 0] rfl ?_
          exact hrec71 x3_27 x4_28 v_30 s_25
        refine m_if_ne (tgt := 142) C dX10_bent_136 rfl ?_ ?_
        · refine m_iincb (L2 := fun v_31 => [(3, .int v_31), (0, .ref (A 27)), (2, .int a2), (4, .int x4_21), (5, .int x5_13), (6, .int x6_22), (7, .int (b2i x7_24))]) (q := 2) C dX10_bent_142 rfl ci_1 (by decide) (fun _ => rfl) (fun v_31 => ?_)
          refine m_iload C dX10_bent_145 rfl ?_
          refine m_jn (P := fun (k_33 : Int32 → Option (Int32 × Sg)) => ∀ (y_32 : Int32), Wm p l e (rmD 5) s m args below meth c D ct A 9 embI 163 [(0, .ref (A 27)), (2, .int a2), (3, .int v_31), (5, .int x5_13), (6, .int x6_22)] [.int y_32] s_25 (k_33 y_32)) ?_ (fun k_33 hk_33 => ?_)
          · intro y_32
            refine m_istore (L2 := [(4, .int y_32), (0, .ref (A 27)), (2, .int a2), (3, .int v_31), (5, .int x5_13), (6, .int x6_22)]) C dX10_bent_163 (by decide) rfl ?_
            refine m_loc (L2 := [(0, .ref (A 27)), (2, .int a2), (3, .int v_31), (4, .int y_32), (5, .int x5_13), (6, .int x6_22)]) [1, 2, 3, 0, 4, 5] rfl ?_
            exact hk_29 v_31 y_32
          refine m_if_ge (tgt := 161) C dX10_bent_147 rfl ?_ ?_
          · refine m_iload C dX10_bent_161 rfl ?_
            refine m_loc (L2 := [(0, .ref (A 27)), (2, .int a2), (3, .int v_31), (5, .int x5_13), (6, .int x6_22)]) [1, 2, 0, 4, 5] rfl ?_
            exact hk_33 x4_21
          · refine m_bipush C dX10_bent_150 cb_100 ?_
            refine m_iload C dX10_bent_152 rfl ?_
            refine m_imul C dX10_bent_154 ?_
            refine m_iload C dX10_bent_155 rfl ?_
            refine m_iadd C dX10_bent_157 ?_
            refine m_goto (tgt := 163) C dX10_bent_158 rfl ?_
            refine m_loc (L2 := [(0, .ref (A 27)), (2, .int a2), (3, .int v_31), (5, .int x5_13), (6, .int x6_22)]) [1, 2, 0, 4, 5] rfl ?_
            exact hk_33 ((100 * x5_13) + x6_22)
        · refine m_goto (tgt := 165) C dX10_bent_139 rfl ?_
          refine m_loc (L2 := [(0, .ref (A 27)), (2, .int a2), (3, .int x3_20), (4, .int x4_21), (5, .int x5_13), (6, .int x6_22)]) [0, 1, 2, 3, 4, 5] rfl ?_
          exact hk_29 x3_20 x4_21
      refine m_loc (L2 := [(0, .ref (A 27)), (2, .int a2), (3, .int x3_20), (4, .int x4_21), (5, .int x5_13), (6, .int x6_22), (7, .int 1), (8, .int 0)]) [2, 3, 4, 5, 6, 7, 1, 0] rfl ?_
      exact wX10_bent_84 C a2 x5_13 x3_20 x4_21 x6_22 k_26 hk_26 FU true 0 s_23
theorem wX10_bent_61 {p : Program} {l : Launch} {e : Env} {s : State} {m : MethodId} {args : Array Value} {below : List Frame} {meth : Method} {c : Code} {D : va_G} {ct : Nat → ClassId} {A : Nat → Nat} (C : Cx p m c cX10_bent 9 s args yX10_bent.cls meth (some .int) D ct A) (a2 : Int32) (k_10 : Int32 → Int32 → Sg → Option (Int32 × Sg)) (hk_10 : ∀ (x3_7 : Int32) (x4_8 : Int32) (s_9 : Sg), Wm p l e (rmD 5) s m args below meth c D ct A 9 embI 177 [(2, .int a2), (3, .int x3_7), (4, .int x4_8)] [] s_9 (k_10 x3_7 x4_8 s_9)) : ∀ (n : Nat) (x3_11 : Int32) (x4_12 : Int32) (x5_13 : Int32) (s_14 : Sg), Wm p l e (rmD 5) s m args below meth c D ct A 9 embI 61 [(0, .ref (A 27)), (2, .int a2), (3, .int x3_11), (4, .int x4_12), (5, .int x5_13)] [] s_14 (lo4 (fX10_bent_61_b k_10) n x3_11 x4_12 x5_13 s_14) := by
  intro n
  induction n with
  | zero => intro x3_11 x4_12 x5_13 s_14; exact m_none
  | succ n hrec61 =>
    intro x3_11 x4_12 x5_13 s_14
    refine (show Wm p l e (rmD 5) s m args below meth c D ct A 9 embI 61 [(0, .ref (A 27)), (2, .int a2), (3, .int x3_11), (4, .int x4_12), (5, .int x5_13)] [] s_14 (fX10_bent_61_b k_10 (lo4 (fX10_bent_61_b k_10) n) x3_11 x4_12 x5_13 s_14) from ?_)
    generalize lo4 (fX10_bent_61_b k_10) n = rec61 at hrec61 ⊢
    unfold fX10_bent_61_b
    refine m_iload C dX10_bent_61 rfl ?_
    refine m_bipush C dX10_bent_63 cb_20 ?_
    refine m_icmp_gt (tgt := 177) C dX10_bent_65 rfl ?_ ?_
    · refine m_loc (L2 := [(2, .int a2), (3, .int x3_11), (4, .int x4_12)]) [1, 2, 3] rfl ?_
      exact hk_10 x3_11 x4_12 s_14
    · refine m_iconst C dX10_bent_68 ci_1 ?_
      refine m_istore (L2 := [(6, .int 1), (0, .ref (A 27)), (2, .int a2), (3, .int x3_11), (4, .int x4_12), (5, .int x5_13)]) C dX10_bent_69 (by decide) rfl ?_
      refine m_jn (P := fun (k_18 : Int32 → Int32 → Sg → Option (Int32 × Sg)) => ∀ (x3_15 : Int32) (x4_16 : Int32) (s_17 : Sg), Wm p l e (rmD 5) s m args below meth c D ct A 9 embI 171 [(0, .ref (A 27)), (2, .int a2), (3, .int x3_15), (4, .int x4_16), (5, .int x5_13)] [] s_17 (k_18 x3_15 x4_16 s_17)) ?_ (fun k_18 hk_18 => ?_)
      · intro x3_15 x4_16 s_17
        refine m_iincb (L2 := fun v_19 => [(5, .int v_19), (0, .ref (A 27)), (2, .int a2), (3, .int x3_15), (4, .int x4_16)]) (q := 4) C dX10_bent_171 rfl ci_1 (by decide) (fun _ => rfl) (fun v_19 => ?_)
        refine m_goto (tgt := 61) C dX10_bent_174 rfl ?_
        refine m_loc (L2 := [(0, .ref (A 27)), (2, .int a2), (3, .int x3_15), (4, .int x4_16), (5, .int v_19)]) [1, 2, 3, 4, 0] rfl ?_
        exact hrec61 x3_15 x4_16 v_19 s_17
      refine m_loc (L2 := [(0, .ref (A 27)), (2, .int a2), (3, .int x3_11), (4, .int x4_12), (5, .int x5_13), (6, .int 1)]) [1, 2, 3, 4, 5, 0] rfl ?_
      exact wX10_bent_71 C a2 x5_13 k_18 hk_18 FU x3_11 x4_12 1 s_14
theorem wX10_bent_24 {p : Program} {l : Launch} {e : Env} {s : State} {m : MethodId} {args : Array Value} {below : List Frame} {meth : Method} {c : Code} {D : va_G} {ct : Nat → ClassId} {A : Nat → Nat} (C : Cx p m c cX10_bent 9 s args yX10_bent.cls meth (some .int) D ct A) (a1 : Int32) (a2 : Int32) (k_6 : Sg → Option (Int32 × Sg)) (hk_6 : ∀ (s_5 : Sg), Wm p l e (rmD 5) s m args below meth c D ct A 9 embI 53 [(0, .ref (A 27)), (2, .int a2)] [] s_5 (k_6 s_5)) : ∀ (n : Nat) (x3_46 : Int32) (s_47 : Sg), Wm p l e (rmD 5) s m args below meth c D ct A 9 embI 24 [(0, .ref (A 27)), (1, .int a1), (2, .int a2), (3, .int x3_46)] [] s_47 (lo2 (fX10_bent_24_b a1 k_6) n x3_46 s_47) := by
  intro n
  induction n with
  | zero => intro x3_46 s_47; exact m_none
  | succ n hrec24 =>
    intro x3_46 s_47
    refine (show Wm p l e (rmD 5) s m args below meth c D ct A 9 embI 24 [(0, .ref (A 27)), (1, .int a1), (2, .int a2), (3, .int x3_46)] [] s_47 (fX10_bent_24_b a1 k_6 (lo2 (fX10_bent_24_b a1 k_6) n) x3_46 s_47) from ?_)
    generalize lo2 (fX10_bent_24_b a1 k_6) n = rec24 at hrec24 ⊢
    unfold fX10_bent_24_b
    refine m_iload_n C dX10_bent_24 rfl ?_
    refine m_aload_n C dX10_bent_25 rfl ?_
    refine m_get (v := .ref (A 28)) C fl_X10_7_9 rfl (by decide) rfl dX10_bent_26 ?_
    refine m_bipush C dX10_bent_29 cb_10 ?_
    refine m_iald C rfl (by decide +kernel) dX10_bent_31 ?_
    refine m_icmp_ge (tgt := 53) C dX10_bent_32 rfl ?_ ?_
    · refine m_loc (L2 := [(0, .ref (A 27)), (2, .int a2)]) [0, 2] rfl ?_
      exact hk_6 s_47
    · refine m_aload_n C dX10_bent_35 rfl ?_
      refine m_get (v := .ref (A 42)) C fl_X10_61_9 rfl (by decide) rfl dX10_bent_36 ?_
      refine m_iload_n C dX10_bent_39 rfl ?_
      refine m_aload_n C dX10_bent_40 rfl ?_
      refine m_iload_n C dX10_bent_41 rfl ?_
      refine m_iload_n C dX10_bent_42 rfl ?_
      refine m_callVI C ml_X10_342 ⟨Nat.le_of_ble_eq_true rfl, Nat.le_of_ble_eq_true rfl⟩ rfl rfl [.int x3_46, .int a1] [.int x3_46, .ref (A 42)] rfl rfl (Nat.le_of_ble_eq_true rfl) dX10_bent_43 (fun o ho => kX10_borneBy l D ct A x3_46 a1 s_47 o ho) (fun r_48 s_49 => ?_)
      refine m_chk (fun h_50 => ?_)
      refine m_iast C rfl h_50 dX10_bent_46 (fun s_51 => ?_)
      refine m_iincb (L2 := fun v_52 => [(3, .int v_52), (0, .ref (A 27)), (1, .int a1), (2, .int a2)]) (q := 3) C dX10_bent_47 rfl ci_1 (by decide) (fun _ => rfl) (fun v_52 => ?_)
      refine m_goto (tgt := 24) C dX10_bent_50 rfl ?_
      refine m_loc (L2 := [(0, .ref (A 27)), (1, .int a1), (2, .int a2), (3, .int v_52)]) [1, 2, 3, 0] rfl ?_
      exact hrec24 v_52 s_51
theorem kX10_bent (l : Launch) (D : va_G) (ct : Nat → ClassId) (A : Nat → Nat) (a1 : Int32) (a2 : Int32) (s0 : Sg) (o : Int32 × Sg) (ho : fX10_bent a1 a2 s0 = some o) : Con l yX10_bent cX10_bent 9 (some .int) 5 D ct A [.ref (A 27), .int a1, .int a2] s0 (embI o) := by
  refine con_start (by decide +kernel) (Nat.le_of_ble_eq_true rfl) ho (fun p e s m args below meth c C => ?_)
  refine m_loc (L2 := [(0, .ref (A 27)), (1, .int a1), (2, .int a2)]) [0, 1, 2] rfl ?_
  unfold fX10_bent
  refine m_iload_n C dX10_bent_0 rfl ?_
  refine m_iconst C dX10_bent_1 ci_1 ?_
  refine m_sipush C dX10_bent_2 cs_999 ?_
  refine m_callSZ C ml_X10_83 ⟨Nat.le_of_ble_eq_true rfl, Nat.le_of_ble_eq_true rfl⟩ [.int a1, .int 1, .int 999] [] rfl rfl (Nat.le_of_ble_eq_true rfl) dX10_bent_5 (fun o ho => kX10_isIn l D ct A a1 1 999 s0 o ho) (fun r_1 s_2 => ?_)
  refine m_if_eq (tgt := 20) C dX10_bent_8 rfl ?_ ?_
  · refine m_iconst C dX10_bent_20 ci_m1 ?_
    exact m_iret C dX10_bent_21
  · refine m_iload_n C dX10_bent_11 rfl ?_
    refine m_iconst C dX10_bent_12 ci_0 ?_
    refine m_iconst C dX10_bent_13 ci_1 ?_
    refine m_callSZ C ml_X10_83 ⟨Nat.le_of_ble_eq_true rfl, Nat.le_of_ble_eq_true rfl⟩ [.int a2, .int 0, .int 1] [] rfl rfl (Nat.le_of_ble_eq_true rfl) dX10_bent_14 (fun o ho => kX10_isIn l D ct A a2 0 1 s_2 o ho) (fun r_3 s_4 => ?_)
    refine m_if_ne (tgt := 22) C dX10_bent_17 rfl ?_ ?_
    · refine m_iconst C dX10_bent_22 ci_0 ?_
      refine m_istore_n (L2 := [(3, .int 0), (0, .ref (A 27)), (1, .int a1), (2, .int a2)]) C dX10_bent_23 rfl (by decide) rfl ?_
      refine m_jn (P := fun (k_6 : Sg → Option (Int32 × Sg)) => ∀ (s_5 : Sg), Wm p l e (rmD 5) s m args below meth c D ct A 9 embI 53 [(0, .ref (A 27)), (2, .int a2)] [] s_5 (k_6 s_5)) ?_ (fun k_6 hk_6 => ?_)
      · intro s_5
        refine m_iconst C dX10_bent_53 ci_0 ?_
        refine m_istore_n (L2 := [(3, .int 0), (0, .ref (A 27)), (2, .int a2)]) C dX10_bent_54 rfl (by decide) rfl ?_
        refine m_iconst C dX10_bent_55 ci_m1 ?_
        refine m_istore (L2 := [(4, .int (-1)), (3, .int 0), (0, .ref (A 27)), (2, .int a2)]) C dX10_bent_56 (by decide) rfl ?_
        refine m_iconst C dX10_bent_58 ci_1 ?_
        refine m_istore (L2 := [(5, .int 1), (4, .int (-1)), (3, .int 0), (0, .ref (A 27)), (2, .int a2)]) C dX10_bent_59 (by decide) rfl ?_
        refine m_jn (P := fun (k_10 : Int32 → Int32 → Sg → Option (Int32 × Sg)) => ∀ (x3_7 : Int32) (x4_8 : Int32) (s_9 : Sg), Wm p l e (rmD 5) s m args below meth c D ct A 9 embI 177 [(2, .int a2), (3, .int x3_7), (4, .int x4_8)] [] s_9 (k_10 x3_7 x4_8 s_9)) ?_ (fun k_10 hk_10 => ?_)
        · intro x3_7 x4_8 s_9
          refine m_iload_n C dX10_bent_177 rfl ?_
          refine m_if_ne (tgt := 185) C dX10_bent_178 rfl ?_ ?_
          · refine m_iload C dX10_bent_185 rfl ?_
            exact m_iret C dX10_bent_187
          · refine m_iload_n C dX10_bent_181 rfl ?_
            refine m_goto (tgt := 187) C dX10_bent_182 rfl ?_
            exact m_iret C dX10_bent_187
        refine m_loc (L2 := [(0, .ref (A 27)), (2, .int a2), (3, .int 0), (4, .int (-1)), (5, .int 1)]) [3, 4, 2, 1, 0] rfl ?_
        exact wX10_bent_61 C a2 k_10 hk_10 FU 0 (-1) 1 s_5
      refine m_loc (L2 := [(0, .ref (A 27)), (1, .int a1), (2, .int a2), (3, .int 0)]) [1, 2, 3, 0] rfl ?_
      exact wX10_bent_24 C a1 a2 k_6 hk_6 FU 0 s_4
    · refine m_iconst C dX10_bent_20 ci_m1 ?_
      exact m_iret C dX10_bent_21
def fX10_tryBalanced (a1 : Int32) (a2 : Int32) (s0 : Sg) : Option (Sg) :=
  bnd (fX10_bits a1 s0) fun r_1 s_2 =>
  bv (fun (y_3 : Bool) => 
    if (b2i y_3) = 0 then
      some s_2
    else
      bv (si s_2 43 (ix 0) r_1) fun s_5 =>
      bv (si s_5 43 (ix 1) a1) fun s_6 =>
      bv (si s_6 43 (ix 2) a2) fun s_7 =>
      some s_7)
  fun k_4 =>
  bv (
    k_4 true)
  fun k_8 =>
  if (gi s_2 43 (ix 0)) < 0 then
    k_8
  else
    if r_1 < (gi s_2 43 (ix 0)) then
      k_8
    else
      bv (
        k_4 false)
      fun k_9 =>
      if r_1 = (gi s_2 43 (ix 0)) then
        if a1 < (gi s_2 43 (ix 1)) then
          k_8
        else
          if a1 = (gi s_2 43 (ix 1)) then
            if (gi s_2 43 (ix 2)) ≤ a2 then
              k_9
            else
              k_8
          else
            k_9
      else
        k_9
theorem kX10_tryBalanced (l : Launch) (D : va_G) (ct : Nat → ClassId) (A : Nat → Nat) (a1 : Int32) (a2 : Int32) (s0 : Sg) (o : Sg) (ho : fX10_tryBalanced a1 a2 s0 = some o) : Con l yX10_tryBalanced cX10_tryBalanced 5 none 1 D ct A [.ref (A 27), .int a1, .int a2] s0 (embV o) := by
  refine con_start (by decide +kernel) (Nat.le_of_ble_eq_true rfl) ho (fun p e s m args below meth c C => ?_)
  refine m_loc (L2 := [(0, .ref (A 27)), (1, .int a1), (2, .int a2)]) [0, 1, 2] rfl ?_
  unfold fX10_tryBalanced
  refine m_iload_n C dX10_tryBalanced_0 rfl ?_
  refine m_callSI C ml_X10_318 ⟨Nat.le_of_ble_eq_true rfl, Nat.le_of_ble_eq_true rfl⟩ [.int a1] [] rfl rfl (Nat.le_of_ble_eq_true rfl) dX10_tryBalanced_1 (fun o ho => kX10_bits l D ct A a1 s0 o ho) (fun r_1 s_2 => ?_)
  refine m_istore_n (L2 := [(3, .int r_1), (0, .ref (A 27)), (1, .int a1), (2, .int a2)]) C dX10_tryBalanced_4 rfl (by decide) rfl ?_
  refine m_aload_n C dX10_tryBalanced_5 rfl ?_
  refine m_get (v := .ref (A 43)) C fl_X10_64_9 rfl (by decide) rfl dX10_tryBalanced_6 ?_
  refine m_iconst C dX10_tryBalanced_9 ci_0 ?_
  refine m_iald C rfl (by decide +kernel) dX10_tryBalanced_10 ?_
  refine m_jn (P := fun (k_4 : Bool → Option (Sg)) => ∀ (y_3 : Bool), Wm p l e (rmD 1) s m args below meth c D ct A 5 embV 69 [(0, .ref (A 27)), (1, .int a1), (2, .int a2), (3, .int r_1)] [.int (b2i y_3)] s_2 (k_4 y_3)) ?_ (fun k_4 hk_4 => ?_)
  · intro y_3
    refine m_istore (L2 := [(4, .int (b2i y_3)), (0, .ref (A 27)), (1, .int a1), (2, .int a2), (3, .int r_1)]) C dX10_tryBalanced_69 (by decide) rfl ?_
    refine m_iload C dX10_tryBalanced_71 rfl ?_
    refine m_if_ne (tgt := 77) C dX10_tryBalanced_73 rfl ?_ ?_
    · refine m_aload_n C dX10_tryBalanced_77 rfl ?_
      refine m_get (v := .ref (A 43)) C fl_X10_64_9 rfl (by decide) rfl dX10_tryBalanced_78 ?_
      refine m_iconst C dX10_tryBalanced_81 ci_0 ?_
      refine m_iload_n C dX10_tryBalanced_82 rfl ?_
      refine m_iast C rfl (by decide +kernel) dX10_tryBalanced_83 (fun s_5 => ?_)
      refine m_aload_n C dX10_tryBalanced_84 rfl ?_
      refine m_get (v := .ref (A 43)) C fl_X10_64_9 rfl (by decide) rfl dX10_tryBalanced_85 ?_
      refine m_iconst C dX10_tryBalanced_88 ci_1 ?_
      refine m_iload_n C dX10_tryBalanced_89 rfl ?_
      refine m_iast C rfl (by decide +kernel) dX10_tryBalanced_90 (fun s_6 => ?_)
      refine m_aload_n C dX10_tryBalanced_91 rfl ?_
      refine m_get (v := .ref (A 43)) C fl_X10_64_9 rfl (by decide) rfl dX10_tryBalanced_92 ?_
      refine m_iconst C dX10_tryBalanced_95 ci_2 ?_
      refine m_iload_n C dX10_tryBalanced_96 rfl ?_
      refine m_iast C rfl (by decide +kernel) dX10_tryBalanced_97 (fun s_7 => ?_)
      exact m_vret C dX10_tryBalanced_98
    · exact m_vret C dX10_tryBalanced_76
  refine m_jn (P := fun (k_8 : Option (Sg)) => Wm p l e (rmD 1) s m args below meth c D ct A 5 embV 64 [(0, .ref (A 27)), (1, .int a1), (2, .int a2), (3, .int r_1)] [] s_2 (k_8)) ?_ (fun k_8 hk_8 => ?_)
  · refine m_iconst C dX10_tryBalanced_64 ci_1 ?_
    refine m_goto (tgt := 69) C dX10_tryBalanced_65 rfl ?_
    refine m_loc (L2 := [(0, .ref (A 27)), (1, .int a1), (2, .int a2), (3, .int r_1)]) [0, 1, 2, 3] rfl ?_
    exact hk_4 true
  refine m_if_lt (tgt := 64) C dX10_tryBalanced_11 rfl ?_ ?_
  · refine m_loc (L2 := [(0, .ref (A 27)), (1, .int a1), (2, .int a2), (3, .int r_1)]) [1, 2, 3, 0] rfl ?_
    exact hk_8
  · refine m_iload_n C dX10_tryBalanced_14 rfl ?_
    refine m_aload_n C dX10_tryBalanced_15 rfl ?_
    refine m_get (v := .ref (A 43)) C fl_X10_64_9 rfl (by decide) rfl dX10_tryBalanced_16 ?_
    refine m_iconst C dX10_tryBalanced_19 ci_0 ?_
    refine m_iald C rfl (by decide +kernel) dX10_tryBalanced_20 ?_
    refine m_icmp_lt (tgt := 64) C dX10_tryBalanced_21 rfl ?_ ?_
    · refine m_loc (L2 := [(0, .ref (A 27)), (1, .int a1), (2, .int a2), (3, .int r_1)]) [1, 2, 3, 0] rfl ?_
      exact hk_8
    · refine m_iload_n C dX10_tryBalanced_24 rfl ?_
      refine m_aload_n C dX10_tryBalanced_25 rfl ?_
      refine m_get (v := .ref (A 43)) C fl_X10_64_9 rfl (by decide) rfl dX10_tryBalanced_26 ?_
      refine m_iconst C dX10_tryBalanced_29 ci_0 ?_
      refine m_iald C rfl (by decide +kernel) dX10_tryBalanced_30 ?_
      refine m_jn (P := fun (k_9 : Option (Sg)) => Wm p l e (rmD 1) s m args below meth c D ct A 5 embV 68 [(0, .ref (A 27)), (1, .int a1), (2, .int a2), (3, .int r_1)] [] s_2 (k_9)) ?_ (fun k_9 hk_9 => ?_)
      · refine m_iconst C dX10_tryBalanced_68 ci_0 ?_
        refine m_loc (L2 := [(0, .ref (A 27)), (1, .int a1), (2, .int a2), (3, .int r_1)]) [0, 1, 2, 3] rfl ?_
        exact hk_4 false
      refine m_icmp_ne (tgt := 68) C dX10_tryBalanced_31 rfl ?_ ?_
      · refine m_loc (L2 := [(0, .ref (A 27)), (1, .int a1), (2, .int a2), (3, .int r_1)]) [1, 2, 3, 0] rfl ?_
        exact hk_9
      · refine m_iload_n C dX10_tryBalanced_34 rfl ?_
        refine m_aload_n C dX10_tryBalanced_35 rfl ?_
        refine m_get (v := .ref (A 43)) C fl_X10_64_9 rfl (by decide) rfl dX10_tryBalanced_36 ?_
        refine m_iconst C dX10_tryBalanced_39 ci_1 ?_
        refine m_iald C rfl (by decide +kernel) dX10_tryBalanced_40 ?_
        refine m_icmp_lt (tgt := 64) C dX10_tryBalanced_41 rfl ?_ ?_
        · refine m_loc (L2 := [(0, .ref (A 27)), (1, .int a1), (2, .int a2), (3, .int r_1)]) [1, 2, 3, 0] rfl ?_
          exact hk_8
        · refine m_iload_n C dX10_tryBalanced_44 rfl ?_
          refine m_aload_n C dX10_tryBalanced_45 rfl ?_
          refine m_get (v := .ref (A 43)) C fl_X10_64_9 rfl (by decide) rfl dX10_tryBalanced_46 ?_
          refine m_iconst C dX10_tryBalanced_49 ci_1 ?_
          refine m_iald C rfl (by decide +kernel) dX10_tryBalanced_50 ?_
          refine m_icmp_ne (tgt := 68) C dX10_tryBalanced_51 rfl ?_ ?_
          · refine m_loc (L2 := [(0, .ref (A 27)), (1, .int a1), (2, .int a2), (3, .int r_1)]) [1, 2, 3, 0] rfl ?_
            exact hk_9
          · refine m_iload_n C dX10_tryBalanced_54 rfl ?_
            refine m_aload_n C dX10_tryBalanced_55 rfl ?_
            refine m_get (v := .ref (A 43)) C fl_X10_64_9 rfl (by decide) rfl dX10_tryBalanced_56 ?_
            refine m_iconst C dX10_tryBalanced_59 ci_2 ?_
            refine m_iald C rfl (by decide +kernel) dX10_tryBalanced_60 ?_
            refine m_icmp_ge (tgt := 68) C dX10_tryBalanced_61 rfl ?_ ?_
            · refine m_loc (L2 := [(0, .ref (A 27)), (1, .int a1), (2, .int a2), (3, .int r_1)]) [1, 2, 3, 0] rfl ?_
              exact hk_9
            · refine m_loc (L2 := [(0, .ref (A 27)), (1, .int a1), (2, .int a2), (3, .int r_1)]) [1, 2, 3, 0] rfl ?_
              exact hk_8
def fX10_balanced_156_b (a1 : Int32) (x4_12 : Int32) (k_15 : Sg → Option (Int32 × Sg)) (rec156 : Int32 → Sg → Option (Int32 × Sg)) (x5_19 : Int32) (s_20 : Sg) : Option (Int32 × Sg) :=
  if x5_19 ≤ 0 then
    k_15 s_20
  else
    bv ((x5_19 - 1) &&& x4_12) fun v_21 =>
    chk (inb 4096 x4_12) <|
    chk (inb 4096 v_21) <|
    if ((gi s_20 44 (ix x4_12)) - (2 * (gi s_20 44 (ix v_21)))) = a1 then
      bnv (fX10_tryBalanced x4_12 v_21 s_20) fun s_24 =>
      rec156 v_21 s_24
    else
      rec156 v_21 s_20
def fX10_balanced_120_b (a1 : Int32) (v_5 : Int32) (k_10 : Sg → Option (Int32 × Sg)) (rec120 : Int32 → Sg → Option (Int32 × Sg)) (x4_12 : Int32) (s_13 : Sg) : Option (Int32 × Sg) :=
  if v_5 < x4_12 then
    k_10 s_13
  else
    bv (fun (s_14 : Sg) => 
      bv (x4_12 + 1) fun v_16 =>
      rec120 v_16 s_14)
    fun k_15 =>
    bv (fun (s_17 : Sg) => 
      lo2 (fX10_balanced_156_b a1 x4_12 k_15) FU x4_12 s_17)
    fun k_18 =>
    if (gi s_13 43 (ix 0)) < 0 then
      k_18 s_13
    else
      bnd (fX10_bits x4_12 s_13) fun r_25 s_26 =>
      if r_25 ≤ (gi s_26 43 (ix 0)) then
        k_18 s_26
      else
        k_15 s_26
def fX10_balanced_53_b (x4_27 : Int32) (k_32 : Sg → Option (Int32 × Sg)) (rec53 : Int32 → Sg → Option (Int32 × Sg)) (x5_34 : Int32) (s_35 : Sg) : Option (Int32 × Sg) :=
  if (gi s_35 28 (ix 0)) ≤ x5_34 then
    k_32 s_35
  else
    chk (inb 4096 x4_27) <|
    bnd (fX10_has x4_27 x5_34 s_35) fun r_37 s_38 =>
    bv (fun (y_39 : Int32) (y_40 : Int32) (y_41 : Int32) (s_42 : Sg) => 
      chk (inb 4096 y_39) <|
      bv (si s_42 44 (ix y_39) (y_40 + y_41)) fun s_45 =>
      bv (x5_34 + 1) fun v_46 =>
      rec53 v_46 s_45)
    fun k_43 =>
    if (b2i r_37) = 0 then
      k_43 x4_27 (gi s_35 44 (ix x4_27)) 0 s_38
    else
      bnd (fX10_thingAt x5_34 s_38) fun r_47 s_48 =>
      chk (inb 720 r_47) <|
      k_43 x4_27 (gi s_35 44 (ix x4_27)) (gi s_48 28 (ix r_47)) s_48
def fX10_balanced_36_b (v_5 : Int32) (k_7 : Sg → Option (Int32 × Sg)) (rec36 : Int32 → Sg → Option (Int32 × Sg)) (x4_27 : Int32) (s_28 : Sg) : Option (Int32 × Sg) :=
  if v_5 < x4_27 then
    k_7 s_28
  else
    chk (inb 4096 x4_27) <|
    bv (si s_28 44 (ix x4_27) 0) fun s_30 =>
    bv (fun (s_31 : Sg) => 
      bv (x4_27 + 1) fun v_33 =>
      rec36 v_33 s_31)
    fun k_32 =>
    lo2 (fX10_balanced_53_b x4_27 k_32) FU 0 s_30
def fX10_balanced (a1 : Int32) (a2 : Int32) (s0 : Sg) : Option (Int32 × Sg) :=
  bnd (fX10_isIn a1 1 999 s0) fun r_1 s_2 =>
  if (b2i r_1) = 0 then
    some ((-1), s_2)
  else
    bnd (fX10_isIn a2 0 2 s_2) fun r_3 s_4 =>
    if (b2i r_3) = 0 then
      some ((-1), s_4)
    else
      bv ((1 <<< ((gi s_4 28 (ix 0)) &&& 31)) - 1) fun v_5 =>
      bv (fun (s_6 : Sg) => 
        bv (si s_6 43 (ix 0) (-1)) fun s_8 =>
        bv (fun (s_9 : Sg) => 
          if 0 ≤ (gi s_9 43 (ix 0)) then
            chk (inb 3 a2) <|
            some (gi s_9 43 (ix a2), s_9)
          else
            some ((-1), s_9))
        fun k_10 =>
        lo2 (fX10_balanced_120_b a1 v_5 k_10) FU 1 s_8)
      fun k_7 =>
      lo2 (fX10_balanced_36_b v_5 k_7) FU 0 s_4
theorem wX10_balanced_156 {p : Program} {l : Launch} {e : Env} {s : State} {m : MethodId} {args : Array Value} {below : List Frame} {meth : Method} {c : Code} {D : va_G} {ct : Nat → ClassId} {A : Nat → Nat} (C : Cx p m c cX10_balanced 6 s args yX10_balanced.cls meth (some .int) D ct A) (a1 : Int32) (a2 : Int32) (v_5 : Int32) (x4_12 : Int32) (k_15 : Sg → Option (Int32 × Sg)) (hk_15 : ∀ (s_14 : Sg), Wm p l e (rmD 2) s m args below meth c D ct A 6 embI 202 [(0, .ref (A 27)), (1, .int a1), (2, .int a2), (3, .int v_5), (4, .int x4_12)] [] s_14 (k_15 s_14)) : ∀ (n : Nat) (x5_19 : Int32) (s_20 : Sg), Wm p l e (rmD 2) s m args below meth c D ct A 6 embI 156 [(0, .ref (A 27)), (1, .int a1), (2, .int a2), (3, .int v_5), (4, .int x4_12), (5, .int x5_19)] [] s_20 (lo2 (fX10_balanced_156_b a1 x4_12 k_15) n x5_19 s_20) := by
  intro n
  induction n with
  | zero => intro x5_19 s_20; exact m_none
  | succ n hrec156 =>
    intro x5_19 s_20
    refine (show Wm p l e (rmD 2) s m args below meth c D ct A 6 embI 156 [(0, .ref (A 27)), (1, .int a1), (2, .int a2), (3, .int v_5), (4, .int x4_12), (5, .int x5_19)] [] s_20 (fX10_balanced_156_b a1 x4_12 k_15 (lo2 (fX10_balanced_156_b a1 x4_12 k_15) n) x5_19 s_20) from ?_)
    generalize lo2 (fX10_balanced_156_b a1 x4_12 k_15) n = rec156 at hrec156 ⊢
    unfold fX10_balanced_156_b
    refine m_iload C dX10_balanced_156 rfl ?_
    refine m_if_le (tgt := 202) C dX10_balanced_158 rfl ?_ ?_
    · refine m_loc (L2 := [(0, .ref (A 27)), (1, .int a1), (2, .int a2), (3, .int v_5), (4, .int x4_12)]) [0, 1, 2, 3, 4] rfl ?_
      exact hk_15 s_20
    · refine m_iload C dX10_balanced_161 rfl ?_
      refine m_iconst C dX10_balanced_163 ci_1 ?_
      refine m_isub C dX10_balanced_164 ?_
      refine m_iload C dX10_balanced_165 rfl ?_
      refine m_iand C dX10_balanced_167 ?_
      refine m_let (fun v_21 => ?_)
      refine m_istore (L2 := [(5, .int v_21), (0, .ref (A 27)), (1, .int a1), (2, .int a2), (3, .int v_5), (4, .int x4_12)]) C dX10_balanced_168 (by decide) rfl ?_
      refine m_aload_n C dX10_balanced_170 rfl ?_
      refine m_get (v := .ref (A 44)) C fl_X10_67_9 rfl (by decide) rfl dX10_balanced_171 ?_
      refine m_iload C dX10_balanced_174 rfl ?_
      refine m_chk (fun h_22 => ?_)
      refine m_iald C rfl h_22 dX10_balanced_176 ?_
      refine m_iconst C dX10_balanced_177 ci_2 ?_
      refine m_aload_n C dX10_balanced_178 rfl ?_
      refine m_get (v := .ref (A 44)) C fl_X10_67_9 rfl (by decide) rfl dX10_balanced_179 ?_
      refine m_iload C dX10_balanced_182 rfl ?_
      refine m_chk (fun h_23 => ?_)
      refine m_iald C rfl h_23 dX10_balanced_184 ?_
      refine m_imul C dX10_balanced_185 ?_
      refine m_isub C dX10_balanced_186 ?_
      refine m_iload_n C dX10_balanced_187 rfl ?_
      refine m_icmp_ne (tgt := 156) C dX10_balanced_188 rfl ?_ ?_
      · refine m_loc (L2 := [(0, .ref (A 27)), (1, .int a1), (2, .int a2), (3, .int v_5), (4, .int x4_12), (5, .int v_21)]) [1, 2, 3, 4, 5, 0] rfl ?_
        exact hrec156 v_21 s_20
      · refine m_aload_n C dX10_balanced_191 rfl ?_
        refine m_iload C dX10_balanced_192 rfl ?_
        refine m_iload C dX10_balanced_194 rfl ?_
        refine m_callVV C ml_X10_352 ⟨Nat.le_of_ble_eq_true rfl, Nat.le_of_ble_eq_true rfl⟩ rfl rfl [.int x4_12, .int v_21] [] rfl rfl (Nat.le_of_ble_eq_true rfl) dX10_balanced_196 (fun o ho => kX10_tryBalanced l D ct A x4_12 v_21 s_20 o ho) (fun s_24 => ?_)
        refine m_goto (tgt := 156) C dX10_balanced_199 rfl ?_
        refine m_loc (L2 := [(0, .ref (A 27)), (1, .int a1), (2, .int a2), (3, .int v_5), (4, .int x4_12), (5, .int v_21)]) [1, 2, 3, 4, 5, 0] rfl ?_
        exact hrec156 v_21 s_24
theorem wX10_balanced_120 {p : Program} {l : Launch} {e : Env} {s : State} {m : MethodId} {args : Array Value} {below : List Frame} {meth : Method} {c : Code} {D : va_G} {ct : Nat → ClassId} {A : Nat → Nat} (C : Cx p m c cX10_balanced 6 s args yX10_balanced.cls meth (some .int) D ct A) (a1 : Int32) (a2 : Int32) (v_5 : Int32) (k_10 : Sg → Option (Int32 × Sg)) (hk_10 : ∀ (s_9 : Sg), Wm p l e (rmD 2) s m args below meth c D ct A 6 embI 208 [(0, .ref (A 27)), (2, .int a2)] [] s_9 (k_10 s_9)) : ∀ (n : Nat) (x4_12 : Int32) (s_13 : Sg), Wm p l e (rmD 2) s m args below meth c D ct A 6 embI 120 [(0, .ref (A 27)), (1, .int a1), (2, .int a2), (3, .int v_5), (4, .int x4_12)] [] s_13 (lo2 (fX10_balanced_120_b a1 v_5 k_10) n x4_12 s_13) := by
  intro n
  induction n with
  | zero => intro x4_12 s_13; exact m_none
  | succ n hrec120 =>
    intro x4_12 s_13
    refine (show Wm p l e (rmD 2) s m args below meth c D ct A 6 embI 120 [(0, .ref (A 27)), (1, .int a1), (2, .int a2), (3, .int v_5), (4, .int x4_12)] [] s_13 (fX10_balanced_120_b a1 v_5 k_10 (lo2 (fX10_balanced_120_b a1 v_5 k_10) n) x4_12 s_13) from ?_)
    generalize lo2 (fX10_balanced_120_b a1 v_5 k_10) n = rec120 at hrec120 ⊢
    unfold fX10_balanced_120_b
    refine m_iload C dX10_balanced_120 rfl ?_
    refine m_iload_n C dX10_balanced_122 rfl ?_
    refine m_icmp_gt (tgt := 208) C dX10_balanced_123 rfl ?_ ?_
    · refine m_loc (L2 := [(0, .ref (A 27)), (2, .int a2)]) [0, 2] rfl ?_
      exact hk_10 s_13
    · refine m_aload_n C dX10_balanced_126 rfl ?_
      refine m_get (v := .ref (A 43)) C fl_X10_64_9 rfl (by decide) rfl dX10_balanced_127 ?_
      refine m_iconst C dX10_balanced_130 ci_0 ?_
      refine m_iald C rfl (by decide +kernel) dX10_balanced_131 ?_
      refine m_jn (P := fun (k_15 : Sg → Option (Int32 × Sg)) => ∀ (s_14 : Sg), Wm p l e (rmD 2) s m args below meth c D ct A 6 embI 202 [(0, .ref (A 27)), (1, .int a1), (2, .int a2), (3, .int v_5), (4, .int x4_12)] [] s_14 (k_15 s_14)) ?_ (fun k_15 hk_15 => ?_)
      · intro s_14
        refine m_iincb (L2 := fun v_16 => [(4, .int v_16), (0, .ref (A 27)), (1, .int a1), (2, .int a2), (3, .int v_5)]) (q := 4) C dX10_balanced_202 rfl ci_1 (by decide) (fun _ => rfl) (fun v_16 => ?_)
        refine m_goto (tgt := 120) C dX10_balanced_205 rfl ?_
        refine m_loc (L2 := [(0, .ref (A 27)), (1, .int a1), (2, .int a2), (3, .int v_5), (4, .int v_16)]) [1, 2, 3, 4, 0] rfl ?_
        exact hrec120 v_16 s_14
      refine m_jn (P := fun (k_18 : Sg → Option (Int32 × Sg)) => ∀ (s_17 : Sg), Wm p l e (rmD 2) s m args below meth c D ct A 6 embI 152 [(0, .ref (A 27)), (1, .int a1), (2, .int a2), (3, .int v_5), (4, .int x4_12)] [] s_17 (k_18 s_17)) ?_ (fun k_18 hk_18 => ?_)
      · intro s_17
        refine m_iload C dX10_balanced_152 rfl ?_
        refine m_istore (L2 := [(5, .int x4_12), (0, .ref (A 27)), (1, .int a1), (2, .int a2), (3, .int v_5), (4, .int x4_12)]) C dX10_balanced_154 (by decide) rfl ?_
        refine m_loc (L2 := [(0, .ref (A 27)), (1, .int a1), (2, .int a2), (3, .int v_5), (4, .int x4_12), (5, .int x4_12)]) [1, 2, 3, 4, 5, 0] rfl ?_
        exact wX10_balanced_156 C a1 a2 v_5 x4_12 k_15 hk_15 FU x4_12 s_17
      refine m_if_lt (tgt := 152) C dX10_balanced_132 rfl ?_ ?_
      · refine m_loc (L2 := [(0, .ref (A 27)), (1, .int a1), (2, .int a2), (3, .int v_5), (4, .int x4_12)]) [0, 1, 2, 3, 4] rfl ?_
        exact hk_18 s_13
      · refine m_iload C dX10_balanced_135 rfl ?_
        refine m_callSI C ml_X10_318 ⟨Nat.le_of_ble_eq_true rfl, Nat.le_of_ble_eq_true rfl⟩ [.int x4_12] [] rfl rfl (Nat.le_of_ble_eq_true rfl) dX10_balanced_137 (fun o ho => kX10_bits l D ct A x4_12 s_13 o ho) (fun r_25 s_26 => ?_)
        refine m_aload_n C dX10_balanced_140 rfl ?_
        refine m_get (v := .ref (A 43)) C fl_X10_64_9 rfl (by decide) rfl dX10_balanced_141 ?_
        refine m_iconst C dX10_balanced_144 ci_0 ?_
        refine m_iald C rfl (by decide +kernel) dX10_balanced_145 ?_
        refine m_icmp_le (tgt := 152) C dX10_balanced_146 rfl ?_ ?_
        · refine m_loc (L2 := [(0, .ref (A 27)), (1, .int a1), (2, .int a2), (3, .int v_5), (4, .int x4_12)]) [0, 1, 2, 3, 4] rfl ?_
          exact hk_18 s_26
        · refine m_goto (tgt := 202) C dX10_balanced_149 rfl ?_
          refine m_loc (L2 := [(0, .ref (A 27)), (1, .int a1), (2, .int a2), (3, .int v_5), (4, .int x4_12)]) [0, 1, 2, 3, 4] rfl ?_
          exact hk_15 s_26
theorem wX10_balanced_53 {p : Program} {l : Launch} {e : Env} {s : State} {m : MethodId} {args : Array Value} {below : List Frame} {meth : Method} {c : Code} {D : va_G} {ct : Nat → ClassId} {A : Nat → Nat} (C : Cx p m c cX10_balanced 6 s args yX10_balanced.cls meth (some .int) D ct A) (a1 : Int32) (a2 : Int32) (v_5 : Int32) (x4_27 : Int32) (k_32 : Sg → Option (Int32 × Sg)) (hk_32 : ∀ (s_31 : Sg), Wm p l e (rmD 2) s m args below meth c D ct A 6 embI 104 [(0, .ref (A 27)), (1, .int a1), (2, .int a2), (3, .int v_5), (4, .int x4_27)] [] s_31 (k_32 s_31)) : ∀ (n : Nat) (x5_34 : Int32) (s_35 : Sg), Wm p l e (rmD 2) s m args below meth c D ct A 6 embI 53 [(0, .ref (A 27)), (1, .int a1), (2, .int a2), (3, .int v_5), (4, .int x4_27), (5, .int x5_34)] [] s_35 (lo2 (fX10_balanced_53_b x4_27 k_32) n x5_34 s_35) := by
  intro n
  induction n with
  | zero => intro x5_34 s_35; exact m_none
  | succ n hrec53 =>
    intro x5_34 s_35
    refine (show Wm p l e (rmD 2) s m args below meth c D ct A 6 embI 53 [(0, .ref (A 27)), (1, .int a1), (2, .int a2), (3, .int v_5), (4, .int x4_27), (5, .int x5_34)] [] s_35 (fX10_balanced_53_b x4_27 k_32 (lo2 (fX10_balanced_53_b x4_27 k_32) n) x5_34 s_35) from ?_)
    generalize lo2 (fX10_balanced_53_b x4_27 k_32) n = rec53 at hrec53 ⊢
    unfold fX10_balanced_53_b
    refine m_iload C dX10_balanced_53 rfl ?_
    refine m_aload_n C dX10_balanced_55 rfl ?_
    refine m_get (v := .ref (A 28)) C fl_X10_7_9 rfl (by decide) rfl dX10_balanced_56 ?_
    refine m_iconst C dX10_balanced_59 ci_0 ?_
    refine m_iald C rfl (by decide +kernel) dX10_balanced_60 ?_
    refine m_icmp_ge (tgt := 104) C dX10_balanced_61 rfl ?_ ?_
    · refine m_loc (L2 := [(0, .ref (A 27)), (1, .int a1), (2, .int a2), (3, .int v_5), (4, .int x4_27)]) [0, 1, 2, 3, 4] rfl ?_
      exact hk_32 s_35
    · refine m_aload_n C dX10_balanced_64 rfl ?_
      refine m_get (v := .ref (A 44)) C fl_X10_67_9 rfl (by decide) rfl dX10_balanced_65 ?_
      refine m_iload C dX10_balanced_68 rfl ?_
      refine m_dup2 C dX10_balanced_70 rfl rfl ?_
      refine m_chk (fun h_36 => ?_)
      refine m_iald C rfl h_36 dX10_balanced_71 ?_
      refine m_iload C dX10_balanced_72 rfl ?_
      refine m_iload C dX10_balanced_74 rfl ?_
      refine m_callSZ C ml_X10_321 ⟨Nat.le_of_ble_eq_true rfl, Nat.le_of_ble_eq_true rfl⟩ [.int x4_27, .int x5_34] [.int (gi s_35 44 (ix x4_27)), .int x4_27, .ref (A 44)] rfl rfl (Nat.le_of_ble_eq_true rfl) dX10_balanced_76 (fun o ho => kX10_has l D ct A x4_27 x5_34 s_35 o ho) (fun r_37 s_38 => ?_)
      refine m_jn (P := fun (k_43 : Int32 → Int32 → Int32 → Sg → Option (Int32 × Sg)) => ∀ (y_39 : Int32) (y_40 : Int32) (y_41 : Int32) (s_42 : Sg), Wm p l e (rmD 2) s m args below meth c D ct A 6 embI 96 [(0, .ref (A 27)), (1, .int a1), (2, .int a2), (3, .int v_5), (4, .int x4_27), (5, .int x5_34)] [.int y_41, .int y_40, .int y_39, .ref (A 44)] s_42 (k_43 y_39 y_40 y_41 s_42)) ?_ (fun k_43 hk_43 => ?_)
      · intro y_39 y_40 y_41 s_42
        refine m_iadd C dX10_balanced_96 ?_
        refine m_chk (fun h_44 => ?_)
        refine m_iast C rfl h_44 dX10_balanced_97 (fun s_45 => ?_)
        refine m_iincb (L2 := fun v_46 => [(5, .int v_46), (0, .ref (A 27)), (1, .int a1), (2, .int a2), (3, .int v_5), (4, .int x4_27)]) (q := 5) C dX10_balanced_98 rfl ci_1 (by decide) (fun _ => rfl) (fun v_46 => ?_)
        refine m_goto (tgt := 53) C dX10_balanced_101 rfl ?_
        refine m_loc (L2 := [(0, .ref (A 27)), (1, .int a1), (2, .int a2), (3, .int v_5), (4, .int x4_27), (5, .int v_46)]) [1, 2, 3, 4, 5, 0] rfl ?_
        exact hrec53 v_46 s_45
      refine m_if_eq (tgt := 95) C dX10_balanced_79 rfl ?_ ?_
      · refine m_iconst C dX10_balanced_95 ci_0 ?_
        refine m_loc (L2 := [(0, .ref (A 27)), (1, .int a1), (2, .int a2), (3, .int v_5), (4, .int x4_27), (5, .int x5_34)]) [0, 1, 2, 3, 4, 5] rfl ?_
        exact hk_43 x4_27 (gi s_35 44 (ix x4_27)) 0 s_38
      · refine m_aload_n C dX10_balanced_82 rfl ?_
        refine m_get (v := .ref (A 28)) C fl_X10_7_9 rfl (by decide) rfl dX10_balanced_83 ?_
        refine m_iload C dX10_balanced_86 rfl ?_
        refine m_callSI C ml_X10_87 ⟨Nat.le_of_ble_eq_true rfl, Nat.le_of_ble_eq_true rfl⟩ [.int x5_34] [.ref (A 28), .int (gi s_35 44 (ix x4_27)), .int x4_27, .ref (A 44)] rfl rfl (Nat.le_of_ble_eq_true rfl) dX10_balanced_88 (fun o ho => kX10_thingAt l D ct A x5_34 s_38 o ho) (fun r_47 s_48 => ?_)
        refine m_chk (fun h_49 => ?_)
        refine m_iald C rfl h_49 dX10_balanced_91 ?_
        refine m_goto (tgt := 96) C dX10_balanced_92 rfl ?_
        refine m_loc (L2 := [(0, .ref (A 27)), (1, .int a1), (2, .int a2), (3, .int v_5), (4, .int x4_27), (5, .int x5_34)]) [0, 1, 2, 3, 4, 5] rfl ?_
        exact hk_43 x4_27 (gi s_35 44 (ix x4_27)) (gi s_48 28 (ix r_47)) s_48
theorem wX10_balanced_36 {p : Program} {l : Launch} {e : Env} {s : State} {m : MethodId} {args : Array Value} {below : List Frame} {meth : Method} {c : Code} {D : va_G} {ct : Nat → ClassId} {A : Nat → Nat} (C : Cx p m c cX10_balanced 6 s args yX10_balanced.cls meth (some .int) D ct A) (a1 : Int32) (a2 : Int32) (v_5 : Int32) (k_7 : Sg → Option (Int32 × Sg)) (hk_7 : ∀ (s_6 : Sg), Wm p l e (rmD 2) s m args below meth c D ct A 6 embI 110 [(0, .ref (A 27)), (1, .int a1), (2, .int a2), (3, .int v_5)] [] s_6 (k_7 s_6)) : ∀ (n : Nat) (x4_27 : Int32) (s_28 : Sg), Wm p l e (rmD 2) s m args below meth c D ct A 6 embI 36 [(0, .ref (A 27)), (1, .int a1), (2, .int a2), (3, .int v_5), (4, .int x4_27)] [] s_28 (lo2 (fX10_balanced_36_b v_5 k_7) n x4_27 s_28) := by
  intro n
  induction n with
  | zero => intro x4_27 s_28; exact m_none
  | succ n hrec36 =>
    intro x4_27 s_28
    refine (show Wm p l e (rmD 2) s m args below meth c D ct A 6 embI 36 [(0, .ref (A 27)), (1, .int a1), (2, .int a2), (3, .int v_5), (4, .int x4_27)] [] s_28 (fX10_balanced_36_b v_5 k_7 (lo2 (fX10_balanced_36_b v_5 k_7) n) x4_27 s_28) from ?_)
    generalize lo2 (fX10_balanced_36_b v_5 k_7) n = rec36 at hrec36 ⊢
    unfold fX10_balanced_36_b
    refine m_iload C dX10_balanced_36 rfl ?_
    refine m_iload_n C dX10_balanced_38 rfl ?_
    refine m_icmp_gt (tgt := 110) C dX10_balanced_39 rfl ?_ ?_
    · refine m_loc (L2 := [(0, .ref (A 27)), (1, .int a1), (2, .int a2), (3, .int v_5)]) [0, 1, 2, 3] rfl ?_
      exact hk_7 s_28
    · refine m_aload_n C dX10_balanced_42 rfl ?_
      refine m_get (v := .ref (A 44)) C fl_X10_67_9 rfl (by decide) rfl dX10_balanced_43 ?_
      refine m_iload C dX10_balanced_46 rfl ?_
      refine m_iconst C dX10_balanced_48 ci_0 ?_
      refine m_chk (fun h_29 => ?_)
      refine m_iast C rfl h_29 dX10_balanced_49 (fun s_30 => ?_)
      refine m_iconst C dX10_balanced_50 ci_0 ?_
      refine m_istore (L2 := [(5, .int 0), (0, .ref (A 27)), (1, .int a1), (2, .int a2), (3, .int v_5), (4, .int x4_27)]) C dX10_balanced_51 (by decide) rfl ?_
      refine m_jn (P := fun (k_32 : Sg → Option (Int32 × Sg)) => ∀ (s_31 : Sg), Wm p l e (rmD 2) s m args below meth c D ct A 6 embI 104 [(0, .ref (A 27)), (1, .int a1), (2, .int a2), (3, .int v_5), (4, .int x4_27)] [] s_31 (k_32 s_31)) ?_ (fun k_32 hk_32 => ?_)
      · intro s_31
        refine m_iincb (L2 := fun v_33 => [(4, .int v_33), (0, .ref (A 27)), (1, .int a1), (2, .int a2), (3, .int v_5)]) (q := 4) C dX10_balanced_104 rfl ci_1 (by decide) (fun _ => rfl) (fun v_33 => ?_)
        refine m_goto (tgt := 36) C dX10_balanced_107 rfl ?_
        refine m_loc (L2 := [(0, .ref (A 27)), (1, .int a1), (2, .int a2), (3, .int v_5), (4, .int v_33)]) [1, 2, 3, 4, 0] rfl ?_
        exact hrec36 v_33 s_31
      refine m_loc (L2 := [(0, .ref (A 27)), (1, .int a1), (2, .int a2), (3, .int v_5), (4, .int x4_27), (5, .int 0)]) [1, 2, 3, 4, 5, 0] rfl ?_
      exact wX10_balanced_53 C a1 a2 v_5 x4_27 k_32 hk_32 FU 0 s_30
theorem kX10_balanced (l : Launch) (D : va_G) (ct : Nat → ClassId) (A : Nat → Nat) (a1 : Int32) (a2 : Int32) (s0 : Sg) (o : Int32 × Sg) (ho : fX10_balanced a1 a2 s0 = some o) : Con l yX10_balanced cX10_balanced 6 (some .int) 2 D ct A [.ref (A 27), .int a1, .int a2] s0 (embI o) := by
  refine con_start (by decide +kernel) (Nat.le_of_ble_eq_true rfl) ho (fun p e s m args below meth c C => ?_)
  refine m_loc (L2 := [(0, .ref (A 27)), (1, .int a1), (2, .int a2)]) [0, 1, 2] rfl ?_
  unfold fX10_balanced
  refine m_iload_n C dX10_balanced_0 rfl ?_
  refine m_iconst C dX10_balanced_1 ci_1 ?_
  refine m_sipush C dX10_balanced_2 cs_999 ?_
  refine m_callSZ C ml_X10_83 ⟨Nat.le_of_ble_eq_true rfl, Nat.le_of_ble_eq_true rfl⟩ [.int a1, .int 1, .int 999] [] rfl rfl (Nat.le_of_ble_eq_true rfl) dX10_balanced_5 (fun o ho => kX10_isIn l D ct A a1 1 999 s0 o ho) (fun r_1 s_2 => ?_)
  refine m_if_eq (tgt := 20) C dX10_balanced_8 rfl ?_ ?_
  · refine m_iconst C dX10_balanced_20 ci_m1 ?_
    exact m_iret C dX10_balanced_21
  · refine m_iload_n C dX10_balanced_11 rfl ?_
    refine m_iconst C dX10_balanced_12 ci_0 ?_
    refine m_iconst C dX10_balanced_13 ci_2 ?_
    refine m_callSZ C ml_X10_83 ⟨Nat.le_of_ble_eq_true rfl, Nat.le_of_ble_eq_true rfl⟩ [.int a2, .int 0, .int 2] [] rfl rfl (Nat.le_of_ble_eq_true rfl) dX10_balanced_14 (fun o ho => kX10_isIn l D ct A a2 0 2 s_2 o ho) (fun r_3 s_4 => ?_)
    refine m_if_ne (tgt := 22) C dX10_balanced_17 rfl ?_ ?_
    · refine m_iconst C dX10_balanced_22 ci_1 ?_
      refine m_aload_n C dX10_balanced_23 rfl ?_
      refine m_get (v := .ref (A 28)) C fl_X10_7_9 rfl (by decide) rfl dX10_balanced_24 ?_
      refine m_iconst C dX10_balanced_27 ci_0 ?_
      refine m_iald C rfl (by decide +kernel) dX10_balanced_28 ?_
      refine m_ishl C dX10_balanced_29 ?_
      refine m_iconst C dX10_balanced_30 ci_1 ?_
      refine m_isub C dX10_balanced_31 ?_
      refine m_let (fun v_5 => ?_)
      refine m_istore_n (L2 := [(3, .int v_5), (0, .ref (A 27)), (1, .int a1), (2, .int a2)]) C dX10_balanced_32 rfl (by decide) rfl ?_
      refine m_iconst C dX10_balanced_33 ci_0 ?_
      refine m_istore (L2 := [(4, .int 0), (3, .int v_5), (0, .ref (A 27)), (1, .int a1), (2, .int a2)]) C dX10_balanced_34 (by decide) rfl ?_
      refine m_jn (P := fun (k_7 : Sg → Option (Int32 × Sg)) => ∀ (s_6 : Sg), Wm p l e (rmD 2) s m args below meth c D ct A 6 embI 110 [(0, .ref (A 27)), (1, .int a1), (2, .int a2), (3, .int v_5)] [] s_6 (k_7 s_6)) ?_ (fun k_7 hk_7 => ?_)
      · intro s_6
        refine m_aload_n C dX10_balanced_110 rfl ?_
        refine m_get (v := .ref (A 43)) C fl_X10_64_9 rfl (by decide) rfl dX10_balanced_111 ?_
        refine m_iconst C dX10_balanced_114 ci_0 ?_
        refine m_iconst C dX10_balanced_115 ci_m1 ?_
        refine m_iast C rfl (by decide +kernel) dX10_balanced_116 (fun s_8 => ?_)
        refine m_iconst C dX10_balanced_117 ci_1 ?_
        refine m_istore (L2 := [(4, .int 1), (0, .ref (A 27)), (1, .int a1), (2, .int a2), (3, .int v_5)]) C dX10_balanced_118 (by decide) rfl ?_
        refine m_jn (P := fun (k_10 : Sg → Option (Int32 × Sg)) => ∀ (s_9 : Sg), Wm p l e (rmD 2) s m args below meth c D ct A 6 embI 208 [(0, .ref (A 27)), (2, .int a2)] [] s_9 (k_10 s_9)) ?_ (fun k_10 hk_10 => ?_)
        · intro s_9
          refine m_aload_n C dX10_balanced_208 rfl ?_
          refine m_get (v := .ref (A 43)) C fl_X10_64_9 rfl (by decide) rfl dX10_balanced_209 ?_
          refine m_iconst C dX10_balanced_212 ci_0 ?_
          refine m_iald C rfl (by decide +kernel) dX10_balanced_213 ?_
          refine m_if_ge (tgt := 221) C dX10_balanced_214 rfl ?_ ?_
          · refine m_aload_n C dX10_balanced_221 rfl ?_
            refine m_get (v := .ref (A 43)) C fl_X10_64_9 rfl (by decide) rfl dX10_balanced_222 ?_
            refine m_iload_n C dX10_balanced_225 rfl ?_
            refine m_chk (fun h_11 => ?_)
            refine m_iald C rfl h_11 dX10_balanced_226 ?_
            exact m_iret C dX10_balanced_227
          · refine m_iconst C dX10_balanced_217 ci_m1 ?_
            refine m_goto (tgt := 227) C dX10_balanced_218 rfl ?_
            exact m_iret C dX10_balanced_227
        refine m_loc (L2 := [(0, .ref (A 27)), (1, .int a1), (2, .int a2), (3, .int v_5), (4, .int 1)]) [1, 2, 3, 4, 0] rfl ?_
        exact wX10_balanced_120 C a1 a2 v_5 k_10 hk_10 FU 1 s_8
      refine m_loc (L2 := [(0, .ref (A 27)), (1, .int a1), (2, .int a2), (3, .int v_5), (4, .int 0)]) [2, 3, 4, 1, 0] rfl ?_
      exact wX10_balanced_36 C a1 a2 v_5 k_7 hk_7 FU 0 s_4
    · refine m_iconst C dX10_balanced_20 ci_m1 ?_
      exact m_iret C dX10_balanced_21
def fX10_makes_5_b (a1 : Int32) (a2 : Int32) (rec5 : Int32 → Int32 → Sg → Option (Int32 × Sg)) (x3_1 : Int32) (x4_2 : Int32) (s_3 : Sg) : Option (Int32 × Sg) :=
  if 1001 ≤ x4_2 then
    some (x3_1, s_3)
  else
    chk (inb 6006 ((1001 * a1) + x4_2)) <|
    bv (fun (y_5 : Bool) => 
      chk (inb 6006 ((1001 * (a1 + 1)) + x4_2)) <|
      bv (si s_3 46 (ix ((1001 * (a1 + 1)) + x4_2)) (vp_nar .boolean (b2i y_5))) fun s_8 =>
      bv (fun (y_9 : Int32) (y_10 : Bool) => 
        bv (y_9 + (b2i y_10)) fun v_12 =>
        bv (x4_2 + 1) fun v_13 =>
        rec5 v_12 v_13 s_8)
      fun k_11 =>
      if (b2i y_5) = 0 then
        k_11 x3_1 false
      else
        k_11 x3_1 true)
    fun k_6 =>
    bv (
      k_6 true)
    fun k_14 =>
    if (gi s_3 46 (ix ((1001 * a1) + x4_2))) = 0 then
      bv (
        bv (
          k_6 false)
        fun k_16 =>
        if 1001 ≤ (x4_2 + a2) then
          k_16
        else
          chk (inb 6006 (((1001 * a1) + x4_2) + a2)) <|
          if (gi s_3 46 (ix (((1001 * a1) + x4_2) + a2))) = 0 then
            k_16
          else
            k_14)
      fun k_15 =>
      if x4_2 < a2 then
        k_15
      else
        chk (inb 6006 (((1001 * a1) + x4_2) - a2)) <|
        if (gi s_3 46 (ix (((1001 * a1) + x4_2) - a2))) = 0 then
          k_15
        else
          k_14
    else
      k_14
def fX10_makes (a1 : Int32) (a2 : Int32) (s0 : Sg) : Option (Int32 × Sg) :=
  lo3 (fX10_makes_5_b a1 a2) FU 0 0 s0
theorem wX10_makes_5 {p : Program} {l : Launch} {e : Env} {s : State} {m : MethodId} {args : Array Value} {below : List Frame} {meth : Method} {c : Code} {D : va_G} {ct : Nat → ClassId} {A : Nat → Nat} (C : Cx p m c cX10_makes 6 s args yX10_makes.cls meth (some .int) D ct A) (a1 : Int32) (a2 : Int32) : ∀ (n : Nat) (x3_1 : Int32) (x4_2 : Int32) (s_3 : Sg), Wm p l e (rmD 0) s m args below meth c D ct A 6 embI 5 [(0, .ref (A 27)), (1, .int a1), (2, .int a2), (3, .int x3_1), (4, .int x4_2)] [] s_3 (lo3 (fX10_makes_5_b a1 a2) n x3_1 x4_2 s_3) := by
  intro n
  induction n with
  | zero => intro x3_1 x4_2 s_3; exact m_none
  | succ n hrec5 =>
    intro x3_1 x4_2 s_3
    refine (show Wm p l e (rmD 0) s m args below meth c D ct A 6 embI 5 [(0, .ref (A 27)), (1, .int a1), (2, .int a2), (3, .int x3_1), (4, .int x4_2)] [] s_3 (fX10_makes_5_b a1 a2 (lo3 (fX10_makes_5_b a1 a2) n) x3_1 x4_2 s_3) from ?_)
    generalize lo3 (fX10_makes_5_b a1 a2) n = rec5 at hrec5 ⊢
    unfold fX10_makes_5_b
    refine m_iload C dX10_makes_5 rfl ?_
    refine m_sipush C dX10_makes_7 cs_1001 ?_
    refine m_icmp_ge (tgt := 124) C dX10_makes_10 rfl ?_ ?_
    · refine m_iload_n C dX10_makes_124 rfl ?_
      exact m_iret C dX10_makes_125
    · refine m_aload_n C dX10_makes_13 rfl ?_
      refine m_get (v := .ref (A 46)) C fl_X10_73_9 rfl (by decide) rfl dX10_makes_14 ?_
      refine m_sipush C dX10_makes_17 cs_1001 ?_
      refine m_iload_n C dX10_makes_20 rfl ?_
      refine m_imul C dX10_makes_21 ?_
      refine m_iload C dX10_makes_22 rfl ?_
      refine m_iadd C dX10_makes_24 ?_
      refine m_chk (fun h_4 => ?_)
      refine m_zald C rfl h_4 dX10_makes_25 ?_
      refine m_jn (P := fun (k_6 : Bool → Option (Int32 × Sg)) => ∀ (y_5 : Bool), Wm p l e (rmD 0) s m args below meth c D ct A 6 embI 86 [(0, .ref (A 27)), (1, .int a1), (2, .int a2), (3, .int x3_1), (4, .int x4_2)] [.int (b2i y_5)] s_3 (k_6 y_5)) ?_ (fun k_6 hk_6 => ?_)
      · intro y_5
        refine m_istore (L2 := [(5, .int (b2i y_5)), (0, .ref (A 27)), (1, .int a1), (2, .int a2), (3, .int x3_1), (4, .int x4_2)]) C dX10_makes_86 (by decide) rfl ?_
        refine m_aload_n C dX10_makes_88 rfl ?_
        refine m_get (v := .ref (A 46)) C fl_X10_73_9 rfl (by decide) rfl dX10_makes_89 ?_
        refine m_sipush C dX10_makes_92 cs_1001 ?_
        refine m_iload_n C dX10_makes_95 rfl ?_
        refine m_iconst C dX10_makes_96 ci_1 ?_
        refine m_iadd C dX10_makes_97 ?_
        refine m_imul C dX10_makes_98 ?_
        refine m_iload C dX10_makes_99 rfl ?_
        refine m_iadd C dX10_makes_101 ?_
        refine m_iload C dX10_makes_102 rfl ?_
        refine m_chk (fun h_7 => ?_)
        refine m_zast C rfl h_7 dX10_makes_104 (fun s_8 => ?_)
        refine m_iload_n C dX10_makes_105 rfl ?_
        refine m_iload C dX10_makes_106 rfl ?_
        refine m_jn (P := fun (k_11 : Int32 → Bool → Option (Int32 × Sg)) => ∀ (y_9 : Int32) (y_10 : Bool), Wm p l e (rmD 0) s m args below meth c D ct A 6 embI 116 [(0, .ref (A 27)), (1, .int a1), (2, .int a2), (4, .int x4_2)] [.int (b2i y_10), .int y_9] s_8 (k_11 y_9 y_10)) ?_ (fun k_11 hk_11 => ?_)
        · intro y_9 y_10
          refine m_iadd C dX10_makes_116 ?_
          refine m_let (fun v_12 => ?_)
          refine m_istore_n (L2 := [(3, .int v_12), (0, .ref (A 27)), (1, .int a1), (2, .int a2), (4, .int x4_2)]) C dX10_makes_117 rfl (by decide) rfl ?_
          refine m_iincb (L2 := fun v_13 => [(4, .int v_13), (3, .int v_12), (0, .ref (A 27)), (1, .int a1), (2, .int a2)]) (q := 4) C dX10_makes_118 rfl ci_1 (by decide) (fun _ => rfl) (fun v_13 => ?_)
          refine m_goto (tgt := 5) C dX10_makes_121 rfl ?_
          refine m_loc (L2 := [(0, .ref (A 27)), (1, .int a1), (2, .int a2), (3, .int v_12), (4, .int v_13)]) [2, 3, 4, 1, 0] rfl ?_
          exact hrec5 v_12 v_13 s_8
        refine m_if_eq (tgt := 115) C dX10_makes_108 rfl ?_ ?_
        · refine m_iconst C dX10_makes_115 ci_0 ?_
          refine m_loc (L2 := [(0, .ref (A 27)), (1, .int a1), (2, .int a2), (4, .int x4_2)]) [1, 2, 3, 5] rfl ?_
          exact hk_11 x3_1 false
        · refine m_iconst C dX10_makes_111 ci_1 ?_
          refine m_goto (tgt := 116) C dX10_makes_112 rfl ?_
          refine m_loc (L2 := [(0, .ref (A 27)), (1, .int a1), (2, .int a2), (4, .int x4_2)]) [1, 2, 3, 5] rfl ?_
          exact hk_11 x3_1 true
      refine m_jn (P := fun (k_14 : Option (Int32 × Sg)) => Wm p l e (rmD 0) s m args below meth c D ct A 6 embI 81 [(0, .ref (A 27)), (1, .int a1), (2, .int a2), (3, .int x3_1), (4, .int x4_2)] [] s_3 (k_14)) ?_ (fun k_14 hk_14 => ?_)
      · refine m_iconst C dX10_makes_81 ci_1 ?_
        refine m_goto (tgt := 86) C dX10_makes_82 rfl ?_
        refine m_loc (L2 := [(0, .ref (A 27)), (1, .int a1), (2, .int a2), (3, .int x3_1), (4, .int x4_2)]) [0, 1, 2, 3, 4] rfl ?_
        exact hk_6 true
      refine m_if_ne (tgt := 81) C dX10_makes_26 rfl ?_ ?_
      · refine m_loc (L2 := [(0, .ref (A 27)), (1, .int a1), (2, .int a2), (3, .int x3_1), (4, .int x4_2)]) [0, 1, 2, 3, 4] rfl ?_
        exact hk_14
      · refine m_iload C dX10_makes_29 rfl ?_
        refine m_iload_n C dX10_makes_31 rfl ?_
        refine m_jn (P := fun (k_15 : Option (Int32 × Sg)) => Wm p l e (rmD 0) s m args below meth c D ct A 6 embI 53 [(0, .ref (A 27)), (1, .int a1), (2, .int a2), (3, .int x3_1), (4, .int x4_2)] [] s_3 (k_15)) ?_ (fun k_15 hk_15 => ?_)
        · refine m_iload C dX10_makes_53 rfl ?_
          refine m_iload_n C dX10_makes_55 rfl ?_
          refine m_iadd C dX10_makes_56 ?_
          refine m_sipush C dX10_makes_57 cs_1001 ?_
          refine m_jn (P := fun (k_16 : Option (Int32 × Sg)) => Wm p l e (rmD 0) s m args below meth c D ct A 6 embI 85 [(0, .ref (A 27)), (1, .int a1), (2, .int a2), (3, .int x3_1), (4, .int x4_2)] [] s_3 (k_16)) ?_ (fun k_16 hk_16 => ?_)
          · refine m_iconst C dX10_makes_85 ci_0 ?_
            refine m_loc (L2 := [(0, .ref (A 27)), (1, .int a1), (2, .int a2), (3, .int x3_1), (4, .int x4_2)]) [0, 1, 2, 3, 4] rfl ?_
            exact hk_6 false
          refine m_icmp_ge (tgt := 85) C dX10_makes_60 rfl ?_ ?_
          · refine m_loc (L2 := [(0, .ref (A 27)), (1, .int a1), (2, .int a2), (3, .int x3_1), (4, .int x4_2)]) [0, 1, 2, 3, 4] rfl ?_
            exact hk_16
          · refine m_aload_n C dX10_makes_63 rfl ?_
            refine m_get (v := .ref (A 46)) C fl_X10_73_9 rfl (by decide) rfl dX10_makes_64 ?_
            refine m_sipush C dX10_makes_67 cs_1001 ?_
            refine m_iload_n C dX10_makes_70 rfl ?_
            refine m_imul C dX10_makes_71 ?_
            refine m_iload C dX10_makes_72 rfl ?_
            refine m_iadd C dX10_makes_74 ?_
            refine m_iload_n C dX10_makes_75 rfl ?_
            refine m_iadd C dX10_makes_76 ?_
            refine m_chk (fun h_17 => ?_)
            refine m_zald C rfl h_17 dX10_makes_77 ?_
            refine m_if_eq (tgt := 85) C dX10_makes_78 rfl ?_ ?_
            · refine m_loc (L2 := [(0, .ref (A 27)), (1, .int a1), (2, .int a2), (3, .int x3_1), (4, .int x4_2)]) [0, 1, 2, 3, 4] rfl ?_
              exact hk_16
            · refine m_loc (L2 := [(0, .ref (A 27)), (1, .int a1), (2, .int a2), (3, .int x3_1), (4, .int x4_2)]) [0, 1, 2, 3, 4] rfl ?_
              exact hk_14
        refine m_icmp_lt (tgt := 53) C dX10_makes_32 rfl ?_ ?_
        · refine m_loc (L2 := [(0, .ref (A 27)), (1, .int a1), (2, .int a2), (3, .int x3_1), (4, .int x4_2)]) [0, 1, 2, 3, 4] rfl ?_
          exact hk_15
        · refine m_aload_n C dX10_makes_35 rfl ?_
          refine m_get (v := .ref (A 46)) C fl_X10_73_9 rfl (by decide) rfl dX10_makes_36 ?_
          refine m_sipush C dX10_makes_39 cs_1001 ?_
          refine m_iload_n C dX10_makes_42 rfl ?_
          refine m_imul C dX10_makes_43 ?_
          refine m_iload C dX10_makes_44 rfl ?_
          refine m_iadd C dX10_makes_46 ?_
          refine m_iload_n C dX10_makes_47 rfl ?_
          refine m_isub C dX10_makes_48 ?_
          refine m_chk (fun h_18 => ?_)
          refine m_zald C rfl h_18 dX10_makes_49 ?_
          refine m_if_ne (tgt := 81) C dX10_makes_50 rfl ?_ ?_
          · refine m_loc (L2 := [(0, .ref (A 27)), (1, .int a1), (2, .int a2), (3, .int x3_1), (4, .int x4_2)]) [0, 1, 2, 3, 4] rfl ?_
            exact hk_14
          · refine m_loc (L2 := [(0, .ref (A 27)), (1, .int a1), (2, .int a2), (3, .int x3_1), (4, .int x4_2)]) [0, 1, 2, 3, 4] rfl ?_
            exact hk_15
theorem kX10_makes (l : Launch) (D : va_G) (ct : Nat → ClassId) (A : Nat → Nat) (a1 : Int32) (a2 : Int32) (s0 : Sg) (o : Int32 × Sg) (ho : fX10_makes a1 a2 s0 = some o) : Con l yX10_makes cX10_makes 6 (some .int) 0 D ct A [.ref (A 27), .int a1, .int a2] s0 (embI o) := by
  refine con_start (by decide +kernel) (Nat.le_of_ble_eq_true rfl) ho (fun p e s m args below meth c C => ?_)
  refine m_loc (L2 := [(0, .ref (A 27)), (1, .int a1), (2, .int a2)]) [0, 1, 2] rfl ?_
  unfold fX10_makes
  refine m_iconst C dX10_makes_0 ci_0 ?_
  refine m_istore_n (L2 := [(3, .int 0), (0, .ref (A 27)), (1, .int a1), (2, .int a2)]) C dX10_makes_1 rfl (by decide) rfl ?_
  refine m_iconst C dX10_makes_2 ci_0 ?_
  refine m_istore (L2 := [(4, .int 0), (3, .int 0), (0, .ref (A 27)), (1, .int a1), (2, .int a2)]) C dX10_makes_3 (by decide) rfl ?_
  refine m_loc (L2 := [(0, .ref (A 27)), (1, .int a1), (2, .int a2), (3, .int 0), (4, .int 0)]) [2, 3, 4, 1, 0] rfl ?_
  exact wX10_makes_5 C a1 a2 FU 0 0 s0
