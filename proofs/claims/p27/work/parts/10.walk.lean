def fJ3_checkIndex_8e157 (a1 : Int32) (a2 : Int32) (s0 : Sg) : Option (Int32 × Sg) :=
  bv (
    none)
  fun k_1 =>
  if a1 < 0 then
    k_1
  else
    if a1 < a2 then
      some (a1, s0)
    else
      k_1
theorem kJ3_checkIndex_8e157 (l : Launch) (D : va_G) (ct : Nat → ClassId) (A : Nat → Nat) (a1 : Int32) (a2 : Int32) (s0 : Sg) (o : Int32 × Sg) (ho : fJ3_checkIndex_8e157 a1 a2 s0 = some o) : Con l yJ3_checkIndex_8e157 cJ3_checkIndex_8e157 3 (some .int) 0 D ct A [.int a1, .int a2, .null] s0 (embI o) := by
  refine con_start (by decide +kernel) (Nat.le_of_ble_eq_true rfl) ho (fun p e s m args below meth c C => ?_)
  refine m_loc (L2 := [(0, .int a1), (1, .int a2), (2, .null)]) [0, 1, 2] rfl ?_
  unfold fJ3_checkIndex_8e157
  refine m_iload_n C dJ3_checkIndex_8e157_0 rfl ?_
  refine m_jn (P := fun (k_1 : Option (Int32 × Sg)) => Wm p l e (rmD 0) s m args below meth c D ct A 3 embI 9 [(0, .int a1), (1, .int a2), (2, .null)] [] s0 (k_1)) ?_ (fun k_1 hk_1 => ?_)
  · exact m_none
  refine m_if_lt (tgt := 9) C dJ3_checkIndex_8e157_1 rfl ?_ ?_
  · refine m_loc (L2 := [(0, .int a1), (1, .int a2), (2, .null)]) [0, 1, 2] rfl ?_
    exact hk_1
  · refine m_iload_n C dJ3_checkIndex_8e157_4 rfl ?_
    refine m_iload_n C dJ3_checkIndex_8e157_5 rfl ?_
    refine m_icmp_lt (tgt := 16) C dJ3_checkIndex_8e157_6 rfl ?_ ?_
    · refine m_iload_n C dJ3_checkIndex_8e157_16 rfl ?_
      exact m_iret C dJ3_checkIndex_8e157_17
    · refine m_loc (L2 := [(0, .int a1), (1, .int a2), (2, .null)]) [0, 1, 2] rfl ?_
      exact hk_1
theorem kJ3_checkIndex_r (l : Launch) (D : va_G) (ct : Nat → ClassId) (A : Nat → Nat) (a1 : Int32) (a2 : Int32) (s0 : Sg) (o : Int32 × Sg) (ho : fJ3_checkIndex_8e157 a1 a2 s0 = some o) : Con l yJ3_checkIndex_8e157 cJ3_checkIndex_8e157 3 (some .int) 0 D ct A [.int a1, .int a2, .ref (A 92)] s0 (embI o) := by
  refine con_start (by decide +kernel) (Nat.le_of_ble_eq_true rfl) ho (fun p e s m args below meth c C => ?_)
  refine m_loc (L2 := [(0, .int a1), (1, .int a2), (2, .ref (A 92))]) [0, 1, 2] rfl ?_
  unfold fJ3_checkIndex_8e157
  refine m_iload_n C dJ3_checkIndex_8e157_0 rfl ?_
  refine m_jn (P := fun (k_1 : Option (Int32 × Sg)) => Wm p l e (rmD 0) s m args below meth c D ct A 3 embI 9 [(0, .int a1), (1, .int a2), (2, .ref (A 92))] [] s0 (k_1)) ?_ (fun k_1 hk_1 => ?_)
  · exact m_none
  refine m_if_lt (tgt := 9) C dJ3_checkIndex_8e157_1 rfl ?_ ?_
  · refine m_loc (L2 := [(0, .int a1), (1, .int a2), (2, .ref (A 92))]) [0, 1, 2] rfl ?_
    exact hk_1
  · refine m_iload_n C dJ3_checkIndex_8e157_4 rfl ?_
    refine m_iload_n C dJ3_checkIndex_8e157_5 rfl ?_
    refine m_icmp_lt (tgt := 16) C dJ3_checkIndex_8e157_6 rfl ?_ ?_
    · refine m_iload_n C dJ3_checkIndex_8e157_16 rfl ?_
      exact m_iret C dJ3_checkIndex_8e157_17
    · refine m_loc (L2 := [(0, .int a1), (1, .int a2), (2, .ref (A 92))]) [0, 1, 2] rfl ?_
      exact hk_1
def fJ0_checkIndex_df160 (a1 : Int32) (a2 : Int32) (s0 : Sg) : Option (Sg) :=
  bnd (fJ3_checkIndex_8e157 a1 a2 s0) fun r1 s1 =>
  some s1
theorem kJ0_checkIndex_df160 (l : Launch) (D : va_G) (ct : Nat → ClassId) (A : Nat → Nat) (a1 : Int32) (a2 : Int32) (s0 : Sg) (o : Sg) (ho : fJ0_checkIndex_df160 a1 a2 s0 = some o) : Con l yJ0_checkIndex_df160 cJ0_checkIndex_df160 2 none 1 D ct A [.int a1, .int a2] s0 (embV o) := by
  refine con_start (by decide +kernel) (Nat.le_of_ble_eq_true rfl) ho (fun p e s m args below meth c C => ?_)
  refine m_loc (L2 := [(0, .int a1), (1, .int a2)]) [0, 1] rfl ?_
  unfold fJ0_checkIndex_df160
  refine m_iload_n C dJ0_checkIndex_df160_0 rfl ?_
  refine m_iload_n C dJ0_checkIndex_df160_1 rfl ?_
  refine m_getsQ C wd_481 dJ0_checkIndex_df160_2 ?_ ?_
  · refine m_callSI C ml_J0_1059 ⟨Nat.le_of_ble_eq_true rfl, Nat.le_of_ble_eq_true rfl⟩ [.int a1, .int a2, .null] [] rfl rfl (Nat.le_of_ble_eq_true rfl) dJ0_checkIndex_df160_5 (fun o ho => kJ3_checkIndex_8e157 l D ct A a1 a2 s0 o ho) (fun r1 s1 => ?_)
    refine m_pop C dJ0_checkIndex_df160_8 rfl ?_
    exact m_vret C dJ0_checkIndex_df160_9
  · refine m_callSI C ml_J0_1059 ⟨Nat.le_of_ble_eq_true rfl, Nat.le_of_ble_eq_true rfl⟩ [.int a1, .int a2, .ref (A 92)] [] rfl rfl (Nat.le_of_ble_eq_true rfl) dJ0_checkIndex_df160_5 (fun o ho => kJ3_checkIndex_r l D ct A a1 a2 s0 o ho) (fun r1 s1 => ?_)
    refine m_pop C dJ0_checkIndex_df160_8 rfl ?_
    exact m_vret C dJ0_checkIndex_df160_9

def fX0_addSums_12_b (x2_1 : Int32) (k_4 : Sg → Option (Sg)) (rec12 : Int32 → Sg → Option (Sg)) (x3_6 : Int32) (s_7 : Sg) : Option (Sg) :=
  if (1 <<< (x2_1 &&& 31)) ≤ x3_6 then
    k_4 s_7
  else
    chk (inb 4096 x3_6) <|
    chk (inb 12 x2_1) <|
    chk (inb 4096 (x3_6 + (1 <<< (x2_1 &&& 31)))) <|
    bv (si s_7 26 (ix (x3_6 + (1 <<< (x2_1 &&& 31)))) ((gi s_7 26 (ix x3_6)) + (gi s_7 9 (ix x2_1)))) fun s_11 =>
    bv (x3_6 + 1) fun v_12 =>
    rec12 v_12 s_11
def fX0_addSums_2_b (rec2 : Int32 → Sg → Option (Sg)) (x2_1 : Int32) (s_2 : Sg) : Option (Sg) :=
  if (gi s_2 1 6) ≤ x2_1 then
    some s_2
  else
    bv (fun (s_3 : Sg) => 
      bv (x2_1 + 1) fun v_5 =>
      rec2 v_5 s_3)
    fun k_4 =>
    lo2 (fX0_addSums_12_b x2_1 k_4) FU 0 s_2
def fX0_addSums (s0 : Sg) : Option (Sg) :=
  lo2 (fX0_addSums_2_b) FU 0 s0
theorem wX0_addSums_12 {p : Program} {l : Launch} {e : Env} {s : State} {m : MethodId} {args : Array Value} {below : List Frame} {meth : Method} {c : Code} {D : va_G} {ct : Nat → ClassId} {A : Nat → Nat} (C : Cx p m c cX0_addSums 4 s args yX0_addSums.cls meth none D ct A) (x2_1 : Int32) (k_4 : Sg → Option (Sg)) (hk_4 : ∀ (s_3 : Sg), Wm p l e (rmD 0) s m args below meth c D ct A 4 embV 48 [(0, .ref (A 8)), (1, .ref (A 1)), (2, .int x2_1)] [] s_3 (k_4 s_3)) : ∀ (n : Nat) (x3_6 : Int32) (s_7 : Sg), Wm p l e (rmD 0) s m args below meth c D ct A 4 embV 12 [(0, .ref (A 8)), (1, .ref (A 1)), (2, .int x2_1), (3, .int x3_6)] [] s_7 (lo2 (fX0_addSums_12_b x2_1 k_4) n x3_6 s_7) := by
  intro n
  induction n with
  | zero => intro x3_6 s_7; exact m_none
  | succ n hrec12 =>
    intro x3_6 s_7
    refine (show Wm p l e (rmD 0) s m args below meth c D ct A 4 embV 12 [(0, .ref (A 8)), (1, .ref (A 1)), (2, .int x2_1), (3, .int x3_6)] [] s_7 (fX0_addSums_12_b x2_1 k_4 (lo2 (fX0_addSums_12_b x2_1 k_4) n) x3_6 s_7) from ?_)
    generalize lo2 (fX0_addSums_12_b x2_1 k_4) n = rec12 at hrec12 ⊢
    unfold fX0_addSums_12_b
    refine m_iload_n C dX0_addSums_12 rfl ?_
    refine m_iconst C dX0_addSums_13 ci_1 ?_
    refine m_iload_n C dX0_addSums_14 rfl ?_
    refine m_ishl C dX0_addSums_15 ?_
    refine m_icmp_ge (tgt := 48) C dX0_addSums_16 rfl ?_ ?_
    · refine m_loc (L2 := [(0, .ref (A 8)), (1, .ref (A 1)), (2, .int x2_1)]) [0, 1, 2] rfl ?_
      exact hk_4 s_7
    · refine m_aload_n C dX0_addSums_19 rfl ?_
      refine m_get (v := .ref (A 26)) C fl_X0_9_0 rfl (by decide) rfl dX0_addSums_20 ?_
      refine m_iload_n C dX0_addSums_23 rfl ?_
      refine m_iconst C dX0_addSums_24 ci_1 ?_
      refine m_iload_n C dX0_addSums_25 rfl ?_
      refine m_ishl C dX0_addSums_26 ?_
      refine m_iadd C dX0_addSums_27 ?_
      refine m_aload_n C dX0_addSums_28 rfl ?_
      refine m_get (v := .ref (A 26)) C fl_X0_9_0 rfl (by decide) rfl dX0_addSums_29 ?_
      refine m_iload_n C dX0_addSums_32 rfl ?_
      refine m_chk (fun h_8 => ?_)
      refine m_iald C rfl h_8 dX0_addSums_33 ?_
      refine m_aload_n C dX0_addSums_34 rfl ?_
      refine m_get (v := .ref (A 9)) C fl_X0_41_6 rfl (by decide) rfl dX0_addSums_35 ?_
      refine m_iload_n C dX0_addSums_38 rfl ?_
      refine m_chk (fun h_9 => ?_)
      refine m_iald C rfl h_9 dX0_addSums_39 ?_
      refine m_iadd C dX0_addSums_40 ?_
      refine m_chk (fun h_10 => ?_)
      refine m_iast C rfl h_10 dX0_addSums_41 (fun s_11 => ?_)
      refine m_iincb (L2 := fun v_12 => [(3, .int v_12), (0, .ref (A 8)), (1, .ref (A 1)), (2, .int x2_1)]) (q := 3) C dX0_addSums_42 rfl ci_1 (by decide) (fun _ => rfl) (fun v_12 => ?_)
      refine m_goto (tgt := 12) C dX0_addSums_45 rfl ?_
      refine m_loc (L2 := [(0, .ref (A 8)), (1, .ref (A 1)), (2, .int x2_1), (3, .int v_12)]) [1, 2, 3, 0] rfl ?_
      exact hrec12 v_12 s_11
theorem wX0_addSums_2 {p : Program} {l : Launch} {e : Env} {s : State} {m : MethodId} {args : Array Value} {below : List Frame} {meth : Method} {c : Code} {D : va_G} {ct : Nat → ClassId} {A : Nat → Nat} (C : Cx p m c cX0_addSums 4 s args yX0_addSums.cls meth none D ct A) : ∀ (n : Nat) (x2_1 : Int32) (s_2 : Sg), Wm p l e (rmD 0) s m args below meth c D ct A 4 embV 2 [(0, .ref (A 8)), (1, .ref (A 1)), (2, .int x2_1)] [] s_2 (lo2 (fX0_addSums_2_b) n x2_1 s_2) := by
  intro n
  induction n with
  | zero => intro x2_1 s_2; exact m_none
  | succ n hrec2 =>
    intro x2_1 s_2
    refine (show Wm p l e (rmD 0) s m args below meth c D ct A 4 embV 2 [(0, .ref (A 8)), (1, .ref (A 1)), (2, .int x2_1)] [] s_2 (fX0_addSums_2_b (lo2 (fX0_addSums_2_b) n) x2_1 s_2) from ?_)
    generalize lo2 (fX0_addSums_2_b) n = rec2 at hrec2 ⊢
    unfold fX0_addSums_2_b
    refine m_iload_n C dX0_addSums_2 rfl ?_
    refine m_aload_n C dX0_addSums_3 rfl ?_
    refine m_get (v := .int (gi s_2 1 6)) C fl_X0_19_6 rfl (by decide) rfl dX0_addSums_4 ?_
    refine m_icmp_ge (tgt := 54) C dX0_addSums_7 rfl ?_ ?_
    · exact m_vret C dX0_addSums_54
    · refine m_iconst C dX0_addSums_10 ci_0 ?_
      refine m_istore_n (L2 := [(3, .int 0), (0, .ref (A 8)), (1, .ref (A 1)), (2, .int x2_1)]) C dX0_addSums_11 rfl (by decide) rfl ?_
      refine m_jn (P := fun (k_4 : Sg → Option (Sg)) => ∀ (s_3 : Sg), Wm p l e (rmD 0) s m args below meth c D ct A 4 embV 48 [(0, .ref (A 8)), (1, .ref (A 1)), (2, .int x2_1)] [] s_3 (k_4 s_3)) ?_ (fun k_4 hk_4 => ?_)
      · intro s_3
        refine m_iincb (L2 := fun v_5 => [(2, .int v_5), (0, .ref (A 8)), (1, .ref (A 1))]) (q := 2) C dX0_addSums_48 rfl ci_1 (by decide) (fun _ => rfl) (fun v_5 => ?_)
        refine m_goto (tgt := 2) C dX0_addSums_51 rfl ?_
        refine m_loc (L2 := [(0, .ref (A 8)), (1, .ref (A 1)), (2, .int v_5)]) [1, 2, 0] rfl ?_
        exact hrec2 v_5 s_3
      refine m_loc (L2 := [(0, .ref (A 8)), (1, .ref (A 1)), (2, .int x2_1), (3, .int 0)]) [1, 2, 3, 0] rfl ?_
      exact wX0_addSums_12 C x2_1 k_4 hk_4 FU 0 s_2
theorem kX0_addSums (l : Launch) (D : va_G) (ct : Nat → ClassId) (A : Nat → Nat) (s0 : Sg) (o : Sg) (ho : fX0_addSums s0 = some o) : Con l yX0_addSums cX0_addSums 4 none 0 D ct A [.ref (A 8), .ref (A 1)] s0 (embV o) := by
  refine con_start (by decide +kernel) (Nat.le_of_ble_eq_true rfl) ho (fun p e s m args below meth c C => ?_)
  refine m_loc (L2 := [(0, .ref (A 8)), (1, .ref (A 1))]) [0, 1] rfl ?_
  unfold fX0_addSums
  refine m_iconst C dX0_addSums_0 ci_0 ?_
  refine m_istore_n (L2 := [(2, .int 0), (0, .ref (A 8)), (1, .ref (A 1))]) C dX0_addSums_1 rfl (by decide) rfl ?_
  refine m_loc (L2 := [(0, .ref (A 8)), (1, .ref (A 1)), (2, .int 0)]) [1, 2, 0] rfl ?_
  exact wX0_addSums_2 C FU 0 s0
def fX0_partBeside_27_b (a1 : Int32) (s0 : Sg) (v_2 : Int32) (rec27 : Int32 → Int32 → Option (Int32 × Sg)) (x4_3 : Int32) (x5_4 : Int32) : Option (Int32 × Sg) :=
  if 4096 ≤ x5_4 then
    some ((-1), s0)
  else
    chk (inb 4096 x4_3) <|
    if ((gi s0 26 (ix x4_3)) * 2) = v_2 then
      some (x4_3, s0)
    else
      bv ((x4_3 - a1) &&& a1) fun v_6 =>
      if v_6 = 0 then
        some ((-1), s0)
      else
        bv (x5_4 + 1) fun v_7 =>
        rec27 v_6 v_7
def fX0_partBeside (a1 : Int32) (a2 : Int32) (s0 : Sg) : Option (Int32 × Sg) :=
  chk (inb 4096 a1) <|
  bv ((gi s0 26 (ix a1)) - a2) fun v_2 =>
  if v_2 < 0 then
    some ((-1), s0)
  else
    if (v_2 - v_2 / 2 * 2) = 0 then
      lo2 (fX0_partBeside_27_b a1 s0 v_2) FU 0 0
    else
      some ((-1), s0)
theorem wX0_partBeside_27 {p : Program} {l : Launch} {e : Env} {s : State} {m : MethodId} {args : Array Value} {below : List Frame} {meth : Method} {c : Code} {D : va_G} {ct : Nat → ClassId} {A : Nat → Nat} (C : Cx p m c cX0_partBeside 6 s args yX0_partBeside.cls meth (some .int) D ct A) (a1 : Int32) (s0 : Sg) (v_2 : Int32) : ∀ (n : Nat) (x4_3 : Int32) (x5_4 : Int32), Wm p l e (rmD 0) s m args below meth c D ct A 6 embI 27 [(0, .ref (A 8)), (1, .int a1), (3, .int v_2), (4, .int x4_3), (5, .int x5_4)] [] s0 (lo2 (fX0_partBeside_27_b a1 s0 v_2) n x4_3 x5_4) := by
  intro n
  induction n with
  | zero => intro x4_3 x5_4; exact m_none
  | succ n hrec27 =>
    intro x4_3 x5_4
    refine (show Wm p l e (rmD 0) s m args below meth c D ct A 6 embI 27 [(0, .ref (A 8)), (1, .int a1), (3, .int v_2), (4, .int x4_3), (5, .int x5_4)] [] s0 (fX0_partBeside_27_b a1 s0 v_2 (lo2 (fX0_partBeside_27_b a1 s0 v_2) n) x4_3 x5_4) from ?_)
    generalize lo2 (fX0_partBeside_27_b a1 s0 v_2) n = rec27 at hrec27 ⊢
    unfold fX0_partBeside_27_b
    refine m_iload C dX0_partBeside_27 rfl ?_
    refine m_sipush C dX0_partBeside_29 cs_4096 ?_
    refine m_icmp_ge (tgt := 72) C dX0_partBeside_32 rfl ?_ ?_
    · refine m_iconst C dX0_partBeside_72 ci_m1 ?_
      exact m_iret C dX0_partBeside_73
    · refine m_aload_n C dX0_partBeside_35 rfl ?_
      refine m_get (v := .ref (A 26)) C fl_X0_9_0 rfl (by decide) rfl dX0_partBeside_36 ?_
      refine m_iload C dX0_partBeside_39 rfl ?_
      refine m_chk (fun h_5 => ?_)
      refine m_iald C rfl h_5 dX0_partBeside_41 ?_
      refine m_iconst C dX0_partBeside_42 ci_2 ?_
      refine m_imul C dX0_partBeside_43 ?_
      refine m_iload_n C dX0_partBeside_44 rfl ?_
      refine m_icmp_ne (tgt := 51) C dX0_partBeside_45 rfl ?_ ?_
      · refine m_iload C dX0_partBeside_51 rfl ?_
        refine m_iload_n C dX0_partBeside_53 rfl ?_
        refine m_isub C dX0_partBeside_54 ?_
        refine m_iload_n C dX0_partBeside_55 rfl ?_
        refine m_iand C dX0_partBeside_56 ?_
        refine m_let (fun v_6 => ?_)
        refine m_istore (L2 := [(4, .int v_6), (0, .ref (A 8)), (1, .int a1), (3, .int v_2), (5, .int x5_4)]) C dX0_partBeside_57 (by decide) rfl ?_
        refine m_iload C dX0_partBeside_59 rfl ?_
        refine m_if_ne (tgt := 66) C dX0_partBeside_61 rfl ?_ ?_
        · refine m_iincb (L2 := fun v_7 => [(5, .int v_7), (4, .int v_6), (0, .ref (A 8)), (1, .int a1), (3, .int v_2)]) (q := 4) C dX0_partBeside_66 rfl ci_1 (by decide) (fun _ => rfl) (fun v_7 => ?_)
          refine m_goto (tgt := 27) C dX0_partBeside_69 rfl ?_
          refine m_loc (L2 := [(0, .ref (A 8)), (1, .int a1), (3, .int v_2), (4, .int v_6), (5, .int v_7)]) [2, 3, 4, 1, 0] rfl ?_
          exact hrec27 v_6 v_7
        · refine m_iconst C dX0_partBeside_64 ci_m1 ?_
          exact m_iret C dX0_partBeside_65
      · refine m_iload C dX0_partBeside_48 rfl ?_
        exact m_iret C dX0_partBeside_50
theorem kX0_partBeside (l : Launch) (D : va_G) (ct : Nat → ClassId) (A : Nat → Nat) (a1 : Int32) (a2 : Int32) (s0 : Sg) (o : Int32 × Sg) (ho : fX0_partBeside a1 a2 s0 = some o) : Con l yX0_partBeside cX0_partBeside 6 (some .int) 0 D ct A [.ref (A 8), .int a1, .int a2] s0 (embI o) := by
  refine con_start (by decide +kernel) (Nat.le_of_ble_eq_true rfl) ho (fun p e s m args below meth c C => ?_)
  refine m_loc (L2 := [(0, .ref (A 8)), (1, .int a1), (2, .int a2)]) [0, 1, 2] rfl ?_
  unfold fX0_partBeside
  refine m_aload_n C dX0_partBeside_0 rfl ?_
  refine m_get (v := .ref (A 26)) C fl_X0_9_0 rfl (by decide) rfl dX0_partBeside_1 ?_
  refine m_iload_n C dX0_partBeside_4 rfl ?_
  refine m_chk (fun h_1 => ?_)
  refine m_iald C rfl h_1 dX0_partBeside_5 ?_
  refine m_iload_n C dX0_partBeside_6 rfl ?_
  refine m_isub C dX0_partBeside_7 ?_
  refine m_let (fun v_2 => ?_)
  refine m_istore_n (L2 := [(3, .int v_2), (0, .ref (A 8)), (1, .int a1), (2, .int a2)]) C dX0_partBeside_8 rfl (by decide) rfl ?_
  refine m_iload_n C dX0_partBeside_9 rfl ?_
  refine m_if_lt (tgt := 19) C dX0_partBeside_10 rfl ?_ ?_
  · refine m_iconst C dX0_partBeside_19 ci_m1 ?_
    exact m_iret C dX0_partBeside_20
  · refine m_iload_n C dX0_partBeside_13 rfl ?_
    refine m_iconst C dX0_partBeside_14 ci_2 ?_
    refine m_irem C dX0_partBeside_15 (by decide +kernel) ?_
    refine m_if_eq (tgt := 21) C dX0_partBeside_16 rfl ?_ ?_
    · refine m_iconst C dX0_partBeside_21 ci_0 ?_
      refine m_istore (L2 := [(4, .int 0), (3, .int v_2), (0, .ref (A 8)), (1, .int a1), (2, .int a2)]) C dX0_partBeside_22 (by decide) rfl ?_
      refine m_iconst C dX0_partBeside_24 ci_0 ?_
      refine m_istore (L2 := [(5, .int 0), (4, .int 0), (3, .int v_2), (0, .ref (A 8)), (1, .int a1), (2, .int a2)]) C dX0_partBeside_25 (by decide) rfl ?_
      refine m_loc (L2 := [(0, .ref (A 8)), (1, .int a1), (3, .int v_2), (4, .int 0), (5, .int 0)]) [3, 4, 2, 1, 0] rfl ?_
      exact wX0_partBeside_27 C a1 s0 v_2 FU 0 0
    · refine m_iconst C dX0_partBeside_19 ci_m1 ?_
      exact m_iret C dX0_partBeside_20
def fX1_addToParts_3_b (a1 : Int32) (a2 : Int32) (a3 : Int32) (rec3 : Int32 → Sg → Option (Sg)) (x4_1 : Int32) (s_2 : Sg) : Option (Sg) :=
  if a1 ≤ x4_1 then
    some s_2
  else
    chk (inb 1024 x4_1) <|
    bv (fun (y_4 : Int32) (y_5 : Int32) (y_6 : Int32) => 
      chk (inb 1024 y_4) <|
      bv (si s_2 22 (ix y_4) (y_5 + y_6)) fun s_9 =>
      chk (inb 1024 x4_1) <|
      bv (fun (y_11 : Int32) (y_12 : Int32) (y_13 : Int32) => 
        chk (inb 1024 y_11) <|
        bv (si s_9 23 (ix y_11) (y_12 + y_13)) fun s_16 =>
        bv (x4_1 + 1) fun v_17 =>
        rec3 v_17 s_16)
      fun k_14 =>
      if a2 = 1 then
        k_14 (a1 + x4_1) (gi s_9 23 (ix x4_1)) a3
      else
        k_14 (a1 + x4_1) (gi s_9 23 (ix x4_1)) 0)
    fun k_7 =>
    if a2 = 0 then
      k_7 (a1 + x4_1) (gi s_2 22 (ix x4_1)) a3
    else
      k_7 (a1 + x4_1) (gi s_2 22 (ix x4_1)) 0
def fX1_addToParts (a1 : Int32) (a2 : Int32) (a3 : Int32) (s0 : Sg) : Option (Sg) :=
  lo2 (fX1_addToParts_3_b a1 a2 a3) FU 0 s0
theorem wX1_addToParts_3 {p : Program} {l : Launch} {e : Env} {s : State} {m : MethodId} {args : Array Value} {below : List Frame} {meth : Method} {c : Code} {D : va_G} {ct : Nat → ClassId} {A : Nat → Nat} (C : Cx p m c cX1_addToParts 5 s args yX1_addToParts.cls meth none D ct A) (a1 : Int32) (a2 : Int32) (a3 : Int32) : ∀ (n : Nat) (x4_1 : Int32) (s_2 : Sg), Wm p l e (rmD 0) s m args below meth c D ct A 5 embV 3 [(0, .ref (A 7)), (1, .int a1), (2, .int a2), (3, .int a3), (4, .int x4_1)] [] s_2 (lo2 (fX1_addToParts_3_b a1 a2 a3) n x4_1 s_2) := by
  intro n
  induction n with
  | zero => intro x4_1 s_2; exact m_none
  | succ n hrec3 =>
    intro x4_1 s_2
    refine (show Wm p l e (rmD 0) s m args below meth c D ct A 5 embV 3 [(0, .ref (A 7)), (1, .int a1), (2, .int a2), (3, .int a3), (4, .int x4_1)] [] s_2 (fX1_addToParts_3_b a1 a2 a3 (lo2 (fX1_addToParts_3_b a1 a2 a3) n) x4_1 s_2) from ?_)
    generalize lo2 (fX1_addToParts_3_b a1 a2 a3) n = rec3 at hrec3 ⊢
    unfold fX1_addToParts_3_b
    refine m_iload C dX1_addToParts_3 rfl ?_
    refine m_iload_n C dX1_addToParts_5 rfl ?_
    refine m_icmp_ge (tgt := 68) C dX1_addToParts_6 rfl ?_ ?_
    · exact m_vret C dX1_addToParts_68
    · refine m_aload_n C dX1_addToParts_9 rfl ?_
      refine m_get (v := .ref (A 22)) C fl_X1_15_1 rfl (by decide) rfl dX1_addToParts_10 ?_
      refine m_iload_n C dX1_addToParts_13 rfl ?_
      refine m_iload C dX1_addToParts_14 rfl ?_
      refine m_iadd C dX1_addToParts_16 ?_
      refine m_aload_n C dX1_addToParts_17 rfl ?_
      refine m_get (v := .ref (A 22)) C fl_X1_15_1 rfl (by decide) rfl dX1_addToParts_18 ?_
      refine m_iload C dX1_addToParts_21 rfl ?_
      refine m_chk (fun h_3 => ?_)
      refine m_iald C rfl h_3 dX1_addToParts_23 ?_
      refine m_iload_n C dX1_addToParts_24 rfl ?_
      refine m_jn (P := fun (k_7 : Int32 → Int32 → Int32 → Option (Sg)) => ∀ (y_4 : Int32) (y_5 : Int32) (y_6 : Int32), Wm p l e (rmD 0) s m args below meth c D ct A 5 embV 33 [(0, .ref (A 7)), (1, .int a1), (2, .int a2), (3, .int a3), (4, .int x4_1)] [.int y_6, .int y_5, .int y_4, .ref (A 22)] s_2 (k_7 y_4 y_5 y_6)) ?_ (fun k_7 hk_7 => ?_)
      · intro y_4 y_5 y_6
        refine m_iadd C dX1_addToParts_33 ?_
        refine m_chk (fun h_8 => ?_)
        refine m_iast C rfl h_8 dX1_addToParts_34 (fun s_9 => ?_)
        refine m_aload_n C dX1_addToParts_35 rfl ?_
        refine m_get (v := .ref (A 23)) C fl_X1_18_1 rfl (by decide) rfl dX1_addToParts_36 ?_
        refine m_iload_n C dX1_addToParts_39 rfl ?_
        refine m_iload C dX1_addToParts_40 rfl ?_
        refine m_iadd C dX1_addToParts_42 ?_
        refine m_aload_n C dX1_addToParts_43 rfl ?_
        refine m_get (v := .ref (A 23)) C fl_X1_18_1 rfl (by decide) rfl dX1_addToParts_44 ?_
        refine m_iload C dX1_addToParts_47 rfl ?_
        refine m_chk (fun h_10 => ?_)
        refine m_iald C rfl h_10 dX1_addToParts_49 ?_
        refine m_iload_n C dX1_addToParts_50 rfl ?_
        refine m_iconst C dX1_addToParts_51 ci_1 ?_
        refine m_jn (P := fun (k_14 : Int32 → Int32 → Int32 → Option (Sg)) => ∀ (y_11 : Int32) (y_12 : Int32) (y_13 : Int32), Wm p l e (rmD 0) s m args below meth c D ct A 5 embV 60 [(0, .ref (A 7)), (1, .int a1), (2, .int a2), (3, .int a3), (4, .int x4_1)] [.int y_13, .int y_12, .int y_11, .ref (A 23)] s_9 (k_14 y_11 y_12 y_13)) ?_ (fun k_14 hk_14 => ?_)
        · intro y_11 y_12 y_13
          refine m_iadd C dX1_addToParts_60 ?_
          refine m_chk (fun h_15 => ?_)
          refine m_iast C rfl h_15 dX1_addToParts_61 (fun s_16 => ?_)
          refine m_iincb (L2 := fun v_17 => [(4, .int v_17), (0, .ref (A 7)), (1, .int a1), (2, .int a2), (3, .int a3)]) (q := 4) C dX1_addToParts_62 rfl ci_1 (by decide) (fun _ => rfl) (fun v_17 => ?_)
          refine m_goto (tgt := 3) C dX1_addToParts_65 rfl ?_
          refine m_loc (L2 := [(0, .ref (A 7)), (1, .int a1), (2, .int a2), (3, .int a3), (4, .int v_17)]) [1, 2, 3, 4, 0] rfl ?_
          exact hrec3 v_17 s_16
        refine m_icmp_ne (tgt := 59) C dX1_addToParts_52 rfl ?_ ?_
        · refine m_iconst C dX1_addToParts_59 ci_0 ?_
          refine m_loc (L2 := [(0, .ref (A 7)), (1, .int a1), (2, .int a2), (3, .int a3), (4, .int x4_1)]) [0, 1, 2, 3, 4] rfl ?_
          exact hk_14 (a1 + x4_1) (gi s_9 23 (ix x4_1)) 0
        · refine m_iload_n C dX1_addToParts_55 rfl ?_
          refine m_goto (tgt := 60) C dX1_addToParts_56 rfl ?_
          refine m_loc (L2 := [(0, .ref (A 7)), (1, .int a1), (2, .int a2), (3, .int a3), (4, .int x4_1)]) [0, 1, 2, 3, 4] rfl ?_
          exact hk_14 (a1 + x4_1) (gi s_9 23 (ix x4_1)) a3
      refine m_if_ne (tgt := 32) C dX1_addToParts_25 rfl ?_ ?_
      · refine m_iconst C dX1_addToParts_32 ci_0 ?_
        refine m_loc (L2 := [(0, .ref (A 7)), (1, .int a1), (2, .int a2), (3, .int a3), (4, .int x4_1)]) [0, 1, 2, 3, 4] rfl ?_
        exact hk_7 (a1 + x4_1) (gi s_2 22 (ix x4_1)) 0
      · refine m_iload_n C dX1_addToParts_28 rfl ?_
        refine m_goto (tgt := 33) C dX1_addToParts_29 rfl ?_
        refine m_loc (L2 := [(0, .ref (A 7)), (1, .int a1), (2, .int a2), (3, .int a3), (4, .int x4_1)]) [0, 1, 2, 3, 4] rfl ?_
        exact hk_7 (a1 + x4_1) (gi s_2 22 (ix x4_1)) a3
theorem kX1_addToParts (l : Launch) (D : va_G) (ct : Nat → ClassId) (A : Nat → Nat) (a1 : Int32) (a2 : Int32) (a3 : Int32) (s0 : Sg) (o : Sg) (ho : fX1_addToParts a1 a2 a3 s0 = some o) : Con l yX1_addToParts cX1_addToParts 5 none 0 D ct A [.ref (A 7), .int a1, .int a2, .int a3] s0 (embV o) := by
  refine con_start (by decide +kernel) (Nat.le_of_ble_eq_true rfl) ho (fun p e s m args below meth c C => ?_)
  refine m_loc (L2 := [(0, .ref (A 7)), (1, .int a1), (2, .int a2), (3, .int a3)]) [0, 1, 2, 3] rfl ?_
  unfold fX1_addToParts
  refine m_iconst C dX1_addToParts_0 ci_0 ?_
  refine m_istore (L2 := [(4, .int 0), (0, .ref (A 7)), (1, .int a1), (2, .int a2), (3, .int a3)]) C dX1_addToParts_1 (by decide) rfl ?_
  refine m_loc (L2 := [(0, .ref (A 7)), (1, .int a1), (2, .int a2), (3, .int a3), (4, .int 0)]) [1, 2, 3, 4, 0] rfl ?_
  exact wX1_addToParts_3 C a1 a2 a3 FU 0 s0
def fX1_count_28_b (x2_6 : Int32) (s_7 : Sg) (k_9 : Int32 → Option (Int32 × Sg)) (rec28 : Int32 → Int32 → Option (Int32 × Sg)) (x3_13 : Int32) (x4_14 : Int32) : Option (Int32 × Sg) :=
  if (gi s_7 7 1) ≤ x4_14 then
    k_9 x3_13
  else
    chk (inb 1024 x2_6) <|
    if (gi s_7 24 (ix x2_6)) = 1000000000 then
      k_9 x3_13
    else
      bv (fun (y_16 : Int32) (y_17 : Int32) => 
        bv (y_16 + y_17) fun v_19 =>
        bv (x4_14 + 1) fun v_20 =>
        rec28 v_19 v_20)
      fun k_18 =>
      if ((x2_6 >>> (x4_14 &&& 31)) &&& 1) = 1 then
        chk (inb 1024 (x2_6 - (1 <<< (x4_14 &&& 31)))) <|
        k_18 x3_13 (gi s_7 25 (ix (x2_6 - (1 <<< (x4_14 &&& 31)))))
      else
        k_18 x3_13 0
def fX1_count_18_b (v_2 : Int32) (k_4 : Sg → Option (Int32 × Sg)) (rec18 : Int32 → Sg → Option (Int32 × Sg)) (x2_6 : Int32) (s_7 : Sg) : Option (Int32 × Sg) :=
  if v_2 < x2_6 then
    k_4 s_7
  else
    bv (fun (x3_8 : Int32) => 
      chk (inb 1024 x2_6) <|
      bv (si s_7 25 (ix x2_6) x3_8) fun s_11 =>
      bv (x2_6 + 1) fun v_12 =>
      rec18 v_12 s_11)
    fun k_9 =>
    lo2 (fX1_count_28_b x2_6 s_7 k_9) FU 0 0
def fX1_count (s0 : Sg) : Option (Int32 × Sg) :=
  bv (si s0 25 (ix 0) 1) fun s_1 =>
  bv ((1 <<< ((gi s_1 7 1) &&& 31)) - 1) fun v_2 =>
  bv (fun (s_3 : Sg) => 
    chk (inb 1024 v_2) <|
    some (gi s_3 25 (ix v_2), s_3))
  fun k_4 =>
  lo2 (fX1_count_18_b v_2 k_4) FU 1 s_1
theorem wX1_count_28 {p : Program} {l : Launch} {e : Env} {s : State} {m : MethodId} {args : Array Value} {below : List Frame} {meth : Method} {c : Code} {D : va_G} {ct : Nat → ClassId} {A : Nat → Nat} (C : Cx p m c cX1_count 5 s args yX1_count.cls meth (some .int) D ct A) (v_2 : Int32) (x2_6 : Int32) (s_7 : Sg) (k_9 : Int32 → Option (Int32 × Sg)) (hk_9 : ∀ (x3_8 : Int32), Wm p l e (rmD 0) s m args below meth c D ct A 5 embI 82 [(0, .ref (A 7)), (1, .int v_2), (2, .int x2_6), (3, .int x3_8)] [] s_7 (k_9 x3_8)) : ∀ (n : Nat) (x3_13 : Int32) (x4_14 : Int32), Wm p l e (rmD 0) s m args below meth c D ct A 5 embI 28 [(0, .ref (A 7)), (1, .int v_2), (2, .int x2_6), (3, .int x3_13), (4, .int x4_14)] [] s_7 (lo2 (fX1_count_28_b x2_6 s_7 k_9) n x3_13 x4_14) := by
  intro n
  induction n with
  | zero => intro x3_13 x4_14; exact m_none
  | succ n hrec28 =>
    intro x3_13 x4_14
    refine (show Wm p l e (rmD 0) s m args below meth c D ct A 5 embI 28 [(0, .ref (A 7)), (1, .int v_2), (2, .int x2_6), (3, .int x3_13), (4, .int x4_14)] [] s_7 (fX1_count_28_b x2_6 s_7 k_9 (lo2 (fX1_count_28_b x2_6 s_7 k_9) n) x3_13 x4_14) from ?_)
    generalize lo2 (fX1_count_28_b x2_6 s_7 k_9) n = rec28 at hrec28 ⊢
    unfold fX1_count_28_b
    refine m_iload C dX1_count_28 rfl ?_
    refine m_aload_n C dX1_count_30 rfl ?_
    refine m_get (v := .int (gi s_7 7 1)) C fl_X1_34_1 rfl (by decide) rfl dX1_count_31 ?_
    refine m_icmp_ge (tgt := 82) C dX1_count_34 rfl ?_ ?_
    · refine m_loc (L2 := [(0, .ref (A 7)), (1, .int v_2), (2, .int x2_6), (3, .int x3_13)]) [0, 1, 2, 3] rfl ?_
      exact hk_9 x3_13
    · refine m_aload_n C dX1_count_37 rfl ?_
      refine m_get (v := .ref (A 24)) C fl_X1_21_1 rfl (by decide) rfl dX1_count_38 ?_
      refine m_iload_n C dX1_count_41 rfl ?_
      refine m_chk (fun h_15 => ?_)
      refine m_iald C rfl h_15 dX1_count_42 ?_
      refine m_ldc C wd_759 dX1_count_43 ?_
      refine m_icmp_eq (tgt := 82) C dX1_count_45 rfl ?_ ?_
      · refine m_loc (L2 := [(0, .ref (A 7)), (1, .int v_2), (2, .int x2_6), (3, .int x3_13)]) [0, 1, 2, 3] rfl ?_
        exact hk_9 x3_13
      · refine m_iload_n C dX1_count_48 rfl ?_
        refine m_iload_n C dX1_count_49 rfl ?_
        refine m_iload C dX1_count_50 rfl ?_
        refine m_ishr C dX1_count_52 ?_
        refine m_iconst C dX1_count_53 ci_1 ?_
        refine m_iand C dX1_count_54 ?_
        refine m_iconst C dX1_count_55 ci_1 ?_
        refine m_jn (P := fun (k_18 : Int32 → Int32 → Option (Int32 × Sg)) => ∀ (y_16 : Int32) (y_17 : Int32), Wm p l e (rmD 0) s m args below meth c D ct A 5 embI 74 [(0, .ref (A 7)), (1, .int v_2), (2, .int x2_6), (4, .int x4_14)] [.int y_17, .int y_16] s_7 (k_18 y_16 y_17)) ?_ (fun k_18 hk_18 => ?_)
        · intro y_16 y_17
          refine m_iadd C dX1_count_74 ?_
          refine m_let (fun v_19 => ?_)
          refine m_istore_n (L2 := [(3, .int v_19), (0, .ref (A 7)), (1, .int v_2), (2, .int x2_6), (4, .int x4_14)]) C dX1_count_75 rfl (by decide) rfl ?_
          refine m_iincb (L2 := fun v_20 => [(4, .int v_20), (3, .int v_19), (0, .ref (A 7)), (1, .int v_2), (2, .int x2_6)]) (q := 4) C dX1_count_76 rfl ci_1 (by decide) (fun _ => rfl) (fun v_20 => ?_)
          refine m_goto (tgt := 28) C dX1_count_79 rfl ?_
          refine m_loc (L2 := [(0, .ref (A 7)), (1, .int v_2), (2, .int x2_6), (3, .int v_19), (4, .int v_20)]) [2, 3, 4, 1, 0] rfl ?_
          exact hrec28 v_19 v_20
        refine m_icmp_ne (tgt := 73) C dX1_count_56 rfl ?_ ?_
        · refine m_iconst C dX1_count_73 ci_0 ?_
          refine m_loc (L2 := [(0, .ref (A 7)), (1, .int v_2), (2, .int x2_6), (4, .int x4_14)]) [0, 1, 2, 4] rfl ?_
          exact hk_18 x3_13 0
        · refine m_aload_n C dX1_count_59 rfl ?_
          refine m_get (v := .ref (A 25)) C fl_X1_24_1 rfl (by decide) rfl dX1_count_60 ?_
          refine m_iload_n C dX1_count_63 rfl ?_
          refine m_iconst C dX1_count_64 ci_1 ?_
          refine m_iload C dX1_count_65 rfl ?_
          refine m_ishl C dX1_count_67 ?_
          refine m_isub C dX1_count_68 ?_
          refine m_chk (fun h_21 => ?_)
          refine m_iald C rfl h_21 dX1_count_69 ?_
          refine m_goto (tgt := 74) C dX1_count_70 rfl ?_
          refine m_loc (L2 := [(0, .ref (A 7)), (1, .int v_2), (2, .int x2_6), (4, .int x4_14)]) [0, 1, 2, 4] rfl ?_
          exact hk_18 x3_13 (gi s_7 25 (ix (x2_6 - (1 <<< (x4_14 &&& 31)))))
theorem wX1_count_18 {p : Program} {l : Launch} {e : Env} {s : State} {m : MethodId} {args : Array Value} {below : List Frame} {meth : Method} {c : Code} {D : va_G} {ct : Nat → ClassId} {A : Nat → Nat} (C : Cx p m c cX1_count 5 s args yX1_count.cls meth (some .int) D ct A) (v_2 : Int32) (k_4 : Sg → Option (Int32 × Sg)) (hk_4 : ∀ (s_3 : Sg), Wm p l e (rmD 0) s m args below meth c D ct A 5 embI 95 [(0, .ref (A 7)), (1, .int v_2)] [] s_3 (k_4 s_3)) : ∀ (n : Nat) (x2_6 : Int32) (s_7 : Sg), Wm p l e (rmD 0) s m args below meth c D ct A 5 embI 18 [(0, .ref (A 7)), (1, .int v_2), (2, .int x2_6)] [] s_7 (lo2 (fX1_count_18_b v_2 k_4) n x2_6 s_7) := by
  intro n
  induction n with
  | zero => intro x2_6 s_7; exact m_none
  | succ n hrec18 =>
    intro x2_6 s_7
    refine (show Wm p l e (rmD 0) s m args below meth c D ct A 5 embI 18 [(0, .ref (A 7)), (1, .int v_2), (2, .int x2_6)] [] s_7 (fX1_count_18_b v_2 k_4 (lo2 (fX1_count_18_b v_2 k_4) n) x2_6 s_7) from ?_)
    generalize lo2 (fX1_count_18_b v_2 k_4) n = rec18 at hrec18 ⊢
    unfold fX1_count_18_b
    refine m_iload_n C dX1_count_18 rfl ?_
    refine m_iload_n C dX1_count_19 rfl ?_
    refine m_icmp_gt (tgt := 95) C dX1_count_20 rfl ?_ ?_
    · refine m_loc (L2 := [(0, .ref (A 7)), (1, .int v_2)]) [0, 1] rfl ?_
      exact hk_4 s_7
    · refine m_iconst C dX1_count_23 ci_0 ?_
      refine m_istore_n (L2 := [(3, .int 0), (0, .ref (A 7)), (1, .int v_2), (2, .int x2_6)]) C dX1_count_24 rfl (by decide) rfl ?_
      refine m_iconst C dX1_count_25 ci_0 ?_
      refine m_istore (L2 := [(4, .int 0), (3, .int 0), (0, .ref (A 7)), (1, .int v_2), (2, .int x2_6)]) C dX1_count_26 (by decide) rfl ?_
      refine m_jn (P := fun (k_9 : Int32 → Option (Int32 × Sg)) => ∀ (x3_8 : Int32), Wm p l e (rmD 0) s m args below meth c D ct A 5 embI 82 [(0, .ref (A 7)), (1, .int v_2), (2, .int x2_6), (3, .int x3_8)] [] s_7 (k_9 x3_8)) ?_ (fun k_9 hk_9 => ?_)
      · intro x3_8
        refine m_aload_n C dX1_count_82 rfl ?_
        refine m_get (v := .ref (A 25)) C fl_X1_24_1 rfl (by decide) rfl dX1_count_83 ?_
        refine m_iload_n C dX1_count_86 rfl ?_
        refine m_iload_n C dX1_count_87 rfl ?_
        refine m_chk (fun h_10 => ?_)
        refine m_iast C rfl h_10 dX1_count_88 (fun s_11 => ?_)
        refine m_iincb (L2 := fun v_12 => [(2, .int v_12), (0, .ref (A 7)), (1, .int v_2), (3, .int x3_8)]) (q := 2) C dX1_count_89 rfl ci_1 (by decide) (fun _ => rfl) (fun v_12 => ?_)
        refine m_goto (tgt := 18) C dX1_count_92 rfl ?_
        refine m_loc (L2 := [(0, .ref (A 7)), (1, .int v_2), (2, .int v_12)]) [1, 2, 0] rfl ?_
        exact hrec18 v_12 s_11
      refine m_loc (L2 := [(0, .ref (A 7)), (1, .int v_2), (2, .int x2_6), (3, .int 0), (4, .int 0)]) [2, 3, 4, 1, 0] rfl ?_
      exact wX1_count_28 C v_2 x2_6 s_7 k_9 hk_9 FU 0 0
theorem kX1_count (l : Launch) (D : va_G) (ct : Nat → ClassId) (A : Nat → Nat) (s0 : Sg) (o : Int32 × Sg) (ho : fX1_count s0 = some o) : Con l yX1_count cX1_count 5 (some .int) 0 D ct A [.ref (A 7)] s0 (embI o) := by
  refine con_start (by decide +kernel) (Nat.le_of_ble_eq_true rfl) ho (fun p e s m args below meth c C => ?_)
  refine m_loc (L2 := [(0, .ref (A 7))]) [0] rfl ?_
  unfold fX1_count
  refine m_aload_n C dX1_count_0 rfl ?_
  refine m_get (v := .ref (A 25)) C fl_X1_24_1 rfl (by decide) rfl dX1_count_1 ?_
  refine m_iconst C dX1_count_4 ci_0 ?_
  refine m_iconst C dX1_count_5 ci_1 ?_
  refine m_iast C rfl (by decide +kernel) dX1_count_6 (fun s_1 => ?_)
  refine m_iconst C dX1_count_7 ci_1 ?_
  refine m_aload_n C dX1_count_8 rfl ?_
  refine m_get (v := .int (gi s_1 7 1)) C fl_X1_34_1 rfl (by decide) rfl dX1_count_9 ?_
  refine m_ishl C dX1_count_12 ?_
  refine m_iconst C dX1_count_13 ci_1 ?_
  refine m_isub C dX1_count_14 ?_
  refine m_let (fun v_2 => ?_)
  refine m_istore_n (L2 := [(1, .int v_2), (0, .ref (A 7))]) C dX1_count_15 rfl (by decide) rfl ?_
  refine m_iconst C dX1_count_16 ci_1 ?_
  refine m_istore_n (L2 := [(2, .int 1), (1, .int v_2), (0, .ref (A 7))]) C dX1_count_17 rfl (by decide) rfl ?_
  refine m_jn (P := fun (k_4 : Sg → Option (Int32 × Sg)) => ∀ (s_3 : Sg), Wm p l e (rmD 0) s m args below meth c D ct A 5 embI 95 [(0, .ref (A 7)), (1, .int v_2)] [] s_3 (k_4 s_3)) ?_ (fun k_4 hk_4 => ?_)
  · intro s_3
    refine m_aload_n C dX1_count_95 rfl ?_
    refine m_get (v := .ref (A 25)) C fl_X1_24_1 rfl (by decide) rfl dX1_count_96 ?_
    refine m_iload_n C dX1_count_99 rfl ?_
    refine m_chk (fun h_5 => ?_)
    refine m_iald C rfl h_5 dX1_count_100 ?_
    exact m_iret C dX1_count_101
  refine m_loc (L2 := [(0, .ref (A 7)), (1, .int v_2), (2, .int 1)]) [2, 1, 0] rfl ?_
  exact wX1_count_18 C v_2 k_4 hk_4 FU 1 s_1
def fX1_turnFrom (a1 : Int32) (s0 : Sg) : Option (Int32 × Sg) :=
  chk (inb 1024 a1) <|
  some (imax (gi s0 24 (ix a1)) (gi s0 25 (ix a1)), s0)
theorem kX1_turnFrom (l : Launch) (D : va_G) (ct : Nat → ClassId) (A : Nat → Nat) (a1 : Int32) (s0 : Sg) (o : Int32 × Sg) (ho : fX1_turnFrom a1 s0 = some o) : Con l yX1_turnFrom cX1_turnFrom 2 (some .int) 1 D ct A [.ref (A 7), .int a1] s0 (embI o) := by
  refine con_start (by decide +kernel) (Nat.le_of_ble_eq_true rfl) ho (fun p e s m args below meth c C => ?_)
  refine m_loc (L2 := [(0, .ref (A 7)), (1, .int a1)]) [0, 1] rfl ?_
  unfold fX1_turnFrom
  refine m_aload_n C dX1_turnFrom_0 rfl ?_
  refine m_get (v := .ref (A 24)) C fl_X1_21_1 rfl (by decide) rfl dX1_turnFrom_1 ?_
  refine m_iload_n C dX1_turnFrom_4 rfl ?_
  refine m_chk (fun h_1 => ?_)
  refine m_iald C rfl h_1 dX1_turnFrom_5 ?_
  refine m_aload_n C dX1_turnFrom_6 rfl ?_
  refine m_get (v := .ref (A 25)) C fl_X1_24_1 rfl (by decide) rfl dX1_turnFrom_7 ?_
  refine m_iload_n C dX1_turnFrom_10 rfl ?_
  refine m_iald C rfl h_1 dX1_turnFrom_11 ?_
  refine m_mmax C wd_776 ⟨by decide, Nat.le_of_ble_eq_true rfl⟩ dX1_turnFrom_12 ?_
  exact m_iret C dX1_turnFrom_15
def fX1_nextMember_2_b (a1 : Int32) (a2 : Int32) (rec2 : Int32 → Sg → Option (Int32 × Sg)) (x3_1 : Int32) (s_2 : Sg) : Option (Int32 × Sg) :=
  if (gi s_2 7 1) ≤ x3_1 then
    some ((-1), s_2)
  else
    bv (fun (s_3 : Sg) => 
      bv (x3_1 + 1) fun v_5 =>
      rec2 v_5 s_3)
    fun k_4 =>
    if ((a1 >>> (x3_1 &&& 31)) &&& 1) = 0 then
      bnd (fX1_turnFrom (a1 + (1 <<< (x3_1 &&& 31))) s_2) fun r_6 s_7 =>
      if a2 < r_6 then
        k_4 s_7
      else
        some (x3_1, s_7)
    else
      k_4 s_2
def fX1_nextMember (a1 : Int32) (a2 : Int32) (s0 : Sg) : Option (Int32 × Sg) :=
  lo2 (fX1_nextMember_2_b a1 a2) FU 0 s0
theorem wX1_nextMember_2 {p : Program} {l : Launch} {e : Env} {s : State} {m : MethodId} {args : Array Value} {below : List Frame} {meth : Method} {c : Code} {D : va_G} {ct : Nat → ClassId} {A : Nat → Nat} (C : Cx p m c cX1_nextMember 4 s args yX1_nextMember.cls meth (some .int) D ct A) (a1 : Int32) (a2 : Int32) : ∀ (n : Nat) (x3_1 : Int32) (s_2 : Sg), Wm p l e (rmD 2) s m args below meth c D ct A 4 embI 2 [(0, .ref (A 7)), (1, .int a1), (2, .int a2), (3, .int x3_1)] [] s_2 (lo2 (fX1_nextMember_2_b a1 a2) n x3_1 s_2) := by
  intro n
  induction n with
  | zero => intro x3_1 s_2; exact m_none
  | succ n hrec2 =>
    intro x3_1 s_2
    refine (show Wm p l e (rmD 2) s m args below meth c D ct A 4 embI 2 [(0, .ref (A 7)), (1, .int a1), (2, .int a2), (3, .int x3_1)] [] s_2 (fX1_nextMember_2_b a1 a2 (lo2 (fX1_nextMember_2_b a1 a2) n) x3_1 s_2) from ?_)
    generalize lo2 (fX1_nextMember_2_b a1 a2) n = rec2 at hrec2 ⊢
    unfold fX1_nextMember_2_b
    refine m_iload_n C dX1_nextMember_2 rfl ?_
    refine m_aload_n C dX1_nextMember_3 rfl ?_
    refine m_get (v := .int (gi s_2 7 1)) C fl_X1_34_1 rfl (by decide) rfl dX1_nextMember_4 ?_
    refine m_icmp_ge (tgt := 39) C dX1_nextMember_7 rfl ?_ ?_
    · refine m_iconst C dX1_nextMember_39 ci_m1 ?_
      exact m_iret C dX1_nextMember_40
    · refine m_iload_n C dX1_nextMember_10 rfl ?_
      refine m_iload_n C dX1_nextMember_11 rfl ?_
      refine m_ishr C dX1_nextMember_12 ?_
      refine m_iconst C dX1_nextMember_13 ci_1 ?_
      refine m_iand C dX1_nextMember_14 ?_
      refine m_jn (P := fun (k_4 : Sg → Option (Int32 × Sg)) => ∀ (s_3 : Sg), Wm p l e (rmD 2) s m args below meth c D ct A 4 embI 33 [(0, .ref (A 7)), (1, .int a1), (2, .int a2), (3, .int x3_1)] [] s_3 (k_4 s_3)) ?_ (fun k_4 hk_4 => ?_)
      · intro s_3
        refine m_iincb (L2 := fun v_5 => [(3, .int v_5), (0, .ref (A 7)), (1, .int a1), (2, .int a2)]) (q := 3) C dX1_nextMember_33 rfl ci_1 (by decide) (fun _ => rfl) (fun v_5 => ?_)
        refine m_goto (tgt := 2) C dX1_nextMember_36 rfl ?_
        refine m_loc (L2 := [(0, .ref (A 7)), (1, .int a1), (2, .int a2), (3, .int v_5)]) [1, 2, 3, 0] rfl ?_
        exact hrec2 v_5 s_3
      refine m_if_ne (tgt := 33) C dX1_nextMember_15 rfl ?_ ?_
      · refine m_loc (L2 := [(0, .ref (A 7)), (1, .int a1), (2, .int a2), (3, .int x3_1)]) [0, 1, 2, 3] rfl ?_
        exact hk_4 s_2
      · refine m_aload_n C dX1_nextMember_18 rfl ?_
        refine m_iload_n C dX1_nextMember_19 rfl ?_
        refine m_iconst C dX1_nextMember_20 ci_1 ?_
        refine m_iload_n C dX1_nextMember_21 rfl ?_
        refine m_ishl C dX1_nextMember_22 ?_
        refine m_iadd C dX1_nextMember_23 ?_
        refine m_callVI C ml_X1_72 ⟨Nat.le_of_ble_eq_true rfl, Nat.le_of_ble_eq_true rfl⟩ rfl rfl [.int (a1 + (1 <<< (x3_1 &&& 31)))] [] rfl rfl (Nat.le_of_ble_eq_true rfl) dX1_nextMember_24 (fun o ho => kX1_turnFrom l D ct A (a1 + (1 <<< (x3_1 &&& 31))) s_2 o ho) (fun r_6 s_7 => ?_)
        refine m_iload_n C dX1_nextMember_27 rfl ?_
        refine m_icmp_gt (tgt := 33) C dX1_nextMember_28 rfl ?_ ?_
        · refine m_loc (L2 := [(0, .ref (A 7)), (1, .int a1), (2, .int a2), (3, .int x3_1)]) [0, 1, 2, 3] rfl ?_
          exact hk_4 s_7
        · refine m_iload_n C dX1_nextMember_31 rfl ?_
          exact m_iret C dX1_nextMember_32
theorem kX1_nextMember (l : Launch) (D : va_G) (ct : Nat → ClassId) (A : Nat → Nat) (a1 : Int32) (a2 : Int32) (s0 : Sg) (o : Int32 × Sg) (ho : fX1_nextMember a1 a2 s0 = some o) : Con l yX1_nextMember cX1_nextMember 4 (some .int) 2 D ct A [.ref (A 7), .int a1, .int a2] s0 (embI o) := by
  refine con_start (by decide +kernel) (Nat.le_of_ble_eq_true rfl) ho (fun p e s m args below meth c C => ?_)
  refine m_loc (L2 := [(0, .ref (A 7)), (1, .int a1), (2, .int a2)]) [0, 1, 2] rfl ?_
  unfold fX1_nextMember
  refine m_iconst C dX1_nextMember_0 ci_0 ?_
  refine m_istore_n (L2 := [(3, .int 0), (0, .ref (A 7)), (1, .int a1), (2, .int a2)]) C dX1_nextMember_1 rfl (by decide) rfl ?_
  refine m_loc (L2 := [(0, .ref (A 7)), (1, .int a1), (2, .int a2), (3, .int 0)]) [1, 2, 3, 0] rfl ?_
  exact wX1_nextMember_2 C a1 a2 FU 0 s0
def fX2_fail (a1 : Int32) (s0 : Sg) : Option (Sg) :=
  if (gi s0 4 4) = 0 then
    bv (si s0 4 4 a1) fun s_1 =>
    bv (si s_1 4 5 (gi s_1 3 3)) fun s_2 =>
    some s_2
  else
    some s0
theorem kX2_fail (l : Launch) (D : va_G) (ct : Nat → ClassId) (A : Nat → Nat) (a1 : Int32) (s0 : Sg) (o : Sg) (ho : fX2_fail a1 s0 = some o) : Con l yX2_fail cX2_fail 2 none 0 D ct A [.ref (A 4), .int a1] s0 (embV o) := by
  refine con_start (by decide +kernel) (Nat.le_of_ble_eq_true rfl) ho (fun p e s m args below meth c C => ?_)
  refine m_loc (L2 := [(0, .ref (A 4)), (1, .int a1)]) [0, 1] rfl ?_
  unfold fX2_fail
  refine m_aload_n C dX2_fail_0 rfl ?_
  refine m_get (v := .int (gi s0 4 4)) C fl_X2_15_2 rfl (by decide) rfl dX2_fail_1 ?_
  refine m_if_ne (tgt := 23) C dX2_fail_4 rfl ?_ ?_
  · exact m_vret C dX2_fail_23
  · refine m_aload_n C dX2_fail_7 rfl ?_
    refine m_iload_n C dX2_fail_8 rfl ?_
    refine m_puti C fl_X2_15_2 fw_2_4 rfl (by decide) rfl dX2_fail_9 (fun s_1 => ?_)
    refine m_aload_n C dX2_fail_12 rfl ?_
    refine m_aload_n C dX2_fail_13 rfl ?_
    refine m_get (v := .ref (A 3)) C fl_X2_22_2 rfl (by decide) rfl dX2_fail_14 ?_
    refine m_get (v := .int (gi s_1 3 3)) C fl_X2_57_7 rfl (by decide) rfl dX2_fail_17 ?_
    refine m_puti C fl_X2_19_2 fw_2_5 rfl (by decide) rfl dX2_fail_20 (fun s_2 => ?_)
    exact m_vret C dX2_fail_23
def fX2_headFault (a1 : Int32) (s0 : Sg) : Option (Int32 × Sg) :=
  if a1 < 19 then
    some (1, s0)
  else
    if a1 ≤ 23 then
      bv (
        bv (
          bv (gr s0 4 3) fun q_3 =>
          chk (isScr q_3) <|
          if (gi s0 q_3 9) = 24 then
            some (6, s0)
          else
            some (0, s0))
        fun k_2 =>
        if a1 = 20 then
          bv (gr s0 4 3) fun q_5 =>
          chk (isScr q_5) <|
          if (gi s0 q_5 4) = (-1) then
            k_2
          else
            some (4, s0)
        else
          k_2)
      fun k_1 =>
      if a1 = 19 then
        bv (gr s0 4 3) fun q_7 =>
        chk (isScr q_7) <|
        if (gi s0 q_7 2) = (-1) then
          k_1
        else
          some (4, s0)
      else
        k_1
    else
      some (1, s0)
theorem kX2_headFault (l : Launch) (D : va_G) (ct : Nat → ClassId) (A : Nat → Nat) (a1 : Int32) (s0 : Sg) (o : Int32 × Sg) (ho : fX2_headFault a1 s0 = some o) : Con l yX2_headFault cX2_headFault 2 (some .int) 0 D ct A [.ref (A 4), .int a1] s0 (embI o) := by
  refine con_start (by decide +kernel) (Nat.le_of_ble_eq_true rfl) ho (fun p e s m args below meth c C => ?_)
  refine m_loc (L2 := [(0, .ref (A 4)), (1, .int a1)]) [0, 1] rfl ?_
  unfold fX2_headFault
  refine m_iload_n C dX2_headFault_0 rfl ?_
  refine m_bipush C dX2_headFault_1 cb_19 ?_
  refine m_icmp_lt (tgt := 12) C dX2_headFault_3 rfl ?_ ?_
  · refine m_iconst C dX2_headFault_12 ci_1 ?_
    exact m_iret C dX2_headFault_13
  · refine m_iload_n C dX2_headFault_6 rfl ?_
    refine m_bipush C dX2_headFault_7 cb_23 ?_
    refine m_icmp_le (tgt := 14) C dX2_headFault_9 rfl ?_ ?_
    · refine m_iload_n C dX2_headFault_14 rfl ?_
      refine m_bipush C dX2_headFault_15 cb_19 ?_
      refine m_jn (P := fun (k_1 : Option (Int32 × Sg)) => Wm p l e (rmD 0) s m args below meth c D ct A 2 embI 31 [(0, .ref (A 4)), (1, .int a1)] [] s0 (k_1)) ?_ (fun k_1 hk_1 => ?_)
      · refine m_iload_n C dX2_headFault_31 rfl ?_
        refine m_bipush C dX2_headFault_32 cb_20 ?_
        refine m_jn (P := fun (k_2 : Option (Int32 × Sg)) => Wm p l e (rmD 0) s m args below meth c D ct A 2 embI 50 [(0, .ref (A 4))] [] s0 (k_2)) ?_ (fun k_2 hk_2 => ?_)
        · refine m_aload_n C dX2_headFault_50 rfl ?_
          refine m_get (v := rfv A (gr s0 4 3)) C fl_X2_26_2 rfl (by decide) rfl dX2_headFault_51 ?_
          refine m_letn (fun q_3 => ?_)
          refine m_chk (fun h_4 => ?_)
          refine m_rf (isScr_ne h_4) ?_
          refine m_get (v := .int (gi s0 q_3 9)) C fl_X2_66_5 (lay_scr h_4) (by decide) (fv_scr h_4 rfl) dX2_headFault_54 ?_
          refine m_bipush C dX2_headFault_57 cb_24 ?_
          refine m_icmp_ne (tgt := 67) C dX2_headFault_59 rfl ?_ ?_
          · refine m_iconst C dX2_headFault_67 ci_0 ?_
            exact m_iret C dX2_headFault_68
          · refine m_bipush C dX2_headFault_62 cb_6 ?_
            refine m_goto (tgt := 68) C dX2_headFault_64 rfl ?_
            exact m_iret C dX2_headFault_68
        refine m_icmp_ne (tgt := 50) C dX2_headFault_34 rfl ?_ ?_
        · refine m_loc (L2 := [(0, .ref (A 4))]) [0] rfl ?_
          exact hk_2
        · refine m_aload_n C dX2_headFault_37 rfl ?_
          refine m_get (v := rfv A (gr s0 4 3)) C fl_X2_26_2 rfl (by decide) rfl dX2_headFault_38 ?_
          refine m_letn (fun q_5 => ?_)
          refine m_chk (fun h_6 => ?_)
          refine m_rf (isScr_ne h_6) ?_
          refine m_get (v := .int (gi s0 q_5 4)) C fl_X2_63_5 (lay_scr h_6) (by decide) (fv_scr h_6 rfl) dX2_headFault_41 ?_
          refine m_iconst C dX2_headFault_44 ci_m1 ?_
          refine m_icmp_eq (tgt := 50) C dX2_headFault_45 rfl ?_ ?_
          · refine m_loc (L2 := [(0, .ref (A 4))]) [0] rfl ?_
            exact hk_2
          · refine m_iconst C dX2_headFault_48 ci_4 ?_
            exact m_iret C dX2_headFault_49
      refine m_icmp_ne (tgt := 31) C dX2_headFault_17 rfl ?_ ?_
      · refine m_loc (L2 := [(0, .ref (A 4)), (1, .int a1)]) [0, 1] rfl ?_
        exact hk_1
      · refine m_aload_n C dX2_headFault_20 rfl ?_
        refine m_get (v := rfv A (gr s0 4 3)) C fl_X2_26_2 rfl (by decide) rfl dX2_headFault_21 ?_
        refine m_letn (fun q_7 => ?_)
        refine m_chk (fun h_8 => ?_)
        refine m_rf (isScr_ne h_8) ?_
        refine m_get (v := .int (gi s0 q_7 2)) C fl_X2_60_5 (lay_scr h_8) (by decide) (fv_scr h_8 rfl) dX2_headFault_24 ?_
        refine m_iconst C dX2_headFault_27 ci_m1 ?_
        refine m_icmp_ne (tgt := 48) C dX2_headFault_28 rfl ?_ ?_
        · refine m_iconst C dX2_headFault_48 ci_4 ?_
          exact m_iret C dX2_headFault_49
        · refine m_loc (L2 := [(0, .ref (A 4)), (1, .int a1)]) [0, 1] rfl ?_
          exact hk_1
    · refine m_iconst C dX2_headFault_12 ci_1 ?_
      exact m_iret C dX2_headFault_13
def fX2_operandFault (a1 : Int32) (s0 : Sg) : Option (Int32 × Sg) :=
  if a1 = 17 then
    if (gi s0 3 5) ≤ 9999 then
      some (0, s0)
    else
      some (2, s0)
  else
    if 26 ≤ a1 then
      bv (a1 - 26) fun v_1 =>
      bv (fun (y_2 : Bool) => 
        if (b2i y_2) = 0 then
          some (5, s0)
        else
          some (0, s0))
      fun k_3 =>
      bv (
        k_3 true)
      fun k_4 =>
      if v_1 < 3 then
        k_4
      else
        bv (fun (y_5 : Bool) => 
          if (b2i y_5) = (gi s0 4 8) then
            k_4
          else
            k_3 false)
        fun k_6 =>
        if v_1 < 7 then
          k_6 false
        else
          k_6 true
    else
      some (1, s0)
theorem kX2_operandFault (l : Launch) (D : va_G) (ct : Nat → ClassId) (A : Nat → Nat) (a1 : Int32) (s0 : Sg) (o : Int32 × Sg) (ho : fX2_operandFault a1 s0 = some o) : Con l yX2_operandFault cX2_operandFault 4 (some .int) 0 D ct A [.ref (A 4), .int a1] s0 (embI o) := by
  refine con_start (by decide +kernel) (Nat.le_of_ble_eq_true rfl) ho (fun p e s m args below meth c C => ?_)
  refine m_loc (L2 := [(0, .ref (A 4)), (1, .int a1)]) [0, 1] rfl ?_
  unfold fX2_operandFault
  refine m_iload_n C dX2_operandFault_0 rfl ?_
  refine m_bipush C dX2_operandFault_1 cb_17 ?_
  refine m_icmp_ne (tgt := 25) C dX2_operandFault_3 rfl ?_ ?_
  · refine m_iload_n C dX2_operandFault_25 rfl ?_
    refine m_bipush C dX2_operandFault_26 cb_26 ?_
    refine m_icmp_ge (tgt := 33) C dX2_operandFault_28 rfl ?_ ?_
    · refine m_iload_n C dX2_operandFault_33 rfl ?_
      refine m_bipush C dX2_operandFault_34 cb_26 ?_
      refine m_isub C dX2_operandFault_36 ?_
      refine m_let (fun v_1 => ?_)
      refine m_istore_n (L2 := [(2, .int v_1), (0, .ref (A 4)), (1, .int a1)]) C dX2_operandFault_37 rfl (by decide) rfl ?_
      refine m_iload_n C dX2_operandFault_38 rfl ?_
      refine m_iconst C dX2_operandFault_39 ci_3 ?_
      refine m_jn (P := fun (k_3 : Bool → Option (Int32 × Sg)) => ∀ (y_2 : Bool), Wm p l e (rmD 0) s m args below meth c D ct A 4 embI 66 [] [.int (b2i y_2)] s0 (k_3 y_2)) ?_ (fun k_3 hk_3 => ?_)
      · intro y_2
        refine m_istore_n (L2 := [(3, .int (b2i y_2))]) C dX2_operandFault_66 rfl (by decide) rfl ?_
        refine m_iload_n C dX2_operandFault_67 rfl ?_
        refine m_if_eq (tgt := 75) C dX2_operandFault_68 rfl ?_ ?_
        · refine m_iconst C dX2_operandFault_75 ci_5 ?_
          exact m_iret C dX2_operandFault_76
        · refine m_iconst C dX2_operandFault_71 ci_0 ?_
          refine m_goto (tgt := 76) C dX2_operandFault_72 rfl ?_
          exact m_iret C dX2_operandFault_76
      refine m_jn (P := fun (k_4 : Option (Int32 × Sg)) => Wm p l e (rmD 0) s m args below meth c D ct A 4 embI 61 [] [] s0 (k_4)) ?_ (fun k_4 hk_4 => ?_)
      · refine m_iconst C dX2_operandFault_61 ci_1 ?_
        refine m_goto (tgt := 66) C dX2_operandFault_62 rfl ?_
        refine m_loc (L2 := []) [] rfl ?_
        exact hk_3 true
      refine m_icmp_lt (tgt := 61) C dX2_operandFault_40 rfl ?_ ?_
      · refine m_loc (L2 := []) [] rfl ?_
        exact hk_4
      · refine m_iload_n C dX2_operandFault_43 rfl ?_
        refine m_bipush C dX2_operandFault_44 cb_7 ?_
        refine m_jn (P := fun (k_6 : Bool → Option (Int32 × Sg)) => ∀ (y_5 : Bool), Wm p l e (rmD 0) s m args below meth c D ct A 4 embI 54 [(0, .ref (A 4))] [.int (b2i y_5)] s0 (k_6 y_5)) ?_ (fun k_6 hk_6 => ?_)
        · intro y_5
          refine m_aload_n C dX2_operandFault_54 rfl ?_
          refine m_get (v := .int (gi s0 4 8)) C fl_X2_88_2 rfl (by decide) rfl dX2_operandFault_55 ?_
          refine m_icmp_ne (tgt := 65) C dX2_operandFault_58 rfl ?_ ?_
          · refine m_iconst C dX2_operandFault_65 ci_0 ?_
            refine m_loc (L2 := []) [] rfl ?_
            exact hk_3 false
          · refine m_loc (L2 := []) [] rfl ?_
            exact hk_4
        refine m_icmp_lt (tgt := 53) C dX2_operandFault_46 rfl ?_ ?_
        · refine m_iconst C dX2_operandFault_53 ci_0 ?_
          refine m_loc (L2 := [(0, .ref (A 4))]) [1] rfl ?_
          exact hk_6 false
        · refine m_iconst C dX2_operandFault_49 ci_1 ?_
          refine m_goto (tgt := 54) C dX2_operandFault_50 rfl ?_
          refine m_loc (L2 := [(0, .ref (A 4))]) [1] rfl ?_
          exact hk_6 true
    · refine m_iconst C dX2_operandFault_31 ci_1 ?_
      exact m_iret C dX2_operandFault_32
  · refine m_aload_n C dX2_operandFault_6 rfl ?_
    refine m_get (v := .ref (A 3)) C fl_X2_22_2 rfl (by decide) rfl dX2_operandFault_7 ?_
    refine m_get (v := .int (gi s0 3 5)) C fl_X2_82_7 rfl (by decide) rfl dX2_operandFault_10 ?_
    refine m_sipush C dX2_operandFault_13 cs_9999 ?_
    refine m_icmp_le (tgt := 23) C dX2_operandFault_16 rfl ?_ ?_
    · refine m_iconst C dX2_operandFault_23 ci_0 ?_
      exact m_iret C dX2_operandFault_24
    · refine m_iconst C dX2_operandFault_19 ci_2 ?_
      refine m_goto (tgt := 24) C dX2_operandFault_20 rfl ?_
      exact m_iret C dX2_operandFault_24
def fX2_keepWaiting (a1 : Int32) (s0 : Sg) : Option (Sg) :=
  if 29 ≤ (gi s0 4 2) then
    some s0
  else
    chk (inb 29 (gi s0 4 2)) <|
    bv (si s0 18 (ix (gi s0 4 2)) a1) fun s_2 =>
    bv (si s_2 4 2 ((gi s_2 4 2) + 1)) fun s_3 =>
    some s_3
theorem kX2_keepWaiting (l : Launch) (D : va_G) (ct : Nat → ClassId) (A : Nat → Nat) (a1 : Int32) (s0 : Sg) (o : Sg) (ho : fX2_keepWaiting a1 s0 = some o) : Con l yX2_keepWaiting cX2_keepWaiting 2 none 0 D ct A [.ref (A 4), .int a1] s0 (embV o) := by
  refine con_start (by decide +kernel) (Nat.le_of_ble_eq_true rfl) ho (fun p e s m args below meth c C => ?_)
  refine m_loc (L2 := [(0, .ref (A 4)), (1, .int a1)]) [0, 1] rfl ?_
  unfold fX2_keepWaiting
  refine m_aload_n C dX2_keepWaiting_0 rfl ?_
  refine m_get (v := .int (gi s0 4 2)) C fl_X2_92_2 rfl (by decide) rfl dX2_keepWaiting_1 ?_
  refine m_aload_n C dX2_keepWaiting_4 rfl ?_
  refine m_get (v := .ref (A 18)) C fl_X2_11_2 rfl (by decide) rfl dX2_keepWaiting_5 ?_
  refine m_alen (v := 29) C rfl (by decide) rfl (by decide +kernel) dX2_keepWaiting_8 ?_
  refine m_icmp_ge (tgt := 32) C dX2_keepWaiting_9 rfl ?_ ?_
  · exact m_vret C dX2_keepWaiting_32
  · refine m_aload_n C dX2_keepWaiting_12 rfl ?_
    refine m_get (v := .ref (A 18)) C fl_X2_11_2 rfl (by decide) rfl dX2_keepWaiting_13 ?_
    refine m_aload_n C dX2_keepWaiting_16 rfl ?_
    refine m_get (v := .int (gi s0 4 2)) C fl_X2_92_2 rfl (by decide) rfl dX2_keepWaiting_17 ?_
    refine m_iload_n C dX2_keepWaiting_20 rfl ?_
    refine m_chk (fun h_1 => ?_)
    refine m_iast C rfl h_1 dX2_keepWaiting_21 (fun s_2 => ?_)
    refine m_aload_n C dX2_keepWaiting_22 rfl ?_
    refine m_dup C dX2_keepWaiting_23 rfl ?_
    refine m_get (v := .int (gi s_2 4 2)) C fl_X2_92_2 rfl (by decide) rfl dX2_keepWaiting_24 ?_
    refine m_iconst C dX2_keepWaiting_27 ci_1 ?_
    refine m_iadd C dX2_keepWaiting_28 ?_
    refine m_puti C fl_X2_92_2 fw_2_2 rfl (by decide) rfl dX2_keepWaiting_29 (fun s_3 => ?_)
    exact m_vret C dX2_keepWaiting_32
def fX4_setAir (a1 : Int32) (a2 : Int32) (a3 : Int32) (s0 : Sg) : Option (Sg) :=
  bv (si s0 19 (ix 0) a1) fun s_1 =>
  bv (si s_1 19 (ix 1) a2) fun s_2 =>
  bv (si s_2 19 (ix 2) a3) fun s_3 =>
  some s_3
theorem kX4_setAir (l : Launch) (D : va_G) (ct : Nat → ClassId) (A : Nat → Nat) (a1 : Int32) (a2 : Int32) (a3 : Int32) (s0 : Sg) (o : Sg) (ho : fX4_setAir a1 a2 a3 s0 = some o) : Con l yX4_setAir cX4_setAir 4 none 0 D ct A [.ref (A 6), .int a1, .int a2, .int a3] s0 (embV o) := by
  refine con_start (by decide +kernel) (Nat.le_of_ble_eq_true rfl) ho (fun p e s m args below meth c C => ?_)
  refine m_loc (L2 := [(0, .ref (A 6)), (1, .int a1), (2, .int a2), (3, .int a3)]) [0, 1, 2, 3] rfl ?_
  unfold fX4_setAir
  refine m_aload_n C dX4_setAir_0 rfl ?_
  refine m_get (v := .ref (A 19)) C fl_X4_9_4 rfl (by decide) rfl dX4_setAir_1 ?_
  refine m_iconst C dX4_setAir_4 ci_0 ?_
  refine m_iload_n C dX4_setAir_5 rfl ?_
  refine m_iast C rfl (by decide +kernel) dX4_setAir_6 (fun s_1 => ?_)
  refine m_aload_n C dX4_setAir_7 rfl ?_
  refine m_get (v := .ref (A 19)) C fl_X4_9_4 rfl (by decide) rfl dX4_setAir_8 ?_
  refine m_iconst C dX4_setAir_11 ci_1 ?_
  refine m_iload_n C dX4_setAir_12 rfl ?_
  refine m_iast C rfl (by decide +kernel) dX4_setAir_13 (fun s_2 => ?_)
  refine m_aload_n C dX4_setAir_14 rfl ?_
  refine m_get (v := .ref (A 19)) C fl_X4_9_4 rfl (by decide) rfl dX4_setAir_15 ?_
  refine m_iconst C dX4_setAir_18 ci_2 ?_
  refine m_iload_n C dX4_setAir_19 rfl ?_
  refine m_iast C rfl (by decide +kernel) dX4_setAir_20 (fun s_3 => ?_)
  exact m_vret C dX4_setAir_21
def fX4_hang (a2 : Int32) (a3 : Int32) (s0 : Sg) : Option (Sg) :=
  bv (si s0 6 2 a2) fun s_1 =>
  bv (si s_1 6 3 a3) fun s_2 =>
  bv (si s_2 6 4 ((((gi s_2 1 0) * (gi s_2 6 2)) - ((gi s_2 1 1) * (gi s_2 6 3))) + ((gi s_2 19 (ix 2)) * 10))) fun s_3 =>
  some s_3
theorem kX4_hang (l : Launch) (D : va_G) (ct : Nat → ClassId) (A : Nat → Nat) (a2 : Int32) (a3 : Int32) (s0 : Sg) (o : Sg) (ho : fX4_hang a2 a3 s0 = some o) : Con l yX4_hang cX4_hang 4 none 0 D ct A [.ref (A 6), .ref (A 1), .int a2, .int a3] s0 (embV o) := by
  refine con_start (by decide +kernel) (Nat.le_of_ble_eq_true rfl) ho (fun p e s m args below meth c C => ?_)
  refine m_loc (L2 := [(0, .ref (A 6)), (1, .ref (A 1)), (2, .int a2), (3, .int a3)]) [0, 1, 2, 3] rfl ?_
  unfold fX4_hang
  refine m_aload_n C dX4_hang_0 rfl ?_
  refine m_iload_n C dX4_hang_1 rfl ?_
  refine m_puti C fl_X4_42_4 fw_4_2 rfl (by decide) rfl dX4_hang_2 (fun s_1 => ?_)
  refine m_aload_n C dX4_hang_5 rfl ?_
  refine m_iload_n C dX4_hang_6 rfl ?_
  refine m_puti C fl_X4_45_4 fw_4_3 rfl (by decide) rfl dX4_hang_7 (fun s_2 => ?_)
  refine m_aload_n C dX4_hang_10 rfl ?_
  refine m_aload_n C dX4_hang_11 rfl ?_
  refine m_get (v := .int (gi s_2 1 0)) C fl_X4_48_6 rfl (by decide) rfl dX4_hang_12 ?_
  refine m_aload_n C dX4_hang_15 rfl ?_
  refine m_get (v := .int (gi s_2 6 2)) C fl_X4_42_4 rfl (by decide) rfl dX4_hang_16 ?_
  refine m_imul C dX4_hang_19 ?_
  refine m_aload_n C dX4_hang_20 rfl ?_
  refine m_get (v := .int (gi s_2 1 1)) C fl_X4_51_6 rfl (by decide) rfl dX4_hang_21 ?_
  refine m_aload_n C dX4_hang_24 rfl ?_
  refine m_get (v := .int (gi s_2 6 3)) C fl_X4_45_4 rfl (by decide) rfl dX4_hang_25 ?_
  refine m_imul C dX4_hang_28 ?_
  refine m_isub C dX4_hang_29 ?_
  refine m_aload_n C dX4_hang_30 rfl ?_
  refine m_get (v := .ref (A 19)) C fl_X4_9_4 rfl (by decide) rfl dX4_hang_31 ?_
  refine m_iconst C dX4_hang_34 ci_2 ?_
  refine m_iald C rfl (by decide +kernel) dX4_hang_35 ?_
  refine m_bipush C dX4_hang_36 cb_10 ?_
  refine m_imul C dX4_hang_38 ?_
  refine m_iadd C dX4_hang_39 ?_
  refine m_puti C fl_X4_54_4 fw_4_4 rfl (by decide) rfl dX4_hang_40 (fun s_3 => ?_)
  exact m_vret C dX4_hang_43
def fX4_held (a1 : Int64) (s0 : Sg) : Option (Int32 × Sg) :=
  if (lg_cmp a1 1000000) ≤ 0 then
    if 0 ≤ (lg_cmp a1 (-1000000)) then
      some (Int64.toInt32 a1, s0)
    else
      some ((-1000000), s0)
  else
    some (1000000, s0)
theorem kX4_held (l : Launch) (D : va_G) (ct : Nat → ClassId) (A : Nat → Nat) (a1 : Int64) (s0 : Sg) (o : Int32 × Sg) (ho : fX4_held a1 s0 = some o) : Con l yX4_held cX4_held 2 (some .int) 0 D ct A [.long a1] s0 (embI o) := by
  refine con_start (by decide +kernel) (Nat.le_of_ble_eq_true rfl) ho (fun p e s m args below meth c C => ?_)
  refine m_loc (L2 := [(0, .long a1)]) [0] rfl ?_
  unfold fX4_held
  refine m_lload_n C dX4_held_0 rfl ?_
  refine m_ldc2 C wd_662 dX4_held_1 ?_
  refine m_lcmp C dX4_held_4 ?_
  refine m_if_le (tgt := 11) C dX4_held_5 rfl ?_ ?_
  · refine m_lload_n C dX4_held_11 rfl ?_
    refine m_ldc2 C wd_664 dX4_held_12 ?_
    refine m_lcmp C dX4_held_15 ?_
    refine m_if_ge (tgt := 24) C dX4_held_16 rfl ?_ ?_
    · refine m_lload_n C dX4_held_24 rfl ?_
      refine m_l2i C dX4_held_25 ?_
      exact m_iret C dX4_held_26
    · refine m_ldc C wd_665 dX4_held_19 ?_
      refine m_goto (tgt := 26) C dX4_held_21 rfl ?_
      exact m_iret C dX4_held_26
  · refine m_ldc C wd_663 dX4_held_8 ?_
    exact m_iret C dX4_held_10
def fX4_joined (a1 : Int32) (a2 : Int64) (a3 : Int64) (s0 : Sg) : Option (Int64 × Sg) :=
  if a1 = 1 then
    some (a2 ||| a3, s0)
  else
    if a1 = 2 then
      some (a2 &&& a3, s0)
    else
      if a1 = 4 then
        if 0 ≤ (lg_cmp a2 a3) then
          some (0, s0)
        else
          some (1, s0)
      else
        if a1 = 5 then
          if 0 < (lg_cmp a2 a3) then
            some (0, s0)
          else
            some (1, s0)
        else
          if a1 = 6 then
            if (lg_cmp a2 a3) ≤ 0 then
              some (0, s0)
            else
              some (1, s0)
          else
            if a1 = 7 then
              if (lg_cmp a2 a3) < 0 then
                some (0, s0)
              else
                some (1, s0)
            else
              if a1 = 8 then
                if (lg_cmp a2 a3) = 0 then
                  some (1, s0)
                else
                  some (0, s0)
              else
                if a1 = 9 then
                  if (lg_cmp a2 a3) = 0 then
                    some (0, s0)
                  else
                    some (1, s0)
                else
                  if a1 = 10 then
                    some (a2 + a3, s0)
                  else
                    if a1 = 11 then
                      some (a2 - a3, s0)
                    else
                      if a1 = 12 then
                        some (a2 * a3, s0)
                      else
                        if a1 = 13 then
                          if (lg_cmp a3 0) = 0 then
                            some (0, s0)
                          else
                            chk (!(a3 == 0)) <|
                            some (a2 / a3, s0)
                        else
                          some (0, s0)
theorem kX4_joined (l : Launch) (D : va_G) (ct : Nat → ClassId) (A : Nat → Nat) (a1 : Int32) (a2 : Int64) (a3 : Int64) (s0 : Sg) (o : Int64 × Sg) (ho : fX4_joined a1 a2 a3 s0 = some o) : Con l yX4_joined cX4_joined 5 (some .long) 0 D ct A [.int a1, .long a2, .long a3] s0 (embL o) := by
  refine con_start (by decide +kernel) (Nat.le_of_ble_eq_true rfl) ho (fun p e s m args below meth c C => ?_)
  refine m_loc (L2 := [(0, .int a1), (1, .long a2), (3, .long a3)]) [0, 1, 2] rfl ?_
  unfold fX4_joined
  refine m_iload_n C dX4_joined_0 rfl ?_
  refine m_tbl (n := 0) C dX4_joined_1 1 67 68 (by decide +kernel) ?_ (fun h_1 => ?_)
  · refine m_lload_n C dX4_joined_68 rfl ?_
    refine m_lload_n C dX4_joined_69 rfl ?_
    refine m_lor C dX4_joined_70 ?_
    refine m_goto (tgt := 199) C dX4_joined_71 rfl ?_
    exact m_lret C dX4_joined_199
  · refine m_tbl (n := 0) C dX4_joined_1 2 73 74 (by decide +kernel) ?_ (fun h_2 => ?_)
    · refine m_lload_n C dX4_joined_74 rfl ?_
      refine m_lload_n C dX4_joined_75 rfl ?_
      refine m_land C dX4_joined_76 ?_
      refine m_goto (tgt := 199) C dX4_joined_77 rfl ?_
      exact m_lret C dX4_joined_199
    · refine m_tbl (n := 0) C dX4_joined_1 4 79 80 (by decide +kernel) ?_ (fun h_3 => ?_)
      · refine m_lload_n C dX4_joined_80 rfl ?_
        refine m_lload_n C dX4_joined_81 rfl ?_
        refine m_lcmp C dX4_joined_82 ?_
        refine m_if_ge (tgt := 90) C dX4_joined_83 rfl ?_ ?_
        · refine m_lconst C dX4_joined_90 cl_0 ?_
          refine m_goto (tgt := 199) C dX4_joined_91 rfl ?_
          exact m_lret C dX4_joined_199
        · refine m_lconst C dX4_joined_86 cl_1 ?_
          refine m_goto (tgt := 199) C dX4_joined_87 rfl ?_
          exact m_lret C dX4_joined_199
      · refine m_tbl (n := 0) C dX4_joined_1 5 93 94 (by decide +kernel) ?_ (fun h_4 => ?_)
        · refine m_lload_n C dX4_joined_94 rfl ?_
          refine m_lload_n C dX4_joined_95 rfl ?_
          refine m_lcmp C dX4_joined_96 ?_
          refine m_if_gt (tgt := 104) C dX4_joined_97 rfl ?_ ?_
          · refine m_lconst C dX4_joined_104 cl_0 ?_
            refine m_goto (tgt := 199) C dX4_joined_105 rfl ?_
            exact m_lret C dX4_joined_199
          · refine m_lconst C dX4_joined_100 cl_1 ?_
            refine m_goto (tgt := 199) C dX4_joined_101 rfl ?_
            exact m_lret C dX4_joined_199
        · refine m_tbl (n := 0) C dX4_joined_1 6 107 108 (by decide +kernel) ?_ (fun h_5 => ?_)
          · refine m_lload_n C dX4_joined_108 rfl ?_
            refine m_lload_n C dX4_joined_109 rfl ?_
            refine m_lcmp C dX4_joined_110 ?_
            refine m_if_le (tgt := 118) C dX4_joined_111 rfl ?_ ?_
            · refine m_lconst C dX4_joined_118 cl_0 ?_
              refine m_goto (tgt := 199) C dX4_joined_119 rfl ?_
              exact m_lret C dX4_joined_199
            · refine m_lconst C dX4_joined_114 cl_1 ?_
              refine m_goto (tgt := 199) C dX4_joined_115 rfl ?_
              exact m_lret C dX4_joined_199
          · refine m_tbl (n := 0) C dX4_joined_1 7 121 122 (by decide +kernel) ?_ (fun h_6 => ?_)
            · refine m_lload_n C dX4_joined_122 rfl ?_
              refine m_lload_n C dX4_joined_123 rfl ?_
              refine m_lcmp C dX4_joined_124 ?_
              refine m_if_lt (tgt := 132) C dX4_joined_125 rfl ?_ ?_
              · refine m_lconst C dX4_joined_132 cl_0 ?_
                refine m_goto (tgt := 199) C dX4_joined_133 rfl ?_
                exact m_lret C dX4_joined_199
              · refine m_lconst C dX4_joined_128 cl_1 ?_
                refine m_goto (tgt := 199) C dX4_joined_129 rfl ?_
                exact m_lret C dX4_joined_199
            · refine m_tbl (n := 0) C dX4_joined_1 8 135 136 (by decide +kernel) ?_ (fun h_7 => ?_)
              · refine m_lload_n C dX4_joined_136 rfl ?_
                refine m_lload_n C dX4_joined_137 rfl ?_
                refine m_lcmp C dX4_joined_138 ?_
                refine m_if_ne (tgt := 146) C dX4_joined_139 rfl ?_ ?_
                · refine m_lconst C dX4_joined_146 cl_0 ?_
                  refine m_goto (tgt := 199) C dX4_joined_147 rfl ?_
                  exact m_lret C dX4_joined_199
                · refine m_lconst C dX4_joined_142 cl_1 ?_
                  refine m_goto (tgt := 199) C dX4_joined_143 rfl ?_
                  exact m_lret C dX4_joined_199
              · refine m_tbl (n := 0) C dX4_joined_1 9 149 150 (by decide +kernel) ?_ (fun h_8 => ?_)
                · refine m_lload_n C dX4_joined_150 rfl ?_
                  refine m_lload_n C dX4_joined_151 rfl ?_
                  refine m_lcmp C dX4_joined_152 ?_
                  refine m_if_eq (tgt := 160) C dX4_joined_153 rfl ?_ ?_
                  · refine m_lconst C dX4_joined_160 cl_0 ?_
                    refine m_goto (tgt := 199) C dX4_joined_161 rfl ?_
                    exact m_lret C dX4_joined_199
                  · refine m_lconst C dX4_joined_156 cl_1 ?_
                    refine m_goto (tgt := 199) C dX4_joined_157 rfl ?_
                    exact m_lret C dX4_joined_199
                · refine m_tbl (n := 0) C dX4_joined_1 10 163 164 (by decide +kernel) ?_ (fun h_9 => ?_)
                  · refine m_lload_n C dX4_joined_164 rfl ?_
                    refine m_lload_n C dX4_joined_165 rfl ?_
                    refine m_ladd C dX4_joined_166 ?_
                    refine m_goto (tgt := 199) C dX4_joined_167 rfl ?_
                    exact m_lret C dX4_joined_199
                  · refine m_tbl (n := 0) C dX4_joined_1 11 169 170 (by decide +kernel) ?_ (fun h_10 => ?_)
                    · refine m_lload_n C dX4_joined_170 rfl ?_
                      refine m_lload_n C dX4_joined_171 rfl ?_
                      refine m_lsub C dX4_joined_172 ?_
                      refine m_goto (tgt := 199) C dX4_joined_173 rfl ?_
                      exact m_lret C dX4_joined_199
                    · refine m_tbl (n := 0) C dX4_joined_1 12 175 176 (by decide +kernel) ?_ (fun h_11 => ?_)
                      · refine m_lload_n C dX4_joined_176 rfl ?_
                        refine m_lload_n C dX4_joined_177 rfl ?_
                        refine m_lmul C dX4_joined_178 ?_
                        refine m_goto (tgt := 199) C dX4_joined_179 rfl ?_
                        exact m_lret C dX4_joined_199
                      · refine m_tbl (n := 0) C dX4_joined_1 13 181 182 (by decide +kernel) ?_ (fun h_13 => ?_)
                        · refine m_lload_n C dX4_joined_182 rfl ?_
                          refine m_lconst C dX4_joined_183 cl_0 ?_
                          refine m_lcmp C dX4_joined_184 ?_
                          refine m_if_ne (tgt := 192) C dX4_joined_185 rfl ?_ ?_
                          · refine m_lload_n C dX4_joined_192 rfl ?_
                            refine m_lload_n C dX4_joined_193 rfl ?_
                            refine m_chk (fun h_12 => ?_)
                            refine m_ldiv C dX4_joined_194 (by simpa using h_12) ?_
                            refine m_goto (tgt := 199) C dX4_joined_195 rfl ?_
                            exact m_lret C dX4_joined_199
                          · refine m_lconst C dX4_joined_188 cl_0 ?_
                            refine m_goto (tgt := 199) C dX4_joined_189 rfl ?_
                            exact m_lret C dX4_joined_199
                        · refine m_tblD C dX4_joined_1 198 rfl (tbl_dflt [1, 2, 4, 5, 6, 7, 8, 9, 10, 11, 12, 13] (fun w hw => by simp only [List.mem_cons, List.not_mem_nil, or_false] at hw; rcases hw with rfl | rfl | rfl | rfl | rfl | rfl | rfl | rfl | rfl | rfl | rfl | rfl <;> assumption) 12 (by decide) (by decide +kernel)) ?_
                          refine m_lconst C dX4_joined_198 cl_0 ?_
                          exact m_lret C dX4_joined_199
def fX5_clear (q0 : Nat) (s0 : Sg) : Option (Sg) :=
  bv (si s0 q0 1 0) fun s_1 =>
  bv (si s_1 q0 2 (-1)) fun s_2 =>
  bv (si s_2 q0 4 (-1)) fun s_3 =>
  bv (si s_3 q0 9 0) fun s_4 =>
  some s_4
theorem kX5_clear (l : Launch) (D : va_G) (ct : Nat → ClassId) (A : Nat → Nat) (q0 : Nat) (h_q0 : isScr q0 = true) (s0 : Sg) (o : Sg) (ho : fX5_clear q0 s0 = some o) : Con l yX5_clear cX5_clear 1 none 0 D ct A [.ref (A q0)] s0 (embV o) := by
  refine con_start (by decide +kernel) (Nat.le_of_ble_eq_true rfl) ho (fun p e s m args below meth c C => ?_)
  refine m_loc (L2 := [(0, .ref (A q0))]) [0] rfl ?_
  unfold fX5_clear
  refine m_aload_n C dX5_clear_0 rfl ?_
  refine m_iconst C dX5_clear_1 ci_0 ?_
  refine m_puti C fl_X5_24_5 fw_5_1 (lay_scr h_q0) (by decide) (fk_scr h_q0 1) dX5_clear_2 (fun s_1 => ?_)
  refine m_aload_n C dX5_clear_5 rfl ?_
  refine m_iconst C dX5_clear_6 ci_m1 ?_
  refine m_puti C fl_X5_28_5 fw_5_2 (lay_scr h_q0) (by decide) (fk_scr h_q0 2) dX5_clear_7 (fun s_2 => ?_)
  refine m_aload_n C dX5_clear_10 rfl ?_
  refine m_iconst C dX5_clear_11 ci_m1 ?_
  refine m_puti C fl_X5_31_5 fw_5_4 (lay_scr h_q0) (by decide) (fk_scr h_q0 4) dX5_clear_12 (fun s_3 => ?_)
  refine m_aload_n C dX5_clear_15 rfl ?_
  refine m_iconst C dX5_clear_16 ci_0 ?_
  refine m_puti C fl_X5_34_5 fw_5_9 (lay_scr h_q0) (by decide) (fk_scr h_q0 9) dX5_clear_17 (fun s_4 => ?_)
  exact m_vret C dX5_clear_20
def fX5_emit (q0 : Nat) (a1 : Int32) (s0 : Sg) : Option (Sg) :=
  if 300 ≤ (gi s0 q0 1) then
    some s0
  else
    chk (inb 300 (gi s0 q0 1)) <|
    bv (si s0 (q0 + 1) (ix (gi s0 q0 1)) a1) fun s_2 =>
    bv (si s_2 q0 1 ((gi s_2 q0 1) + 1)) fun s_3 =>
    some s_3
theorem kX5_emit (l : Launch) (D : va_G) (ct : Nat → ClassId) (A : Nat → Nat) (q0 : Nat) (a1 : Int32) (h_q0 : isScr q0 = true) (s0 : Sg) (o : Sg) (ho : fX5_emit q0 a1 s0 = some o) : Con l yX5_emit cX5_emit 2 none 0 D ct A [.ref (A q0), .int a1] s0 (embV o) := by
  refine con_start (by decide +kernel) (Nat.le_of_ble_eq_true rfl) ho (fun p e s m args below meth c C => ?_)
  refine m_loc (L2 := [(0, .ref (A q0)), (1, .int a1)]) [0, 1] rfl ?_
  unfold fX5_emit
  refine m_aload_n C dX5_emit_0 rfl ?_
  refine m_get (v := .int (gi s0 q0 1)) C fl_X5_24_5 (lay_scr h_q0) (by decide) (fv_scr h_q0 rfl) dX5_emit_1 ?_
  refine m_aload_n C dX5_emit_4 rfl ?_
  refine m_get (v := .ref (A (q0 + 1))) C fl_X5_9_5 (lay_scr h_q0) (by decide) (fv_scr h_q0 rfl) dX5_emit_5 ?_
  refine m_alen (v := 300) C (lay_cd (cd_scr h_q0)) (by decide) rfl (by decide +kernel) dX5_emit_8 ?_
  refine m_icmp_ge (tgt := 32) C dX5_emit_9 rfl ?_ ?_
  · exact m_vret C dX5_emit_32
  · refine m_aload_n C dX5_emit_12 rfl ?_
    refine m_get (v := .ref (A (q0 + 1))) C fl_X5_9_5 (lay_scr h_q0) (by decide) (fv_scr h_q0 rfl) dX5_emit_13 ?_
    refine m_aload_n C dX5_emit_16 rfl ?_
    refine m_get (v := .int (gi s0 q0 1)) C fl_X5_24_5 (lay_scr h_q0) (by decide) (fv_scr h_q0 rfl) dX5_emit_17 ?_
    refine m_iload_n C dX5_emit_20 rfl ?_
    refine m_chk (fun h_1 => ?_)
    refine m_iast C (lay_cd (cd_scr h_q0)) h_1 dX5_emit_21 (fun s_2 => ?_)
    refine m_aload_n C dX5_emit_22 rfl ?_
    refine m_dup C dX5_emit_23 rfl ?_
    refine m_get (v := .int (gi s_2 q0 1)) C fl_X5_24_5 (lay_scr h_q0) (by decide) (fv_scr h_q0 rfl) dX5_emit_24 ?_
    refine m_iconst C dX5_emit_27 ci_1 ?_
    refine m_iadd C dX5_emit_28 ?_
    refine m_puti C fl_X5_24_5 fw_5_1 (lay_scr h_q0) (by decide) (fk_scr h_q0 1) dX5_emit_29 (fun s_3 => ?_)
    exact m_vret C dX5_emit_32
def fX5_addClause (q0 : Nat) (a1 : Int32) (a2 : Int32) (a3 : Int32) (s0 : Sg) : Option (Sg) :=
  if 24 ≤ (gi s0 q0 9) then
    some s0
  else
    chk (inb 24 (gi s0 q0 9)) <|
    bv (si s0 (q0 + 2) (ix (gi s0 q0 9)) a1) fun s_2 =>
    chk (inb 24 (gi s_2 q0 9)) <|
    bv (si s_2 (q0 + 3) (ix (gi s_2 q0 9)) a2) fun s_4 =>
    chk (inb 24 (gi s_4 q0 9)) <|
    bv (si s_4 (q0 + 4) (ix (gi s_4 q0 9)) a3) fun s_6 =>
    bv (si s_6 q0 9 ((gi s_6 q0 9) + 1)) fun s_7 =>
    some s_7
theorem kX5_addClause (l : Launch) (D : va_G) (ct : Nat → ClassId) (A : Nat → Nat) (q0 : Nat) (a1 : Int32) (a2 : Int32) (a3 : Int32) (h_q0 : isScr q0 = true) (s0 : Sg) (o : Sg) (ho : fX5_addClause q0 a1 a2 a3 s0 = some o) : Con l yX5_addClause cX5_addClause 4 none 0 D ct A [.ref (A q0), .int a1, .int a2, .int a3] s0 (embV o) := by
  refine con_start (by decide +kernel) (Nat.le_of_ble_eq_true rfl) ho (fun p e s m args below meth c C => ?_)
  refine m_loc (L2 := [(0, .ref (A q0)), (1, .int a1), (2, .int a2), (3, .int a3)]) [0, 1, 2, 3] rfl ?_
  unfold fX5_addClause
  refine m_aload_n C dX5_addClause_0 rfl ?_
  refine m_get (v := .int (gi s0 q0 9)) C fl_X5_34_5 (lay_scr h_q0) (by decide) (fv_scr h_q0 rfl) dX5_addClause_1 ?_
  refine m_bipush C dX5_addClause_4 cb_24 ?_
  refine m_icmp_ge (tgt := 49) C dX5_addClause_6 rfl ?_ ?_
  · exact m_vret C dX5_addClause_49
  · refine m_aload_n C dX5_addClause_9 rfl ?_
    refine m_get (v := .ref (A (q0 + 2))) C fl_X5_15_5 (lay_scr h_q0) (by decide) (fv_scr h_q0 rfl) dX5_addClause_10 ?_
    refine m_aload_n C dX5_addClause_13 rfl ?_
    refine m_get (v := .int (gi s0 q0 9)) C fl_X5_34_5 (lay_scr h_q0) (by decide) (fv_scr h_q0 rfl) dX5_addClause_14 ?_
    refine m_iload_n C dX5_addClause_17 rfl ?_
    refine m_chk (fun h_1 => ?_)
    refine m_iast C (lay_scr2 h_q0).1 h_1 dX5_addClause_18 (fun s_2 => ?_)
    refine m_aload_n C dX5_addClause_19 rfl ?_
    refine m_get (v := .ref (A (q0 + 3))) C fl_X5_18_5 (lay_scr h_q0) (by decide) (fv_scr h_q0 rfl) dX5_addClause_20 ?_
    refine m_aload_n C dX5_addClause_23 rfl ?_
    refine m_get (v := .int (gi s_2 q0 9)) C fl_X5_34_5 (lay_scr h_q0) (by decide) (fv_scr h_q0 rfl) dX5_addClause_24 ?_
    refine m_iload_n C dX5_addClause_27 rfl ?_
    refine m_chk (fun h_3 => ?_)
    refine m_iast C (lay_scr2 h_q0).2.1 h_3 dX5_addClause_28 (fun s_4 => ?_)
    refine m_aload_n C dX5_addClause_29 rfl ?_
    refine m_get (v := .ref (A (q0 + 4))) C fl_X5_21_5 (lay_scr h_q0) (by decide) (fv_scr h_q0 rfl) dX5_addClause_30 ?_
    refine m_aload_n C dX5_addClause_33 rfl ?_
    refine m_get (v := .int (gi s_4 q0 9)) C fl_X5_34_5 (lay_scr h_q0) (by decide) (fv_scr h_q0 rfl) dX5_addClause_34 ?_
    refine m_iload_n C dX5_addClause_37 rfl ?_
    refine m_chk (fun h_5 => ?_)
    refine m_iast C (lay_scr2 h_q0).2.2 h_5 dX5_addClause_38 (fun s_6 => ?_)
    refine m_aload_n C dX5_addClause_39 rfl ?_
    refine m_dup C dX5_addClause_40 rfl ?_
    refine m_get (v := .int (gi s_6 q0 9)) C fl_X5_34_5 (lay_scr h_q0) (by decide) (fv_scr h_q0 rfl) dX5_addClause_41 ?_
    refine m_iconst C dX5_addClause_44 ci_1 ?_
    refine m_iadd C dX5_addClause_45 ?_
    refine m_puti C fl_X5_34_5 fw_5_9 (lay_scr h_q0) (by decide) (fk_scr h_q0 9) dX5_addClause_46 (fun s_7 => ?_)
    exact m_vret C dX5_addClause_49
def fX6_keepStep (s0 : Sg) : Option (Sg) :=
  bv (fun (s_1 : Sg) => 
    chk (inb 40 (gi s_1 1 15)) <|
    bv (si s_1 11 (ix (gi s_1 1 15)) (((gi s_1 1 9) ||| ((gi s_1 1 10) <<< (12 &&& 31))) ||| ((gi s_1 1 3) <<< (24 &&& 31)))) fun s_4 =>
    bv (si s_4 1 15 ((gi s_4 1 15) + 1)) fun s_5 =>
    some s_5)
  fun k_2 =>
  if (gi s0 1 15) = 40 then
    bv (sa s0 11 (va_cpy (gi s0 11) (gi s0 11) (ix 1) (ix 0) (ix 39))) fun s_6 =>
    bv (si s_6 1 15 ((gi s_6 1 15) - 1)) fun s_7 =>
    k_2 s_7
  else
    k_2 s0
theorem kX6_keepStep (l : Launch) (D : va_G) (ct : Nat → ClassId) (A : Nat → Nat) (s0 : Sg) (o : Sg) (ho : fX6_keepStep s0 = some o) : Con l yX6_keepStep cX6_keepStep 1 none 1 D ct A [.ref (A 1)] s0 (embV o) := by
  refine con_start (by decide +kernel) (Nat.le_of_ble_eq_true rfl) ho (fun p e s m args below meth c C => ?_)
  refine m_loc (L2 := [(0, .ref (A 1))]) [0] rfl ?_
  unfold fX6_keepStep
  refine m_aload_n C dX6_keepStep_0 rfl ?_
  refine m_get (v := .int (gi s0 1 15)) C fl_X6_58_6 rfl (by decide) rfl dX6_keepStep_1 ?_
  refine m_bipush C dX6_keepStep_4 cb_40 ?_
  refine m_jn (P := fun (k_2 : Sg → Option (Sg)) => ∀ (s_1 : Sg), Wm p l e (rmD 1) s m args below meth c D ct A 1 embV 34 [(0, .ref (A 1))] [] s_1 (k_2 s_1)) ?_ (fun k_2 hk_2 => ?_)
  · intro s_1
    refine m_aload_n C dX6_keepStep_34 rfl ?_
    refine m_get (v := .ref (A 11)) C fl_X6_22_6 rfl (by decide) rfl dX6_keepStep_35 ?_
    refine m_aload_n C dX6_keepStep_38 rfl ?_
    refine m_get (v := .int (gi s_1 1 15)) C fl_X6_58_6 rfl (by decide) rfl dX6_keepStep_39 ?_
    refine m_aload_n C dX6_keepStep_42 rfl ?_
    refine m_get (v := .int (gi s_1 1 9)) C fl_X6_45_6 rfl (by decide) rfl dX6_keepStep_43 ?_
    refine m_aload_n C dX6_keepStep_46 rfl ?_
    refine m_get (v := .int (gi s_1 1 10)) C fl_X6_48_6 rfl (by decide) rfl dX6_keepStep_47 ?_
    refine m_bipush C dX6_keepStep_50 cb_12 ?_
    refine m_ishl C dX6_keepStep_52 ?_
    refine m_ior C dX6_keepStep_53 ?_
    refine m_aload_n C dX6_keepStep_54 rfl ?_
    refine m_get (v := .int (gi s_1 1 3)) C fl_X6_72_6 rfl (by decide) rfl dX6_keepStep_55 ?_
    refine m_bipush C dX6_keepStep_58 cb_24 ?_
    refine m_ishl C dX6_keepStep_60 ?_
    refine m_ior C dX6_keepStep_61 ?_
    refine m_chk (fun h_3 => ?_)
    refine m_iast C rfl h_3 dX6_keepStep_62 (fun s_4 => ?_)
    refine m_aload_n C dX6_keepStep_63 rfl ?_
    refine m_dup C dX6_keepStep_64 rfl ?_
    refine m_get (v := .int (gi s_4 1 15)) C fl_X6_58_6 rfl (by decide) rfl dX6_keepStep_65 ?_
    refine m_iconst C dX6_keepStep_68 ci_1 ?_
    refine m_iadd C dX6_keepStep_69 ?_
    refine m_puti C fl_X6_58_6 fw_6_15 rfl (by decide) rfl dX6_keepStep_70 (fun s_5 => ?_)
    exact m_vret C dX6_keepStep_73
  refine m_icmp_ne (tgt := 34) C dX6_keepStep_6 rfl ?_ ?_
  · refine m_loc (L2 := [(0, .ref (A 1))]) [0] rfl ?_
    exact hk_2 s0
  · refine m_aload_n C dX6_keepStep_9 rfl ?_
    refine m_get (v := .ref (A 11)) C fl_X6_22_6 rfl (by decide) rfl dX6_keepStep_10 ?_
    refine m_iconst C dX6_keepStep_13 ci_1 ?_
    refine m_aload_n C dX6_keepStep_14 rfl ?_
    refine m_get (v := .ref (A 11)) C fl_X6_22_6 rfl (by decide) rfl dX6_keepStep_15 ?_
    refine m_iconst C dX6_keepStep_18 ci_0 ?_
    refine m_bipush C dX6_keepStep_19 cb_39 ?_
    refine m_copy C wd_681 rfl rfl (by decide +kernel) ⟨by decide, Nat.le_of_ble_eq_true rfl⟩ cp_w dX6_keepStep_21 (fun s_6 => ?_)
    refine m_aload_n C dX6_keepStep_24 rfl ?_
    refine m_dup C dX6_keepStep_25 rfl ?_
    refine m_get (v := .int (gi s_6 1 15)) C fl_X6_58_6 rfl (by decide) rfl dX6_keepStep_26 ?_
    refine m_iconst C dX6_keepStep_29 ci_1 ?_
    refine m_isub C dX6_keepStep_30 ?_
    refine m_puti C fl_X6_58_6 fw_6_15 rfl (by decide) rfl dX6_keepStep_31 (fun s_7 => ?_)
    refine m_loc (L2 := [(0, .ref (A 1))]) [0] rfl ?_
    exact hk_2 s_7
def fX6_stepBack (s0 : Sg) : Option (Bool × Sg) :=
  if (gi s0 1 15) = 0 then
    some (false, s0)
  else
    bv (si s0 1 15 ((gi s0 1 15) - 1)) fun s_1 =>
    chk (inb 40 (gi s_1 1 15)) <|
    bv (gi s_1 11 (ix (gi s_1 1 15))) fun v_3 =>
    bv (si s_1 1 9 (v_3 &&& 4095)) fun s_4 =>
    bv (si s_4 1 10 ((v_3 >>> (12 &&& 31)) &&& 4095)) fun s_5 =>
    bv (si s_5 1 3 (v_3 >>> (24 &&& 31))) fun s_6 =>
    some (true, s_6)
theorem kX6_stepBack (l : Launch) (D : va_G) (ct : Nat → ClassId) (A : Nat → Nat) (s0 : Sg) (o : Bool × Sg) (ho : fX6_stepBack s0 = some o) : Con l yX6_stepBack cX6_stepBack 3 (some .boolean) 0 D ct A [.ref (A 1)] s0 (embZ o) := by
  refine con_start (by decide +kernel) (Nat.le_of_ble_eq_true rfl) ho (fun p e s m args below meth c C => ?_)
  refine m_loc (L2 := [(0, .ref (A 1))]) [0] rfl ?_
  unfold fX6_stepBack
  refine m_aload_n C dX6_stepBack_0 rfl ?_
  refine m_get (v := .int (gi s0 1 15)) C fl_X6_58_6 rfl (by decide) rfl dX6_stepBack_1 ?_
  refine m_if_ne (tgt := 9) C dX6_stepBack_4 rfl ?_ ?_
  · refine m_aload_n C dX6_stepBack_9 rfl ?_
    refine m_dup C dX6_stepBack_10 rfl ?_
    refine m_get (v := .int (gi s0 1 15)) C fl_X6_58_6 rfl (by decide) rfl dX6_stepBack_11 ?_
    refine m_iconst C dX6_stepBack_14 ci_1 ?_
    refine m_isub C dX6_stepBack_15 ?_
    refine m_puti C fl_X6_58_6 fw_6_15 rfl (by decide) rfl dX6_stepBack_16 (fun s_1 => ?_)
    refine m_aload_n C dX6_stepBack_19 rfl ?_
    refine m_get (v := .ref (A 11)) C fl_X6_22_6 rfl (by decide) rfl dX6_stepBack_20 ?_
    refine m_aload_n C dX6_stepBack_23 rfl ?_
    refine m_get (v := .int (gi s_1 1 15)) C fl_X6_58_6 rfl (by decide) rfl dX6_stepBack_24 ?_
    refine m_chk (fun h_2 => ?_)
    refine m_iald C rfl h_2 dX6_stepBack_27 ?_
    refine m_let (fun v_3 => ?_)
    refine m_istore_n (L2 := [(1, .int v_3), (0, .ref (A 1))]) C dX6_stepBack_28 rfl (by decide) rfl ?_
    refine m_sipush C dX6_stepBack_29 cs_4095 ?_
    refine m_istore_n (L2 := [(2, .int 4095), (1, .int v_3), (0, .ref (A 1))]) C dX6_stepBack_32 rfl (by decide) rfl ?_
    refine m_aload_n C dX6_stepBack_33 rfl ?_
    refine m_iload_n C dX6_stepBack_34 rfl ?_
    refine m_iload_n C dX6_stepBack_35 rfl ?_
    refine m_iand C dX6_stepBack_36 ?_
    refine m_puti C fl_X6_45_6 fw_6_9 rfl (by decide) rfl dX6_stepBack_37 (fun s_4 => ?_)
    refine m_aload_n C dX6_stepBack_40 rfl ?_
    refine m_iload_n C dX6_stepBack_41 rfl ?_
    refine m_bipush C dX6_stepBack_42 cb_12 ?_
    refine m_ishr C dX6_stepBack_44 ?_
    refine m_iload_n C dX6_stepBack_45 rfl ?_
    refine m_iand C dX6_stepBack_46 ?_
    refine m_puti C fl_X6_48_6 fw_6_10 rfl (by decide) rfl dX6_stepBack_47 (fun s_5 => ?_)
    refine m_aload_n C dX6_stepBack_50 rfl ?_
    refine m_iload_n C dX6_stepBack_51 rfl ?_
    refine m_bipush C dX6_stepBack_52 cb_24 ?_
    refine m_ishr C dX6_stepBack_54 ?_
    refine m_puti C fl_X6_72_6 fw_6_3 rfl (by decide) rfl dX6_stepBack_55 (fun s_6 => ?_)
    refine m_iconst C dX6_stepBack_58 ci_1 ?_
    exact m_zret C true rfl dX6_stepBack_59
  · refine m_iconst C dX6_stepBack_7 ci_0 ?_
    exact m_zret C false rfl dX6_stepBack_8
def fX7_append_3_b (a1 : Int32) (rec3 : Int32 → Sg → Option (Sg)) (x2_1 : Int32) (s_2 : Sg) : Option (Sg) :=
  if x2_1 < 0 then
    some s_2
  else
    if 300 ≤ (gi s_2 3 1) then
      some s_2
    else
      chk (inb 300 (gi s_2 3 1)) <|
      bv (si s_2 17 (ix (gi s_2 3 1)) (vp_nar .byte ((Int32.toInt8 (a1 >>> (x2_1 &&& 31))).toInt32))) fun s_4 =>
      bv (si s_4 3 1 ((gi s_4 3 1) + 1)) fun s_5 =>
      bv (x2_1 + (-8)) fun v_6 =>
      rec3 v_6 s_5
def fX7_append (a1 : Int32) (s0 : Sg) : Option (Sg) :=
  lo2 (fX7_append_3_b a1) FU 24 s0
theorem wX7_append_3 {p : Program} {l : Launch} {e : Env} {s : State} {m : MethodId} {args : Array Value} {below : List Frame} {meth : Method} {c : Code} {D : va_G} {ct : Nat → ClassId} {A : Nat → Nat} (C : Cx p m c cX7_append 3 s args yX7_append.cls meth none D ct A) (a1 : Int32) : ∀ (n : Nat) (x2_1 : Int32) (s_2 : Sg), Wm p l e (rmD 0) s m args below meth c D ct A 3 embV 3 [(0, .ref (A 3)), (1, .int a1), (2, .int x2_1)] [] s_2 (lo2 (fX7_append_3_b a1) n x2_1 s_2) := by
  intro n
  induction n with
  | zero => intro x2_1 s_2; exact m_none
  | succ n hrec3 =>
    intro x2_1 s_2
    refine (show Wm p l e (rmD 0) s m args below meth c D ct A 3 embV 3 [(0, .ref (A 3)), (1, .int a1), (2, .int x2_1)] [] s_2 (fX7_append_3_b a1 (lo2 (fX7_append_3_b a1) n) x2_1 s_2) from ?_)
    generalize lo2 (fX7_append_3_b a1) n = rec3 at hrec3 ⊢
    unfold fX7_append_3_b
    refine m_iload_n C dX7_append_3 rfl ?_
    refine m_if_lt (tgt := 48) C dX7_append_4 rfl ?_ ?_
    · exact m_vret C dX7_append_48
    · refine m_aload_n C dX7_append_7 rfl ?_
      refine m_get (v := .int (gi s_2 3 1)) C fl_X7_15_7 rfl (by decide) rfl dX7_append_8 ?_
      refine m_aload_n C dX7_append_11 rfl ?_
      refine m_get (v := .ref (A 17)) C fl_X7_9_7 rfl (by decide) rfl dX7_append_12 ?_
      refine m_alen (v := 300) C rfl (by decide) rfl (by decide +kernel) dX7_append_15 ?_
      refine m_icmp_ge (tgt := 48) C dX7_append_16 rfl ?_ ?_
      · exact m_vret C dX7_append_48
      · refine m_aload_n C dX7_append_19 rfl ?_
        refine m_get (v := .ref (A 17)) C fl_X7_9_7 rfl (by decide) rfl dX7_append_20 ?_
        refine m_aload_n C dX7_append_23 rfl ?_
        refine m_get (v := .int (gi s_2 3 1)) C fl_X7_15_7 rfl (by decide) rfl dX7_append_24 ?_
        refine m_iload_n C dX7_append_27 rfl ?_
        refine m_iload_n C dX7_append_28 rfl ?_
        refine m_ishr C dX7_append_29 ?_
        refine m_i2b C dX7_append_30 ?_
        refine m_chk (fun h_3 => ?_)
        refine m_bast C rfl h_3 dX7_append_31 (fun s_4 => ?_)
        refine m_aload_n C dX7_append_32 rfl ?_
        refine m_dup C dX7_append_33 rfl ?_
        refine m_get (v := .int (gi s_4 3 1)) C fl_X7_15_7 rfl (by decide) rfl dX7_append_34 ?_
        refine m_iconst C dX7_append_37 ci_1 ?_
        refine m_iadd C dX7_append_38 ?_
        refine m_puti C fl_X7_15_7 fw_7_1 rfl (by decide) rfl dX7_append_39 (fun s_5 => ?_)
        refine m_iincb (L2 := fun v_6 => [(2, .int v_6), (0, .ref (A 3)), (1, .int a1)]) (q := 2) C dX7_append_42 rfl ci_m8 (by decide) (fun _ => rfl) (fun v_6 => ?_)
        refine m_goto (tgt := 3) C dX7_append_45 rfl ?_
        refine m_loc (L2 := [(0, .ref (A 3)), (1, .int a1), (2, .int v_6)]) [1, 2, 0] rfl ?_
        exact hrec3 v_6 s_5
theorem kX7_append (l : Launch) (D : va_G) (ct : Nat → ClassId) (A : Nat → Nat) (a1 : Int32) (s0 : Sg) (o : Sg) (ho : fX7_append a1 s0 = some o) : Con l yX7_append cX7_append 3 none 0 D ct A [.ref (A 3), .int a1] s0 (embV o) := by
  refine con_start (by decide +kernel) (Nat.le_of_ble_eq_true rfl) ho (fun p e s m args below meth c C => ?_)
  refine m_loc (L2 := [(0, .ref (A 3)), (1, .int a1)]) [0, 1] rfl ?_
  unfold fX7_append
  refine m_bipush C dX7_append_0 cb_24 ?_
  refine m_istore_n (L2 := [(2, .int 24), (0, .ref (A 3)), (1, .int a1)]) C dX7_append_2 rfl (by decide) rfl ?_
  refine m_loc (L2 := [(0, .ref (A 3)), (1, .int a1), (2, .int 24)]) [1, 2, 0] rfl ?_
  exact wX7_append_3 C a1 FU 24 s0
def fX7_signToken (a1 : Int32) (a2 : Int32) (s0 : Sg) : Option (Int32 × Sg) :=
  if a1 = 35 then
    some (9, s0)
  else
    if a1 = 40 then
      some (0, s0)
    else
      if a1 = 41 then
        some (15, s0)
      else
        if a1 = 42 then
          some (12, s0)
        else
          if a1 = 43 then
            some (10, s0)
          else
            if a1 = 45 then
              some (11, s0)
            else
              if a1 = 47 then
                some (13, s0)
              else
                if a1 = 59 then
                  some (16, s0)
                else
                  if a1 = 60 then
                    if a2 = 0 then
                      some (4, s0)
                    else
                      some (5, s0)
                  else
                    if a1 = 61 then
                      some (8, s0)
                    else
                      if a1 = 62 then
                        if a2 = 0 then
                          some (6, s0)
                        else
                          some (7, s0)
                      else
                        some (25, s0)
theorem kX7_signToken (l : Launch) (D : va_G) (ct : Nat → ClassId) (A : Nat → Nat) (a1 : Int32) (a2 : Int32) (s0 : Sg) (o : Int32 × Sg) (ho : fX7_signToken a1 a2 s0 = some o) : Con l yX7_signToken cX7_signToken 2 (some .int) 0 D ct A [.int a1, .int a2] s0 (embI o) := by
  refine con_start (by decide +kernel) (Nat.le_of_ble_eq_true rfl) ho (fun p e s m args below meth c C => ?_)
  refine m_loc (L2 := [(0, .int a1), (1, .int a2)]) [0, 1] rfl ?_
  unfold fX7_signToken
  refine m_iload_n C dX7_signToken_0 rfl ?_
  refine m_tbl (n := 0) C dX7_signToken_1 35 158 159 (by decide +kernel) ?_ (fun h_1 => ?_)
  · refine m_bipush C dX7_signToken_159 cb_9 ?_
    refine m_goto (tgt := 200) C dX7_signToken_161 rfl ?_
    exact m_iret C dX7_signToken_200
  · refine m_tbl (n := 0) C dX7_signToken_1 40 183 184 (by decide +kernel) ?_ (fun h_2 => ?_)
    · refine m_iconst C dX7_signToken_184 ci_0 ?_
      refine m_goto (tgt := 200) C dX7_signToken_185 rfl ?_
      exact m_iret C dX7_signToken_200
    · refine m_tbl (n := 0) C dX7_signToken_1 41 187 188 (by decide +kernel) ?_ (fun h_3 => ?_)
      · refine m_bipush C dX7_signToken_188 cb_15 ?_
        refine m_goto (tgt := 200) C dX7_signToken_190 rfl ?_
        exact m_iret C dX7_signToken_200
      · refine m_tbl (n := 0) C dX7_signToken_1 42 173 174 (by decide +kernel) ?_ (fun h_4 => ?_)
        · refine m_bipush C dX7_signToken_174 cb_12 ?_
          refine m_goto (tgt := 200) C dX7_signToken_176 rfl ?_
          exact m_iret C dX7_signToken_200
        · refine m_tbl (n := 0) C dX7_signToken_1 43 163 164 (by decide +kernel) ?_ (fun h_5 => ?_)
          · refine m_bipush C dX7_signToken_164 cb_10 ?_
            refine m_goto (tgt := 200) C dX7_signToken_166 rfl ?_
            exact m_iret C dX7_signToken_200
          · refine m_tbl (n := 0) C dX7_signToken_1 45 168 169 (by decide +kernel) ?_ (fun h_6 => ?_)
            · refine m_bipush C dX7_signToken_169 cb_11 ?_
              refine m_goto (tgt := 200) C dX7_signToken_171 rfl ?_
              exact m_iret C dX7_signToken_200
            · refine m_tbl (n := 0) C dX7_signToken_1 47 178 179 (by decide +kernel) ?_ (fun h_7 => ?_)
              · refine m_bipush C dX7_signToken_179 cb_13 ?_
                refine m_goto (tgt := 200) C dX7_signToken_181 rfl ?_
                exact m_iret C dX7_signToken_200
              · refine m_tbl (n := 0) C dX7_signToken_1 59 192 193 (by decide +kernel) ?_ (fun h_8 => ?_)
                · refine m_bipush C dX7_signToken_193 cb_16 ?_
                  refine m_goto (tgt := 200) C dX7_signToken_195 rfl ?_
                  exact m_iret C dX7_signToken_200
                · refine m_tbl (n := 0) C dX7_signToken_1 60 127 128 (by decide +kernel) ?_ (fun h_9 => ?_)
                  · refine m_iload_n C dX7_signToken_128 rfl ?_
                    refine m_if_eq (tgt := 136) C dX7_signToken_129 rfl ?_ ?_
                    · refine m_iconst C dX7_signToken_136 ci_4 ?_
                      refine m_goto (tgt := 200) C dX7_signToken_137 rfl ?_
                      exact m_iret C dX7_signToken_200
                    · refine m_iconst C dX7_signToken_132 ci_5 ?_
                      refine m_goto (tgt := 200) C dX7_signToken_133 rfl ?_
                      exact m_iret C dX7_signToken_200
                  · refine m_tbl (n := 0) C dX7_signToken_1 61 153 154 (by decide +kernel) ?_ (fun h_10 => ?_)
                    · refine m_bipush C dX7_signToken_154 cb_8 ?_
                      refine m_goto (tgt := 200) C dX7_signToken_156 rfl ?_
                      exact m_iret C dX7_signToken_200
                    · refine m_tbl (n := 0) C dX7_signToken_1 62 139 140 (by decide +kernel) ?_ (fun h_11 => ?_)
                      · refine m_iload_n C dX7_signToken_140 rfl ?_
                        refine m_if_eq (tgt := 149) C dX7_signToken_141 rfl ?_ ?_
                        · refine m_bipush C dX7_signToken_149 cb_6 ?_
                          refine m_goto (tgt := 200) C dX7_signToken_151 rfl ?_
                          exact m_iret C dX7_signToken_200
                        · refine m_bipush C dX7_signToken_144 cb_7 ?_
                          refine m_goto (tgt := 200) C dX7_signToken_146 rfl ?_
                          exact m_iret C dX7_signToken_200
                      · refine m_tblD C dX7_signToken_1 198 rfl (tbl_dflt [35, 40, 41, 42, 43, 45, 47, 59, 60, 61, 62] (fun w hw => by simp only [List.mem_cons, List.not_mem_nil, or_false] at hw; rcases hw with rfl | rfl | rfl | rfl | rfl | rfl | rfl | rfl | rfl | rfl | rfl <;> assumption) 27 (by decide) (by decide +kernel)) ?_
                        refine m_bipush C dX7_signToken_198 cb_25 ?_
                        exact m_iret C dX7_signToken_200
def fX7_isLetter (a1 : Int32) (s0 : Sg) : Option (Bool × Sg) :=
  bv (
    if a1 < 65 then
      some (false, s0)
    else
      if 90 < a1 then
        some (false, s0)
      else
        some (true, s0))
  fun k_1 =>
  if a1 < 97 then
    k_1
  else
    if a1 ≤ 122 then
      some (true, s0)
    else
      k_1
theorem kX7_isLetter (l : Launch) (D : va_G) (ct : Nat → ClassId) (A : Nat → Nat) (a1 : Int32) (s0 : Sg) (o : Bool × Sg) (ho : fX7_isLetter a1 s0 = some o) : Con l yX7_isLetter cX7_isLetter 1 (some .boolean) 0 D ct A [.int a1] s0 (embZ o) := by
  refine con_start (by decide +kernel) (Nat.le_of_ble_eq_true rfl) ho (fun p e s m args below meth c C => ?_)
  refine m_loc (L2 := [(0, .int a1)]) [0] rfl ?_
  unfold fX7_isLetter
  refine m_iload_n C dX7_isLetter_0 rfl ?_
  refine m_bipush C dX7_isLetter_1 cb_97 ?_
  refine m_jn (P := fun (k_1 : Option (Bool × Sg)) => Wm p l e (rmD 0) s m args below meth c D ct A 1 embZ 12 [(0, .int a1)] [] s0 (k_1)) ?_ (fun k_1 hk_1 => ?_)
  · refine m_iload_n C dX7_isLetter_12 rfl ?_
    refine m_bipush C dX7_isLetter_13 cb_65 ?_
    refine m_icmp_lt (tgt := 28) C dX7_isLetter_15 rfl ?_ ?_
    · refine m_iconst C dX7_isLetter_28 ci_0 ?_
      exact m_zret C false rfl dX7_isLetter_29
    · refine m_iload_n C dX7_isLetter_18 rfl ?_
      refine m_bipush C dX7_isLetter_19 cb_90 ?_
      refine m_icmp_gt (tgt := 28) C dX7_isLetter_21 rfl ?_ ?_
      · refine m_iconst C dX7_isLetter_28 ci_0 ?_
        exact m_zret C false rfl dX7_isLetter_29
      · refine m_iconst C dX7_isLetter_24 ci_1 ?_
        refine m_goto (tgt := 29) C dX7_isLetter_25 rfl ?_
        exact m_zret C true rfl dX7_isLetter_29
  refine m_icmp_lt (tgt := 12) C dX7_isLetter_3 rfl ?_ ?_
  · refine m_loc (L2 := [(0, .int a1)]) [0] rfl ?_
    exact hk_1
  · refine m_iload_n C dX7_isLetter_6 rfl ?_
    refine m_bipush C dX7_isLetter_7 cb_122 ?_
    refine m_icmp_le (tgt := 24) C dX7_isLetter_9 rfl ?_ ?_
    · refine m_iconst C dX7_isLetter_24 ci_1 ?_
      refine m_goto (tgt := 29) C dX7_isLetter_25 rfl ?_
      exact m_zret C true rfl dX7_isLetter_29
    · refine m_loc (L2 := [(0, .int a1)]) [0] rfl ?_
      exact hk_1
def fX7_isDigit (a1 : Int32) (s0 : Sg) : Option (Bool × Sg) :=
  if a1 < 48 then
    some (false, s0)
  else
    if 57 < a1 then
      some (false, s0)
    else
      some (true, s0)
theorem kX7_isDigit (l : Launch) (D : va_G) (ct : Nat → ClassId) (A : Nat → Nat) (a1 : Int32) (s0 : Sg) (o : Bool × Sg) (ho : fX7_isDigit a1 s0 = some o) : Con l yX7_isDigit cX7_isDigit 1 (some .boolean) 0 D ct A [.int a1] s0 (embZ o) := by
  refine con_start (by decide +kernel) (Nat.le_of_ble_eq_true rfl) ho (fun p e s m args below meth c C => ?_)
  refine m_loc (L2 := [(0, .int a1)]) [0] rfl ?_
  unfold fX7_isDigit
  refine m_iload_n C dX7_isDigit_0 rfl ?_
  refine m_bipush C dX7_isDigit_1 cb_48 ?_
  refine m_icmp_lt (tgt := 16) C dX7_isDigit_3 rfl ?_ ?_
  · refine m_iconst C dX7_isDigit_16 ci_0 ?_
    exact m_zret C false rfl dX7_isDigit_17
  · refine m_iload_n C dX7_isDigit_6 rfl ?_
    refine m_bipush C dX7_isDigit_7 cb_57 ?_
    refine m_icmp_gt (tgt := 16) C dX7_isDigit_9 rfl ?_ ?_
    · refine m_iconst C dX7_isDigit_16 ci_0 ?_
      exact m_zret C false rfl dX7_isDigit_17
    · refine m_iconst C dX7_isDigit_12 ci_1 ?_
      refine m_goto (tgt := 17) C dX7_isDigit_13 rfl ?_
      exact m_zret C true rfl dX7_isDigit_17
def fX8_copyWorld_r (q0 : Nat) (s0 : Sg) : Option (Sg) :=
  bv (si s0 q0 0 (gi s0 1 0)) fun s_1 =>
  bv (si s_1 q0 1 (gi s_1 1 1)) fun s_2 =>
  bv (si s_2 q0 2 (gi s_2 1 2)) fun s_3 =>
  bv (si s_3 q0 3 (gi s_3 1 3)) fun s_4 =>
  bv (si s_4 q0 4 (gi s_4 1 4)) fun s_5 =>
  bv (si s_5 q0 5 (gi s_5 1 5)) fun s_6 =>
  some s_6
theorem kX8_copyWorld_r (l : Launch) (D : va_G) (ct : Nat → ClassId) (A : Nat → Nat) (q0 : Nat) (h_q0 : isRd q0 = true) (s0 : Sg) (o : Sg) (ho : fX8_copyWorld_r q0 s0 = some o) : Con l yX8_copyWorld cX8_copyWorld 2 none 0 D ct A [.ref (A q0), .ref (A 1)] s0 (embV o) := by
  refine con_start (by decide +kernel) (Nat.le_of_ble_eq_true rfl) ho (fun p e s m args below meth c C => ?_)
  refine m_loc (L2 := [(0, .ref (A q0)), (1, .ref (A 1))]) [0, 1] rfl ?_
  unfold fX8_copyWorld_r
  refine m_aload_n C dX8_copyWorld_0 rfl ?_
  refine m_aload_n C dX8_copyWorld_1 rfl ?_
  refine m_get (v := .int (gi s0 1 0)) C fl_X8_7_6 rfl (by decide) rfl dX8_copyWorld_2 ?_
  refine m_puti C fl_X8_7_3 fw_3_0 (lay_rd h_q0) (by decide) (fk_rd h_q0 0) dX8_copyWorld_5 (fun s_1 => ?_)
  refine m_aload_n C dX8_copyWorld_8 rfl ?_
  refine m_aload_n C dX8_copyWorld_9 rfl ?_
  refine m_get (v := .int (gi s_1 1 1)) C fl_X8_13_6 rfl (by decide) rfl dX8_copyWorld_10 ?_
  refine m_puti C fl_X8_13_3 fw_3_1 (lay_rd h_q0) (by decide) (fk_rd h_q0 1) dX8_copyWorld_13 (fun s_2 => ?_)
  refine m_aload_n C dX8_copyWorld_16 rfl ?_
  refine m_aload_n C dX8_copyWorld_17 rfl ?_
  refine m_get (v := .int (gi s_2 1 2)) C fl_X8_16_6 rfl (by decide) rfl dX8_copyWorld_18 ?_
  refine m_puti C fl_X8_16_3 fw_3_2 (lay_rd h_q0) (by decide) (fk_rd h_q0 2) dX8_copyWorld_21 (fun s_3 => ?_)
  refine m_aload_n C dX8_copyWorld_24 rfl ?_
  refine m_aload_n C dX8_copyWorld_25 rfl ?_
  refine m_get (v := .int (gi s_3 1 3)) C fl_X8_19_6 rfl (by decide) rfl dX8_copyWorld_26 ?_
  refine m_puti C fl_X8_19_3 fw_3_3 (lay_rd h_q0) (by decide) (fk_rd h_q0 3) dX8_copyWorld_29 (fun s_4 => ?_)
  refine m_aload_n C dX8_copyWorld_32 rfl ?_
  refine m_aload_n C dX8_copyWorld_33 rfl ?_
  refine m_get (v := .int (gi s_4 1 4)) C fl_X8_22_6 rfl (by decide) rfl dX8_copyWorld_34 ?_
  refine m_puti C fl_X8_22_3 fw_3_4 (lay_rd h_q0) (by decide) (fk_rd h_q0 4) dX8_copyWorld_37 (fun s_5 => ?_)
  refine m_aload_n C dX8_copyWorld_40 rfl ?_
  refine m_aload_n C dX8_copyWorld_41 rfl ?_
  refine m_get (v := .int (gi s_5 1 5)) C fl_X8_25_6 rfl (by decide) rfl dX8_copyWorld_42 ?_
  refine m_puti C fl_X8_25_3 fw_3_5 (lay_rd h_q0) (by decide) (fk_rd h_q0 5) dX8_copyWorld_45 (fun s_6 => ?_)
  exact m_vret C dX8_copyWorld_48
def fX8_copyWorld_q (q0 : Nat) (a1 : Nat) (s0 : Sg) : Option (Sg) :=
  bv (si s0 q0 0 (gi s0 a1 0)) fun s_1 =>
  bv (si s_1 q0 1 (gi s_1 a1 1)) fun s_2 =>
  bv (si s_2 q0 2 (gi s_2 a1 2)) fun s_3 =>
  bv (si s_3 q0 3 (gi s_3 a1 3)) fun s_4 =>
  bv (si s_4 q0 4 (gi s_4 a1 4)) fun s_5 =>
  bv (si s_5 q0 5 (gi s_5 a1 5)) fun s_6 =>
  some s_6
theorem kX8_copyWorld_q (l : Launch) (D : va_G) (ct : Nat → ClassId) (A : Nat → Nat) (q0 : Nat) (a1 : Nat) (h_q0 : isRd q0 = true) (h_a1 : isRd a1 = true) (s0 : Sg) (o : Sg) (ho : fX8_copyWorld_q q0 a1 s0 = some o) : Con l yX8_copyWorld cX8_copyWorld 2 none 0 D ct A [.ref (A q0), .ref (A a1)] s0 (embV o) := by
  refine con_start (by decide +kernel) (Nat.le_of_ble_eq_true rfl) ho (fun p e s m args below meth c C => ?_)
  refine m_loc (L2 := [(0, .ref (A q0)), (1, .ref (A a1))]) [0, 1] rfl ?_
  unfold fX8_copyWorld_q
  refine m_aload_n C dX8_copyWorld_0 rfl ?_
  refine m_aload_n C dX8_copyWorld_1 rfl ?_
  refine m_get (v := .int (gi s0 a1 0)) C fl_X8_7_3 (lay_rd h_a1) (by decide) (fv_rd h_a1 0) dX8_copyWorld_2 ?_
  refine m_puti C fl_X8_7_3 fw_3_0 (lay_rd h_q0) (by decide) (fk_rd h_q0 0) dX8_copyWorld_5 (fun s_1 => ?_)
  refine m_aload_n C dX8_copyWorld_8 rfl ?_
  refine m_aload_n C dX8_copyWorld_9 rfl ?_
  refine m_get (v := .int (gi s_1 a1 1)) C fl_X8_13_3 (lay_rd h_a1) (by decide) (fv_rd h_a1 1) dX8_copyWorld_10 ?_
  refine m_puti C fl_X8_13_3 fw_3_1 (lay_rd h_q0) (by decide) (fk_rd h_q0 1) dX8_copyWorld_13 (fun s_2 => ?_)
  refine m_aload_n C dX8_copyWorld_16 rfl ?_
  refine m_aload_n C dX8_copyWorld_17 rfl ?_
  refine m_get (v := .int (gi s_2 a1 2)) C fl_X8_16_3 (lay_rd h_a1) (by decide) (fv_rd h_a1 2) dX8_copyWorld_18 ?_
  refine m_puti C fl_X8_16_3 fw_3_2 (lay_rd h_q0) (by decide) (fk_rd h_q0 2) dX8_copyWorld_21 (fun s_3 => ?_)
  refine m_aload_n C dX8_copyWorld_24 rfl ?_
  refine m_aload_n C dX8_copyWorld_25 rfl ?_
  refine m_get (v := .int (gi s_3 a1 3)) C fl_X8_19_3 (lay_rd h_a1) (by decide) (fv_rd h_a1 3) dX8_copyWorld_26 ?_
  refine m_puti C fl_X8_19_3 fw_3_3 (lay_rd h_q0) (by decide) (fk_rd h_q0 3) dX8_copyWorld_29 (fun s_4 => ?_)
  refine m_aload_n C dX8_copyWorld_32 rfl ?_
  refine m_aload_n C dX8_copyWorld_33 rfl ?_
  refine m_get (v := .int (gi s_4 a1 4)) C fl_X8_22_3 (lay_rd h_a1) (by decide) (fv_rd h_a1 4) dX8_copyWorld_34 ?_
  refine m_puti C fl_X8_22_3 fw_3_4 (lay_rd h_q0) (by decide) (fk_rd h_q0 4) dX8_copyWorld_37 (fun s_5 => ?_)
  refine m_aload_n C dX8_copyWorld_40 rfl ?_
  refine m_aload_n C dX8_copyWorld_41 rfl ?_
  refine m_get (v := .int (gi s_5 a1 5)) C fl_X8_25_3 (lay_rd h_a1) (by decide) (fv_rd h_a1 5) dX8_copyWorld_42 ?_
  refine m_puti C fl_X8_25_3 fw_3_5 (lay_rd h_q0) (by decide) (fk_rd h_q0 5) dX8_copyWorld_45 (fun s_6 => ?_)
  exact m_vret C dX8_copyWorld_48
def fX8_copyWorld_b (s0 : Sg) : Option (Sg) :=
  bv (si s0 1 0 (gi s0 2 0)) fun s_1 =>
  bv (si s_1 1 1 (gi s_1 2 1)) fun s_2 =>
  bv (si s_2 1 2 (gi s_2 2 2)) fun s_3 =>
  bv (si s_3 1 3 (gi s_3 2 3)) fun s_4 =>
  bv (si s_4 1 4 (gi s_4 2 4)) fun s_5 =>
  bv (si s_5 1 5 (gi s_5 2 5)) fun s_6 =>
  some s_6
theorem kX8_copyWorld_b (l : Launch) (D : va_G) (ct : Nat → ClassId) (A : Nat → Nat) (s0 : Sg) (o : Sg) (ho : fX8_copyWorld_b s0 = some o) : Con l yX8_copyWorld cX8_copyWorld 2 none 0 D ct A [.ref (A 1), .ref (A 2)] s0 (embV o) := by
  refine con_start (by decide +kernel) (Nat.le_of_ble_eq_true rfl) ho (fun p e s m args below meth c C => ?_)
  refine m_loc (L2 := [(0, .ref (A 1)), (1, .ref (A 2))]) [0, 1] rfl ?_
  unfold fX8_copyWorld_b
  refine m_aload_n C dX8_copyWorld_0 rfl ?_
  refine m_aload_n C dX8_copyWorld_1 rfl ?_
  refine m_get (v := .int (gi s0 2 0)) C fl_X8_7_6 rfl (by decide) rfl dX8_copyWorld_2 ?_
  refine m_puti C fl_X8_7_6 fw_6_0 rfl (by decide) rfl dX8_copyWorld_5 (fun s_1 => ?_)
  refine m_aload_n C dX8_copyWorld_8 rfl ?_
  refine m_aload_n C dX8_copyWorld_9 rfl ?_
  refine m_get (v := .int (gi s_1 2 1)) C fl_X8_13_6 rfl (by decide) rfl dX8_copyWorld_10 ?_
  refine m_puti C fl_X8_13_6 fw_6_1 rfl (by decide) rfl dX8_copyWorld_13 (fun s_2 => ?_)
  refine m_aload_n C dX8_copyWorld_16 rfl ?_
  refine m_aload_n C dX8_copyWorld_17 rfl ?_
  refine m_get (v := .int (gi s_2 2 2)) C fl_X8_16_6 rfl (by decide) rfl dX8_copyWorld_18 ?_
  refine m_puti C fl_X8_16_6 fw_6_2 rfl (by decide) rfl dX8_copyWorld_21 (fun s_3 => ?_)
  refine m_aload_n C dX8_copyWorld_24 rfl ?_
  refine m_aload_n C dX8_copyWorld_25 rfl ?_
  refine m_get (v := .int (gi s_3 2 3)) C fl_X8_19_6 rfl (by decide) rfl dX8_copyWorld_26 ?_
  refine m_puti C fl_X8_19_6 fw_6_3 rfl (by decide) rfl dX8_copyWorld_29 (fun s_4 => ?_)
  refine m_aload_n C dX8_copyWorld_32 rfl ?_
  refine m_aload_n C dX8_copyWorld_33 rfl ?_
  refine m_get (v := .int (gi s_4 2 4)) C fl_X8_22_6 rfl (by decide) rfl dX8_copyWorld_34 ?_
  refine m_puti C fl_X8_22_6 fw_6_4 rfl (by decide) rfl dX8_copyWorld_37 (fun s_5 => ?_)
  refine m_aload_n C dX8_copyWorld_40 rfl ?_
  refine m_aload_n C dX8_copyWorld_41 rfl ?_
  refine m_get (v := .int (gi s_5 2 5)) C fl_X8_25_6 rfl (by decide) rfl dX8_copyWorld_42 ?_
  refine m_puti C fl_X8_25_6 fw_6_5 rfl (by decide) rfl dX8_copyWorld_45 (fun s_6 => ?_)
  exact m_vret C dX8_copyWorld_48
def fX8_copyWorld_i (s0 : Sg) : Option (Sg) :=
  bv (si s0 2 0 (gi s0 1 0)) fun s_1 =>
  bv (si s_1 2 1 (gi s_1 1 1)) fun s_2 =>
  bv (si s_2 2 2 (gi s_2 1 2)) fun s_3 =>
  bv (si s_3 2 3 (gi s_3 1 3)) fun s_4 =>
  bv (si s_4 2 4 (gi s_4 1 4)) fun s_5 =>
  bv (si s_5 2 5 (gi s_5 1 5)) fun s_6 =>
  some s_6
theorem kX8_copyWorld_i (l : Launch) (D : va_G) (ct : Nat → ClassId) (A : Nat → Nat) (s0 : Sg) (o : Sg) (ho : fX8_copyWorld_i s0 = some o) : Con l yX8_copyWorld cX8_copyWorld 2 none 0 D ct A [.ref (A 2), .ref (A 1)] s0 (embV o) := by
  refine con_start (by decide +kernel) (Nat.le_of_ble_eq_true rfl) ho (fun p e s m args below meth c C => ?_)
  refine m_loc (L2 := [(0, .ref (A 2)), (1, .ref (A 1))]) [0, 1] rfl ?_
  unfold fX8_copyWorld_i
  refine m_aload_n C dX8_copyWorld_0 rfl ?_
  refine m_aload_n C dX8_copyWorld_1 rfl ?_
  refine m_get (v := .int (gi s0 1 0)) C fl_X8_7_6 rfl (by decide) rfl dX8_copyWorld_2 ?_
  refine m_puti C fl_X8_7_6 fw_6_0 rfl (by decide) rfl dX8_copyWorld_5 (fun s_1 => ?_)
  refine m_aload_n C dX8_copyWorld_8 rfl ?_
  refine m_aload_n C dX8_copyWorld_9 rfl ?_
  refine m_get (v := .int (gi s_1 1 1)) C fl_X8_13_6 rfl (by decide) rfl dX8_copyWorld_10 ?_
  refine m_puti C fl_X8_13_6 fw_6_1 rfl (by decide) rfl dX8_copyWorld_13 (fun s_2 => ?_)
  refine m_aload_n C dX8_copyWorld_16 rfl ?_
  refine m_aload_n C dX8_copyWorld_17 rfl ?_
  refine m_get (v := .int (gi s_2 1 2)) C fl_X8_16_6 rfl (by decide) rfl dX8_copyWorld_18 ?_
  refine m_puti C fl_X8_16_6 fw_6_2 rfl (by decide) rfl dX8_copyWorld_21 (fun s_3 => ?_)
  refine m_aload_n C dX8_copyWorld_24 rfl ?_
  refine m_aload_n C dX8_copyWorld_25 rfl ?_
  refine m_get (v := .int (gi s_3 1 3)) C fl_X8_19_6 rfl (by decide) rfl dX8_copyWorld_26 ?_
  refine m_puti C fl_X8_19_6 fw_6_3 rfl (by decide) rfl dX8_copyWorld_29 (fun s_4 => ?_)
  refine m_aload_n C dX8_copyWorld_32 rfl ?_
  refine m_aload_n C dX8_copyWorld_33 rfl ?_
  refine m_get (v := .int (gi s_4 1 4)) C fl_X8_22_6 rfl (by decide) rfl dX8_copyWorld_34 ?_
  refine m_puti C fl_X8_22_6 fw_6_4 rfl (by decide) rfl dX8_copyWorld_37 (fun s_5 => ?_)
  refine m_aload_n C dX8_copyWorld_40 rfl ?_
  refine m_aload_n C dX8_copyWorld_41 rfl ?_
  refine m_get (v := .int (gi s_5 1 5)) C fl_X8_25_6 rfl (by decide) rfl dX8_copyWorld_42 ?_
  refine m_puti C fl_X8_25_6 fw_6_5 rfl (by decide) rfl dX8_copyWorld_45 (fun s_6 => ?_)
  exact m_vret C dX8_copyWorld_48
def fX9_feed (a1 : Int32) (a2 : Int32) (a3 : Int32) (a4 : Int32) (a5 : Int32) (s0 : Sg) : Option (Int32 × Sg) :=
  if ((gi s0 3 1) + 20) ≤ 300 then
    bnv (fX7_append a1 s0) fun s_1 =>
    bnv (fX7_append a2 s_1) fun s_2 =>
    bnv (fX7_append a3 s_2) fun s_3 =>
    bnv (fX7_append a4 s_3) fun s_4 =>
    bnv (fX7_append a5 s_4) fun s_5 =>
    some (gi s_5 3 1, s_5)
  else
    some ((-1), s0)
theorem kX9_feed (l : Launch) (D : va_G) (ct : Nat → ClassId) (A : Nat → Nat) (a1 : Int32) (a2 : Int32) (a3 : Int32) (a4 : Int32) (a5 : Int32) (s0 : Sg) (o : Int32 × Sg) (ho : fX9_feed a1 a2 a3 a4 a5 s0 = some o) : Con l yX9_feed cX9_feed 6 (some .int) 1 D ct A [.ref (A 0), .int a1, .int a2, .int a3, .int a4, .int a5] s0 (embI o) := by
  refine con_start (by decide +kernel) (Nat.le_of_ble_eq_true rfl) ho (fun p e s m args below meth c C => ?_)
  refine m_loc (L2 := [(0, .ref (A 0)), (1, .int a1), (2, .int a2), (3, .int a3), (4, .int a4), (5, .int a5)]) [0, 1, 2, 3, 4, 5] rfl ?_
  unfold fX9_feed
  refine m_aload_n C dX9_feed_0 rfl ?_
  refine m_get (v := .ref (A 3)) C fl_X9_22_8 rfl (by decide) rfl dX9_feed_1 ?_
  refine m_get (v := .int (gi s0 3 1)) C fl_X9_96_7 rfl (by decide) rfl dX9_feed_4 ?_
  refine m_bipush C dX9_feed_7 cb_20 ?_
  refine m_iadd C dX9_feed_9 ?_
  refine m_sipush C dX9_feed_10 cs_300 ?_
  refine m_icmp_le (tgt := 18) C dX9_feed_13 rfl ?_ ?_
  · refine m_aload_n C dX9_feed_18 rfl ?_
    refine m_get (v := .ref (A 3)) C fl_X9_22_8 rfl (by decide) rfl dX9_feed_19 ?_
    refine m_iload_n C dX9_feed_22 rfl ?_
    refine m_callVV C ml_X9_99 ⟨Nat.le_of_ble_eq_true rfl, Nat.le_of_ble_eq_true rfl⟩ rfl rfl [.int a1] [] rfl rfl (Nat.le_of_ble_eq_true rfl) dX9_feed_23 (fun o ho => kX7_append l D ct A a1 s0 o ho) (fun s_1 => ?_)
    refine m_aload_n C dX9_feed_26 rfl ?_
    refine m_get (v := .ref (A 3)) C fl_X9_22_8 rfl (by decide) rfl dX9_feed_27 ?_
    refine m_iload_n C dX9_feed_30 rfl ?_
    refine m_callVV C ml_X9_99 ⟨Nat.le_of_ble_eq_true rfl, Nat.le_of_ble_eq_true rfl⟩ rfl rfl [.int a2] [] rfl rfl (Nat.le_of_ble_eq_true rfl) dX9_feed_31 (fun o ho => kX7_append l D ct A a2 s_1 o ho) (fun s_2 => ?_)
    refine m_aload_n C dX9_feed_34 rfl ?_
    refine m_get (v := .ref (A 3)) C fl_X9_22_8 rfl (by decide) rfl dX9_feed_35 ?_
    refine m_iload_n C dX9_feed_38 rfl ?_
    refine m_callVV C ml_X9_99 ⟨Nat.le_of_ble_eq_true rfl, Nat.le_of_ble_eq_true rfl⟩ rfl rfl [.int a3] [] rfl rfl (Nat.le_of_ble_eq_true rfl) dX9_feed_39 (fun o ho => kX7_append l D ct A a3 s_2 o ho) (fun s_3 => ?_)
    refine m_aload_n C dX9_feed_42 rfl ?_
    refine m_get (v := .ref (A 3)) C fl_X9_22_8 rfl (by decide) rfl dX9_feed_43 ?_
    refine m_iload C dX9_feed_46 rfl ?_
    refine m_callVV C ml_X9_99 ⟨Nat.le_of_ble_eq_true rfl, Nat.le_of_ble_eq_true rfl⟩ rfl rfl [.int a4] [] rfl rfl (Nat.le_of_ble_eq_true rfl) dX9_feed_48 (fun o ho => kX7_append l D ct A a4 s_3 o ho) (fun s_4 => ?_)
    refine m_aload_n C dX9_feed_51 rfl ?_
    refine m_get (v := .ref (A 3)) C fl_X9_22_8 rfl (by decide) rfl dX9_feed_52 ?_
    refine m_iload C dX9_feed_55 rfl ?_
    refine m_callVV C ml_X9_99 ⟨Nat.le_of_ble_eq_true rfl, Nat.le_of_ble_eq_true rfl⟩ rfl rfl [.int a5] [] rfl rfl (Nat.le_of_ble_eq_true rfl) dX9_feed_57 (fun o ho => kX7_append l D ct A a5 s_4 o ho) (fun s_5 => ?_)
    refine m_aload_n C dX9_feed_60 rfl ?_
    refine m_get (v := .ref (A 3)) C fl_X9_22_8 rfl (by decide) rfl dX9_feed_61 ?_
    refine m_get (v := .int (gi s_5 3 1)) C fl_X9_96_7 rfl (by decide) rfl dX9_feed_64 ?_
    exact m_iret C dX9_feed_67
  · refine m_iconst C dX9_feed_16 ci_m1 ?_
    exact m_iret C dX9_feed_17
def fX9_fault (a1 : Int32) (s0 : Sg) : Option (Int32 × Sg) :=
  if a1 = 0 then
    some (gi s0 4 4, s0)
  else
    if a1 = 1 then
      some (gi s0 4 5, s0)
    else
      some ((-1), s0)
theorem kX9_fault (l : Launch) (D : va_G) (ct : Nat → ClassId) (A : Nat → Nat) (a1 : Int32) (s0 : Sg) (o : Int32 × Sg) (ho : fX9_fault a1 s0 = some o) : Con l yX9_fault cX9_fault 2 (some .int) 0 D ct A [.ref (A 0), .int a1] s0 (embI o) := by
  refine con_start (by decide +kernel) (Nat.le_of_ble_eq_true rfl) ho (fun p e s m args below meth c C => ?_)
  refine m_loc (L2 := [(0, .ref (A 0)), (1, .int a1)]) [0, 1] rfl ?_
  unfold fX9_fault
  refine m_iload_n C dX9_fault_0 rfl ?_
  refine m_lku C dX9_fault_1 (by decide +kernel) 0 27 28 (by decide +kernel) ?_ (fun h_1 => ?_)
  · refine m_aload_n C dX9_fault_28 rfl ?_
    refine m_get (v := .ref (A 4)) C fl_X9_31_8 rfl (by decide) rfl dX9_fault_29 ?_
    refine m_get (v := .int (gi s0 4 4)) C fl_X9_110_2 rfl (by decide) rfl dX9_fault_32 ?_
    refine m_goto (tgt := 49) C dX9_fault_35 rfl ?_
    exact m_iret C dX9_fault_49
  · refine m_lku C dX9_fault_1 (by decide +kernel) 1 37 38 (by decide +kernel) ?_ (fun h_2 => ?_)
    · refine m_aload_n C dX9_fault_38 rfl ?_
      refine m_get (v := .ref (A 4)) C fl_X9_31_8 rfl (by decide) rfl dX9_fault_39 ?_
      refine m_get (v := .int (gi s0 4 5)) C fl_X9_113_2 rfl (by decide) rfl dX9_fault_42 ?_
      refine m_goto (tgt := 49) C dX9_fault_45 rfl ?_
      exact m_iret C dX9_fault_49
    · refine m_lkuD C dX9_fault_1 (by decide +kernel) 48 rfl (by rw [lv_osw h_1 (by decide)]; rw [lv_osw h_2 (by decide)]; rfl) ?_
      refine m_iconst C dX9_fault_48 ci_m1 ?_
      exact m_iret C dX9_fault_49
def fX9_undo (s0 : Sg) : Option (Int32 × Sg) :=
  bnd (fX6_stepBack s0) fun r_1 s_2 =>
  if (b2i r_1) = 0 then
    some ((-1), s_2)
  else
    some (gi s_2 1 15, s_2)
theorem kX9_undo (l : Launch) (D : va_G) (ct : Nat → ClassId) (A : Nat → Nat) (s0 : Sg) (o : Int32 × Sg) (ho : fX9_undo s0 = some o) : Con l yX9_undo cX9_undo 1 (some .int) 1 D ct A [.ref (A 0)] s0 (embI o) := by
  refine con_start (by decide +kernel) (Nat.le_of_ble_eq_true rfl) ho (fun p e s m args below meth c C => ?_)
  refine m_loc (L2 := [(0, .ref (A 0))]) [0] rfl ?_
  unfold fX9_undo
  refine m_aload_n C dX9_undo_0 rfl ?_
  refine m_get (v := .ref (A 1)) C fl_X9_10_8 rfl (by decide) rfl dX9_undo_1 ?_
  refine m_callVZ C ml_X9_159 ⟨Nat.le_of_ble_eq_true rfl, Nat.le_of_ble_eq_true rfl⟩ rfl rfl [] [] rfl rfl (Nat.le_of_ble_eq_true rfl) dX9_undo_4 (fun o ho => kX6_stepBack l D ct A s0 o ho) (fun r_1 s_2 => ?_)
  refine m_if_ne (tgt := 12) C dX9_undo_7 rfl ?_ ?_
  · refine m_aload_n C dX9_undo_12 rfl ?_
    refine m_get (v := .ref (A 1)) C fl_X9_10_8 rfl (by decide) rfl dX9_undo_13 ?_
    refine m_get (v := .int (gi s_2 1 15)) C fl_X9_163_6 rfl (by decide) rfl dX9_undo_16 ?_
    exact m_iret C dX9_undo_19
  · refine m_iconst C dX9_undo_10 ci_m1 ?_
    exact m_iret C dX9_undo_11
