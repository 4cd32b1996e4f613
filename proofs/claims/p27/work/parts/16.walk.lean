def fX6_copyFrom_i_108_b (k_13 : Sg → Option (Sg)) (rec108 : Int32 → Sg → Option (Sg)) (x2_15 : Int32) (s_16 : Sg) : Option (Sg) :=
  if (gi s_16 1 17) ≤ x2_15 then
    k_13 s_16
  else
    chk (inb 10 x2_15) <|
    bv (78 + 1 * ix x2_15) fun q_18 =>
    chk (isRd q_18) <|
    bv (68 + 1 * ix x2_15) fun q_20 =>
    chk (isRd q_20) <|
    bnv (fX3_copyFrom q_18 q_20 s_16) fun s_22 =>
    bv (x2_15 + 1) fun v_23 =>
    rec108 v_23 s_22
def fX6_copyFrom_i (s0 : Sg) : Option (Sg) :=
  bnv (fX8_copyWorld_i s0) fun s_1 =>
  bv (si s_1 2 6 (gi s_1 1 6)) fun s_2 =>
  bv (sa s_2 13 (va_cpy (gi s_2 9) (gi s_2 13) (ix 0) (ix 0) (ix 12))) fun s_3 =>
  bv (sa s_3 14 (va_cpy (gi s_3 10) (gi s_3 14) (ix 0) (ix 0) (ix 12))) fun s_4 =>
  bv (si s_4 2 9 (gi s_4 1 9)) fun s_5 =>
  bv (si s_5 2 10 (gi s_5 1 10)) fun s_6 =>
  bv (si s_6 2 11 (gi s_6 1 11)) fun s_7 =>
  bv (si s_7 2 12 (gi s_7 1 12)) fun s_8 =>
  bv (sr s_8 2 13 (gr s_8 1 13)) fun s_9 =>
  bv (sa s_9 15 (va_cpy (gi s_9 11) (gi s_9 15) (ix 0) (ix 0) (ix 40))) fun s_10 =>
  bv (si s_10 2 15 (gi s_10 1 15)) fun s_11 =>
  bv (fun (s_12 : Sg) => 
    bv (si s_12 2 17 (gi s_12 1 17)) fun s_14 =>
    some s_14)
  fun k_13 =>
  lo2 (fX6_copyFrom_i_108_b k_13) FU 0 s_11
theorem wX6_copyFrom_i_108 {p : Program} {l : Launch} {e : Env} {s : State} {m : MethodId} {args : Array Value} {below : List Frame} {meth : Method} {c : Code} {D : va_G} {ct : Nat → ClassId} {A : Nat → Nat} (C : Cx p m c cX6_copyFrom 3 s args yX6_copyFrom.cls meth none D ct A) (k_13 : Sg → Option (Sg)) (hk_13 : ∀ (s_12 : Sg), Wm p l e (rmD 2) s m args below meth c D ct A 3 embV 137 [(0, .ref (A 2)), (1, .ref (A 1))] [] s_12 (k_13 s_12)) : ∀ (n : Nat) (x2_15 : Int32) (s_16 : Sg), Wm p l e (rmD 2) s m args below meth c D ct A 3 embV 108 [(0, .ref (A 2)), (1, .ref (A 1)), (2, .int x2_15)] [] s_16 (lo2 (fX6_copyFrom_i_108_b k_13) n x2_15 s_16) := by
  intro n
  induction n with
  | zero => intro x2_15 s_16; exact m_none
  | succ n hrec108 =>
    intro x2_15 s_16
    refine (show Wm p l e (rmD 2) s m args below meth c D ct A 3 embV 108 [(0, .ref (A 2)), (1, .ref (A 1)), (2, .int x2_15)] [] s_16 (fX6_copyFrom_i_108_b k_13 (lo2 (fX6_copyFrom_i_108_b k_13) n) x2_15 s_16) from ?_)
    generalize lo2 (fX6_copyFrom_i_108_b k_13) n = rec108 at hrec108 ⊢
    unfold fX6_copyFrom_i_108_b
    refine m_iload_n C dX6_copyFrom_108 rfl ?_
    refine m_aload_n C dX6_copyFrom_109 rfl ?_
    refine m_get (v := .int (gi s_16 1 17)) C fl_X6_61_6 rfl (by decide) rfl dX6_copyFrom_110 ?_
    refine m_icmp_ge (tgt := 137) C dX6_copyFrom_113 rfl ?_ ?_
    · refine m_loc (L2 := [(0, .ref (A 2)), (1, .ref (A 1))]) [0, 1] rfl ?_
      exact hk_13 s_16
    · refine m_aload_n C dX6_copyFrom_116 rfl ?_
      refine m_get (v := .ref (A 16)) C fl_X6_27_6 rfl (by decide) rfl dX6_copyFrom_117 ?_
      refine m_iload_n C dX6_copyFrom_120 rfl ?_
      refine m_chk (fun h_17 => ?_)
      refine m_aald (cn := "DownByAHair$Reading") C rfl rfl h_17 dX6_copyFrom_121 ?_
      refine m_letr (x := 78 + 1 * ix x2_15) (fun q_18 => ?_)
      refine m_chk (fun h_19 => ?_)
      refine m_aload_n C dX6_copyFrom_122 rfl ?_
      refine m_get (v := .ref (A 12)) C fl_X6_27_6 rfl (by decide) rfl dX6_copyFrom_123 ?_
      refine m_iload_n C dX6_copyFrom_126 rfl ?_
      refine m_aald (cn := "DownByAHair$Reading") C rfl rfl h_17 dX6_copyFrom_127 ?_
      refine m_letr (x := 68 + 1 * ix x2_15) (fun q_20 => ?_)
      refine m_chk (fun h_21 => ?_)
      refine m_callVV C ml_X6_64 ⟨Nat.le_of_ble_eq_true rfl, Nat.le_of_ble_eq_true rfl⟩ (lay_rd h_19) rfl [.ref (A q_20)] [] rfl rfl (Nat.le_of_ble_eq_true rfl) dX6_copyFrom_128 (fun o ho => kX3_copyFrom l D ct A q_18 q_20 h_19 h_21 s_16 o ho) (fun s_22 => ?_)
      refine m_iincb (L2 := fun v_23 => [(2, .int v_23), (0, .ref (A 2)), (1, .ref (A 1))]) (q := 2) C dX6_copyFrom_131 rfl ci_1 (by decide) (fun _ => rfl) (fun v_23 => ?_)
      refine m_goto (tgt := 108) C dX6_copyFrom_134 rfl ?_
      refine m_loc (L2 := [(0, .ref (A 2)), (1, .ref (A 1)), (2, .int v_23)]) [1, 2, 0] rfl ?_
      exact hrec108 v_23 s_22
theorem kX6_copyFrom_i (l : Launch) (D : va_G) (ct : Nat → ClassId) (A : Nat → Nat) (s0 : Sg) (o : Sg) (ho : fX6_copyFrom_i s0 = some o) : Con l yX6_copyFrom cX6_copyFrom 3 none 2 D ct A [.ref (A 2), .ref (A 1)] s0 (embV o) := by
  refine con_start (by decide +kernel) (Nat.le_of_ble_eq_true rfl) ho (fun p e s m args below meth c C => ?_)
  refine m_loc (L2 := [(0, .ref (A 2)), (1, .ref (A 1))]) [0, 1] rfl ?_
  unfold fX6_copyFrom_i
  refine m_aload_n C dX6_copyFrom_0 rfl ?_
  refine m_aload_n C dX6_copyFrom_1 rfl ?_
  refine m_callUV C ml_X6_32 ⟨Nat.le_of_ble_eq_true rfl, Nat.le_of_ble_eq_true rfl⟩ rfl rfl [.ref (A 1)] [] rfl rfl (Nat.le_of_ble_eq_true rfl) dX6_copyFrom_2 (fun o ho => kX8_copyWorld_i l D ct A s0 o ho) (fun s_1 => ?_)
  refine m_aload_n C dX6_copyFrom_5 rfl ?_
  refine m_aload_n C dX6_copyFrom_6 rfl ?_
  refine m_get (v := .int (gi s_1 1 6)) C fl_X6_36_6 rfl (by decide) rfl dX6_copyFrom_7 ?_
  refine m_puti C fl_X6_36_6 fw_6_6 rfl (by decide) rfl dX6_copyFrom_10 (fun s_2 => ?_)
  refine m_aload_n C dX6_copyFrom_13 rfl ?_
  refine m_get (v := .ref (A 9)) C fl_X6_9_6 rfl (by decide) rfl dX6_copyFrom_14 ?_
  refine m_iconst C dX6_copyFrom_17 ci_0 ?_
  refine m_aload_n C dX6_copyFrom_18 rfl ?_
  refine m_get (v := .ref (A 13)) C fl_X6_9_6 rfl (by decide) rfl dX6_copyFrom_19 ?_
  refine m_iconst C dX6_copyFrom_22 ci_0 ?_
  refine m_bipush C dX6_copyFrom_23 cb_12 ?_
  refine m_copy C wd_681 rfl rfl (by decide +kernel) ⟨by decide, Nat.le_of_ble_eq_true rfl⟩ cp_w dX6_copyFrom_25 (fun s_3 => ?_)
  refine m_aload_n C dX6_copyFrom_28 rfl ?_
  refine m_get (v := .ref (A 10)) C fl_X6_15_6 rfl (by decide) rfl dX6_copyFrom_29 ?_
  refine m_iconst C dX6_copyFrom_32 ci_0 ?_
  refine m_aload_n C dX6_copyFrom_33 rfl ?_
  refine m_get (v := .ref (A 14)) C fl_X6_15_6 rfl (by decide) rfl dX6_copyFrom_34 ?_
  refine m_iconst C dX6_copyFrom_37 ci_0 ?_
  refine m_bipush C dX6_copyFrom_38 cb_12 ?_
  refine m_copy C wd_681 rfl rfl (by decide +kernel) ⟨by decide, Nat.le_of_ble_eq_true rfl⟩ cp_w dX6_copyFrom_40 (fun s_4 => ?_)
  refine m_aload_n C dX6_copyFrom_43 rfl ?_
  refine m_aload_n C dX6_copyFrom_44 rfl ?_
  refine m_get (v := .int (gi s_4 1 9)) C fl_X6_45_6 rfl (by decide) rfl dX6_copyFrom_45 ?_
  refine m_puti C fl_X6_45_6 fw_6_9 rfl (by decide) rfl dX6_copyFrom_48 (fun s_5 => ?_)
  refine m_aload_n C dX6_copyFrom_51 rfl ?_
  refine m_aload_n C dX6_copyFrom_52 rfl ?_
  refine m_get (v := .int (gi s_5 1 10)) C fl_X6_48_6 rfl (by decide) rfl dX6_copyFrom_53 ?_
  refine m_puti C fl_X6_48_6 fw_6_10 rfl (by decide) rfl dX6_copyFrom_56 (fun s_6 => ?_)
  refine m_aload_n C dX6_copyFrom_59 rfl ?_
  refine m_aload_n C dX6_copyFrom_60 rfl ?_
  refine m_get (v := .int (gi s_6 1 11)) C fl_X6_51_6 rfl (by decide) rfl dX6_copyFrom_61 ?_
  refine m_puti C fl_X6_51_6 fw_6_11 rfl (by decide) rfl dX6_copyFrom_64 (fun s_7 => ?_)
  refine m_aload_n C dX6_copyFrom_67 rfl ?_
  refine m_aload_n C dX6_copyFrom_68 rfl ?_
  refine m_get (v := .int (gi s_7 1 12)) C fl_X6_18_6 rfl (by decide) rfl dX6_copyFrom_69 ?_
  refine m_puti C fl_X6_18_6 fw_6_12 rfl (by decide) rfl dX6_copyFrom_72 (fun s_8 => ?_)
  refine m_aload_n C dX6_copyFrom_75 rfl ?_
  refine m_aload_n C dX6_copyFrom_76 rfl ?_
  refine m_get (v := rfv A (gr s_8 1 13)) C fl_X6_54_6 rfl (by decide) rfl dX6_copyFrom_77 ?_
  refine m_putr C fl_X6_54_6 fw_6_13 rfl (by decide) rfl dX6_copyFrom_80 (fun s_9 => ?_)
  refine m_aload_n C dX6_copyFrom_83 rfl ?_
  refine m_get (v := .ref (A 11)) C fl_X6_22_6 rfl (by decide) rfl dX6_copyFrom_84 ?_
  refine m_iconst C dX6_copyFrom_87 ci_0 ?_
  refine m_aload_n C dX6_copyFrom_88 rfl ?_
  refine m_get (v := .ref (A 15)) C fl_X6_22_6 rfl (by decide) rfl dX6_copyFrom_89 ?_
  refine m_iconst C dX6_copyFrom_92 ci_0 ?_
  refine m_bipush C dX6_copyFrom_93 cb_40 ?_
  refine m_copy C wd_681 rfl rfl (by decide +kernel) ⟨by decide, Nat.le_of_ble_eq_true rfl⟩ cp_w dX6_copyFrom_95 (fun s_10 => ?_)
  refine m_aload_n C dX6_copyFrom_98 rfl ?_
  refine m_aload_n C dX6_copyFrom_99 rfl ?_
  refine m_get (v := .int (gi s_10 1 15)) C fl_X6_58_6 rfl (by decide) rfl dX6_copyFrom_100 ?_
  refine m_puti C fl_X6_58_6 fw_6_15 rfl (by decide) rfl dX6_copyFrom_103 (fun s_11 => ?_)
  refine m_iconst C dX6_copyFrom_106 ci_0 ?_
  refine m_istore_n (L2 := [(2, .int 0), (0, .ref (A 2)), (1, .ref (A 1))]) C dX6_copyFrom_107 rfl (by decide) rfl ?_
  refine m_jn (P := fun (k_13 : Sg → Option (Sg)) => ∀ (s_12 : Sg), Wm p l e (rmD 2) s m args below meth c D ct A 3 embV 137 [(0, .ref (A 2)), (1, .ref (A 1))] [] s_12 (k_13 s_12)) ?_ (fun k_13 hk_13 => ?_)
  · intro s_12
    refine m_aload_n C dX6_copyFrom_137 rfl ?_
    refine m_aload_n C dX6_copyFrom_138 rfl ?_
    refine m_get (v := .int (gi s_12 1 17)) C fl_X6_61_6 rfl (by decide) rfl dX6_copyFrom_139 ?_
    refine m_puti C fl_X6_61_6 fw_6_17 rfl (by decide) rfl dX6_copyFrom_142 (fun s_14 => ?_)
    exact m_vret C dX6_copyFrom_145
  refine m_loc (L2 := [(0, .ref (A 2)), (1, .ref (A 1)), (2, .int 0)]) [1, 2, 0] rfl ?_
  exact wX6_copyFrom_i_108 C k_13 hk_13 FU 0 s_11
def fX6_copyFrom_b_108_b (k_13 : Sg → Option (Sg)) (rec108 : Int32 → Sg → Option (Sg)) (x2_15 : Int32) (s_16 : Sg) : Option (Sg) :=
  if (gi s_16 2 17) ≤ x2_15 then
    k_13 s_16
  else
    chk (inb 10 x2_15) <|
    bv (68 + 1 * ix x2_15) fun q_18 =>
    chk (isRd q_18) <|
    bv (78 + 1 * ix x2_15) fun q_20 =>
    chk (isRd q_20) <|
    bnv (fX3_copyFrom q_18 q_20 s_16) fun s_22 =>
    bv (x2_15 + 1) fun v_23 =>
    rec108 v_23 s_22
def fX6_copyFrom_b (s0 : Sg) : Option (Sg) :=
  bnv (fX8_copyWorld_b s0) fun s_1 =>
  bv (si s_1 1 6 (gi s_1 2 6)) fun s_2 =>
  bv (sa s_2 9 (va_cpy (gi s_2 13) (gi s_2 9) (ix 0) (ix 0) (ix 12))) fun s_3 =>
  bv (sa s_3 10 (va_cpy (gi s_3 14) (gi s_3 10) (ix 0) (ix 0) (ix 12))) fun s_4 =>
  bv (si s_4 1 9 (gi s_4 2 9)) fun s_5 =>
  bv (si s_5 1 10 (gi s_5 2 10)) fun s_6 =>
  bv (si s_6 1 11 (gi s_6 2 11)) fun s_7 =>
  bv (si s_7 1 12 (gi s_7 2 12)) fun s_8 =>
  bv (sr s_8 1 13 (gr s_8 2 13)) fun s_9 =>
  bv (sa s_9 11 (va_cpy (gi s_9 15) (gi s_9 11) (ix 0) (ix 0) (ix 40))) fun s_10 =>
  bv (si s_10 1 15 (gi s_10 2 15)) fun s_11 =>
  bv (fun (s_12 : Sg) => 
    bv (si s_12 1 17 (gi s_12 2 17)) fun s_14 =>
    some s_14)
  fun k_13 =>
  lo2 (fX6_copyFrom_b_108_b k_13) FU 0 s_11
theorem wX6_copyFrom_b_108 {p : Program} {l : Launch} {e : Env} {s : State} {m : MethodId} {args : Array Value} {below : List Frame} {meth : Method} {c : Code} {D : va_G} {ct : Nat → ClassId} {A : Nat → Nat} (C : Cx p m c cX6_copyFrom 3 s args yX6_copyFrom.cls meth none D ct A) (k_13 : Sg → Option (Sg)) (hk_13 : ∀ (s_12 : Sg), Wm p l e (rmD 2) s m args below meth c D ct A 3 embV 137 [(0, .ref (A 1)), (1, .ref (A 2))] [] s_12 (k_13 s_12)) : ∀ (n : Nat) (x2_15 : Int32) (s_16 : Sg), Wm p l e (rmD 2) s m args below meth c D ct A 3 embV 108 [(0, .ref (A 1)), (1, .ref (A 2)), (2, .int x2_15)] [] s_16 (lo2 (fX6_copyFrom_b_108_b k_13) n x2_15 s_16) := by
  intro n
  induction n with
  | zero => intro x2_15 s_16; exact m_none
  | succ n hrec108 =>
    intro x2_15 s_16
    refine (show Wm p l e (rmD 2) s m args below meth c D ct A 3 embV 108 [(0, .ref (A 1)), (1, .ref (A 2)), (2, .int x2_15)] [] s_16 (fX6_copyFrom_b_108_b k_13 (lo2 (fX6_copyFrom_b_108_b k_13) n) x2_15 s_16) from ?_)
    generalize lo2 (fX6_copyFrom_b_108_b k_13) n = rec108 at hrec108 ⊢
    unfold fX6_copyFrom_b_108_b
    refine m_iload_n C dX6_copyFrom_108 rfl ?_
    refine m_aload_n C dX6_copyFrom_109 rfl ?_
    refine m_get (v := .int (gi s_16 2 17)) C fl_X6_61_6 rfl (by decide) rfl dX6_copyFrom_110 ?_
    refine m_icmp_ge (tgt := 137) C dX6_copyFrom_113 rfl ?_ ?_
    · refine m_loc (L2 := [(0, .ref (A 1)), (1, .ref (A 2))]) [0, 1] rfl ?_
      exact hk_13 s_16
    · refine m_aload_n C dX6_copyFrom_116 rfl ?_
      refine m_get (v := .ref (A 12)) C fl_X6_27_6 rfl (by decide) rfl dX6_copyFrom_117 ?_
      refine m_iload_n C dX6_copyFrom_120 rfl ?_
      refine m_chk (fun h_17 => ?_)
      refine m_aald (cn := "DownByAHair$Reading") C rfl rfl h_17 dX6_copyFrom_121 ?_
      refine m_letr (x := 68 + 1 * ix x2_15) (fun q_18 => ?_)
      refine m_chk (fun h_19 => ?_)
      refine m_aload_n C dX6_copyFrom_122 rfl ?_
      refine m_get (v := .ref (A 16)) C fl_X6_27_6 rfl (by decide) rfl dX6_copyFrom_123 ?_
      refine m_iload_n C dX6_copyFrom_126 rfl ?_
      refine m_aald (cn := "DownByAHair$Reading") C rfl rfl h_17 dX6_copyFrom_127 ?_
      refine m_letr (x := 78 + 1 * ix x2_15) (fun q_20 => ?_)
      refine m_chk (fun h_21 => ?_)
      refine m_callVV C ml_X6_64 ⟨Nat.le_of_ble_eq_true rfl, Nat.le_of_ble_eq_true rfl⟩ (lay_rd h_19) rfl [.ref (A q_20)] [] rfl rfl (Nat.le_of_ble_eq_true rfl) dX6_copyFrom_128 (fun o ho => kX3_copyFrom l D ct A q_18 q_20 h_19 h_21 s_16 o ho) (fun s_22 => ?_)
      refine m_iincb (L2 := fun v_23 => [(2, .int v_23), (0, .ref (A 1)), (1, .ref (A 2))]) (q := 2) C dX6_copyFrom_131 rfl ci_1 (by decide) (fun _ => rfl) (fun v_23 => ?_)
      refine m_goto (tgt := 108) C dX6_copyFrom_134 rfl ?_
      refine m_loc (L2 := [(0, .ref (A 1)), (1, .ref (A 2)), (2, .int v_23)]) [1, 2, 0] rfl ?_
      exact hrec108 v_23 s_22
theorem kX6_copyFrom_b (l : Launch) (D : va_G) (ct : Nat → ClassId) (A : Nat → Nat) (s0 : Sg) (o : Sg) (ho : fX6_copyFrom_b s0 = some o) : Con l yX6_copyFrom cX6_copyFrom 3 none 2 D ct A [.ref (A 1), .ref (A 2)] s0 (embV o) := by
  refine con_start (by decide +kernel) (Nat.le_of_ble_eq_true rfl) ho (fun p e s m args below meth c C => ?_)
  refine m_loc (L2 := [(0, .ref (A 1)), (1, .ref (A 2))]) [0, 1] rfl ?_
  unfold fX6_copyFrom_b
  refine m_aload_n C dX6_copyFrom_0 rfl ?_
  refine m_aload_n C dX6_copyFrom_1 rfl ?_
  refine m_callUV C ml_X6_32 ⟨Nat.le_of_ble_eq_true rfl, Nat.le_of_ble_eq_true rfl⟩ rfl rfl [.ref (A 2)] [] rfl rfl (Nat.le_of_ble_eq_true rfl) dX6_copyFrom_2 (fun o ho => kX8_copyWorld_b l D ct A s0 o ho) (fun s_1 => ?_)
  refine m_aload_n C dX6_copyFrom_5 rfl ?_
  refine m_aload_n C dX6_copyFrom_6 rfl ?_
  refine m_get (v := .int (gi s_1 2 6)) C fl_X6_36_6 rfl (by decide) rfl dX6_copyFrom_7 ?_
  refine m_puti C fl_X6_36_6 fw_6_6 rfl (by decide) rfl dX6_copyFrom_10 (fun s_2 => ?_)
  refine m_aload_n C dX6_copyFrom_13 rfl ?_
  refine m_get (v := .ref (A 13)) C fl_X6_9_6 rfl (by decide) rfl dX6_copyFrom_14 ?_
  refine m_iconst C dX6_copyFrom_17 ci_0 ?_
  refine m_aload_n C dX6_copyFrom_18 rfl ?_
  refine m_get (v := .ref (A 9)) C fl_X6_9_6 rfl (by decide) rfl dX6_copyFrom_19 ?_
  refine m_iconst C dX6_copyFrom_22 ci_0 ?_
  refine m_bipush C dX6_copyFrom_23 cb_12 ?_
  refine m_copy C wd_681 rfl rfl (by decide +kernel) ⟨by decide, Nat.le_of_ble_eq_true rfl⟩ cp_w dX6_copyFrom_25 (fun s_3 => ?_)
  refine m_aload_n C dX6_copyFrom_28 rfl ?_
  refine m_get (v := .ref (A 14)) C fl_X6_15_6 rfl (by decide) rfl dX6_copyFrom_29 ?_
  refine m_iconst C dX6_copyFrom_32 ci_0 ?_
  refine m_aload_n C dX6_copyFrom_33 rfl ?_
  refine m_get (v := .ref (A 10)) C fl_X6_15_6 rfl (by decide) rfl dX6_copyFrom_34 ?_
  refine m_iconst C dX6_copyFrom_37 ci_0 ?_
  refine m_bipush C dX6_copyFrom_38 cb_12 ?_
  refine m_copy C wd_681 rfl rfl (by decide +kernel) ⟨by decide, Nat.le_of_ble_eq_true rfl⟩ cp_w dX6_copyFrom_40 (fun s_4 => ?_)
  refine m_aload_n C dX6_copyFrom_43 rfl ?_
  refine m_aload_n C dX6_copyFrom_44 rfl ?_
  refine m_get (v := .int (gi s_4 2 9)) C fl_X6_45_6 rfl (by decide) rfl dX6_copyFrom_45 ?_
  refine m_puti C fl_X6_45_6 fw_6_9 rfl (by decide) rfl dX6_copyFrom_48 (fun s_5 => ?_)
  refine m_aload_n C dX6_copyFrom_51 rfl ?_
  refine m_aload_n C dX6_copyFrom_52 rfl ?_
  refine m_get (v := .int (gi s_5 2 10)) C fl_X6_48_6 rfl (by decide) rfl dX6_copyFrom_53 ?_
  refine m_puti C fl_X6_48_6 fw_6_10 rfl (by decide) rfl dX6_copyFrom_56 (fun s_6 => ?_)
  refine m_aload_n C dX6_copyFrom_59 rfl ?_
  refine m_aload_n C dX6_copyFrom_60 rfl ?_
  refine m_get (v := .int (gi s_6 2 11)) C fl_X6_51_6 rfl (by decide) rfl dX6_copyFrom_61 ?_
  refine m_puti C fl_X6_51_6 fw_6_11 rfl (by decide) rfl dX6_copyFrom_64 (fun s_7 => ?_)
  refine m_aload_n C dX6_copyFrom_67 rfl ?_
  refine m_aload_n C dX6_copyFrom_68 rfl ?_
  refine m_get (v := .int (gi s_7 2 12)) C fl_X6_18_6 rfl (by decide) rfl dX6_copyFrom_69 ?_
  refine m_puti C fl_X6_18_6 fw_6_12 rfl (by decide) rfl dX6_copyFrom_72 (fun s_8 => ?_)
  refine m_aload_n C dX6_copyFrom_75 rfl ?_
  refine m_aload_n C dX6_copyFrom_76 rfl ?_
  refine m_get (v := rfv A (gr s_8 2 13)) C fl_X6_54_6 rfl (by decide) rfl dX6_copyFrom_77 ?_
  refine m_putr C fl_X6_54_6 fw_6_13 rfl (by decide) rfl dX6_copyFrom_80 (fun s_9 => ?_)
  refine m_aload_n C dX6_copyFrom_83 rfl ?_
  refine m_get (v := .ref (A 15)) C fl_X6_22_6 rfl (by decide) rfl dX6_copyFrom_84 ?_
  refine m_iconst C dX6_copyFrom_87 ci_0 ?_
  refine m_aload_n C dX6_copyFrom_88 rfl ?_
  refine m_get (v := .ref (A 11)) C fl_X6_22_6 rfl (by decide) rfl dX6_copyFrom_89 ?_
  refine m_iconst C dX6_copyFrom_92 ci_0 ?_
  refine m_bipush C dX6_copyFrom_93 cb_40 ?_
  refine m_copy C wd_681 rfl rfl (by decide +kernel) ⟨by decide, Nat.le_of_ble_eq_true rfl⟩ cp_w dX6_copyFrom_95 (fun s_10 => ?_)
  refine m_aload_n C dX6_copyFrom_98 rfl ?_
  refine m_aload_n C dX6_copyFrom_99 rfl ?_
  refine m_get (v := .int (gi s_10 2 15)) C fl_X6_58_6 rfl (by decide) rfl dX6_copyFrom_100 ?_
  refine m_puti C fl_X6_58_6 fw_6_15 rfl (by decide) rfl dX6_copyFrom_103 (fun s_11 => ?_)
  refine m_iconst C dX6_copyFrom_106 ci_0 ?_
  refine m_istore_n (L2 := [(2, .int 0), (0, .ref (A 1)), (1, .ref (A 2))]) C dX6_copyFrom_107 rfl (by decide) rfl ?_
  refine m_jn (P := fun (k_13 : Sg → Option (Sg)) => ∀ (s_12 : Sg), Wm p l e (rmD 2) s m args below meth c D ct A 3 embV 137 [(0, .ref (A 1)), (1, .ref (A 2))] [] s_12 (k_13 s_12)) ?_ (fun k_13 hk_13 => ?_)
  · intro s_12
    refine m_aload_n C dX6_copyFrom_137 rfl ?_
    refine m_aload_n C dX6_copyFrom_138 rfl ?_
    refine m_get (v := .int (gi s_12 2 17)) C fl_X6_61_6 rfl (by decide) rfl dX6_copyFrom_139 ?_
    refine m_puti C fl_X6_61_6 fw_6_17 rfl (by decide) rfl dX6_copyFrom_142 (fun s_14 => ?_)
    exact m_vret C dX6_copyFrom_145
  refine m_loc (L2 := [(0, .ref (A 1)), (1, .ref (A 2)), (2, .int 0)]) [1, 2, 0] rfl ?_
  exact wX6_copyFrom_b_108 C k_13 hk_13 FU 0 s_11
def fX6_panOf (a1 : Int32) (s0 : Sg) : Option (Int32 × Sg) :=
  bnd (fX9_within a1 0 ((gi s0 1 6) - 1) s0) fun r_1 s_2 =>
  if (b2i r_1) = 0 then
    some ((-1), s_2)
  else
    if (((gi s_2 1 9) >>> (a1 &&& 31)) &&& 1) = 1 then
      some (0, s_2)
    else
      if (((gi s_2 1 10) >>> (a1 &&& 31)) &&& 1) = 1 then
        some (1, s_2)
      else
        some ((-1), s_2)
theorem kX6_panOf (l : Launch) (D : va_G) (ct : Nat → ClassId) (A : Nat → Nat) (a1 : Int32) (s0 : Sg) (o : Int32 × Sg) (ho : fX6_panOf a1 s0 = some o) : Con l yX6_panOf cX6_panOf 2 (some .int) 1 D ct A [.ref (A 1), .int a1] s0 (embI o) := by
  refine con_start (by decide +kernel) (Nat.le_of_ble_eq_true rfl) ho (fun p e s m args below meth c C => ?_)
  refine m_loc (L2 := [(0, .ref (A 1)), (1, .int a1)]) [0, 1] rfl ?_
  unfold fX6_panOf
  refine m_iload_n C dX6_panOf_0 rfl ?_
  refine m_iconst C dX6_panOf_1 ci_0 ?_
  refine m_aload_n C dX6_panOf_2 rfl ?_
  refine m_get (v := .int (gi s0 1 6)) C fl_X6_36_6 rfl (by decide) rfl dX6_panOf_3 ?_
  refine m_iconst C dX6_panOf_6 ci_1 ?_
  refine m_isub C dX6_panOf_7 ?_
  refine m_callNZ C ml_X6_68 ⟨Nat.le_of_ble_eq_true rfl, Nat.le_of_ble_eq_true rfl⟩ [.int a1, .int 0, .int ((gi s0 1 6) - 1)] [] rfl rfl (Nat.le_of_ble_eq_true rfl) dX6_panOf_8 (fun o ho => kX9_within l D ct A a1 0 ((gi s0 1 6) - 1) s0 o ho) (fun r_1 s_2 => ?_)
  refine m_if_ne (tgt := 16) C dX6_panOf_11 rfl ?_ ?_
  · refine m_aload_n C dX6_panOf_16 rfl ?_
    refine m_get (v := .int (gi s_2 1 9)) C fl_X6_45_6 rfl (by decide) rfl dX6_panOf_17 ?_
    refine m_iload_n C dX6_panOf_20 rfl ?_
    refine m_ishr C dX6_panOf_21 ?_
    refine m_iconst C dX6_panOf_22 ci_1 ?_
    refine m_iand C dX6_panOf_23 ?_
    refine m_iconst C dX6_panOf_24 ci_1 ?_
    refine m_icmp_ne (tgt := 30) C dX6_panOf_25 rfl ?_ ?_
    · refine m_aload_n C dX6_panOf_30 rfl ?_
      refine m_get (v := .int (gi s_2 1 10)) C fl_X6_48_6 rfl (by decide) rfl dX6_panOf_31 ?_
      refine m_iload_n C dX6_panOf_34 rfl ?_
      refine m_ishr C dX6_panOf_35 ?_
      refine m_iconst C dX6_panOf_36 ci_1 ?_
      refine m_iand C dX6_panOf_37 ?_
      refine m_iconst C dX6_panOf_38 ci_1 ?_
      refine m_icmp_ne (tgt := 46) C dX6_panOf_39 rfl ?_ ?_
      · refine m_iconst C dX6_panOf_46 ci_m1 ?_
        exact m_iret C dX6_panOf_47
      · refine m_iconst C dX6_panOf_42 ci_1 ?_
        refine m_goto (tgt := 47) C dX6_panOf_43 rfl ?_
        exact m_iret C dX6_panOf_47
    · refine m_iconst C dX6_panOf_28 ci_0 ?_
      exact m_iret C dX6_panOf_29
  · refine m_iconst C dX6_panOf_14 ci_m1 ?_
    exact m_iret C dX6_panOf_15
def fX7_readNumber_11_b (rec11 : Sg → Option (Sg)) (s_3 : Sg) : Option (Sg) :=
  if (gi s_3 3 1) ≤ (gi s_3 3 4) then
    some s_3
  else
    chk (inb 300 (gi s_3 3 4)) <|
    bnd (fX7_isDigit (gi s_3 17 (ix (gi s_3 3 4))) s_3) fun r_5 s_6 =>
    if (b2i r_5) = 0 then
      some s_6
    else
      chk (inb 300 (gi s_6 3 4)) <|
      bv (si s_6 3 5 (imin (((gi s_6 3 5) * 10) + ((gi s_6 17 (ix (gi s_6 3 4))) - 48)) 10000)) fun s_8 =>
      bv (si s_8 3 4 ((gi s_8 3 4) + 1)) fun s_9 =>
      rec11 s_9
def fX7_readNumber (s0 : Sg) : Option (Sg) :=
  bv (si s0 3 2 17) fun s_1 =>
  bv (si s_1 3 5 0) fun s_2 =>
  lo1 (fX7_readNumber_11_b) FU s_2
theorem wX7_readNumber_11 {p : Program} {l : Launch} {e : Env} {s : State} {m : MethodId} {args : Array Value} {below : List Frame} {meth : Method} {c : Code} {D : va_G} {ct : Nat → ClassId} {A : Nat → Nat} (C : Cx p m c cX7_readNumber 1 s args yX7_readNumber.cls meth none D ct A) : ∀ (n : Nat) (s_3 : Sg), Wm p l e (rmD 1) s m args below meth c D ct A 1 embV 11 [(0, .ref (A 3))] [] s_3 (lo1 (fX7_readNumber_11_b) n s_3) := by
  intro n
  induction n with
  | zero => intro s_3; exact m_none
  | succ n hrec11 =>
    intro s_3
    refine (show Wm p l e (rmD 1) s m args below meth c D ct A 1 embV 11 [(0, .ref (A 3))] [] s_3 (fX7_readNumber_11_b (lo1 (fX7_readNumber_11_b) n) s_3) from ?_)
    generalize lo1 (fX7_readNumber_11_b) n = rec11 at hrec11 ⊢
    unfold fX7_readNumber_11_b
    refine m_aload_n C dX7_readNumber_11 rfl ?_
    refine m_get (v := .int (gi s_3 3 4)) C fl_X7_19_7 rfl (by decide) rfl dX7_readNumber_12 ?_
    refine m_aload_n C dX7_readNumber_15 rfl ?_
    refine m_get (v := .int (gi s_3 3 1)) C fl_X7_15_7 rfl (by decide) rfl dX7_readNumber_16 ?_
    refine m_icmp_ge (tgt := 80) C dX7_readNumber_19 rfl ?_ ?_
    · exact m_vret C dX7_readNumber_80
    · refine m_aload_n C dX7_readNumber_22 rfl ?_
      refine m_get (v := .ref (A 17)) C fl_X7_9_7 rfl (by decide) rfl dX7_readNumber_23 ?_
      refine m_aload_n C dX7_readNumber_26 rfl ?_
      refine m_get (v := .int (gi s_3 3 4)) C fl_X7_19_7 rfl (by decide) rfl dX7_readNumber_27 ?_
      refine m_chk (fun h_4 => ?_)
      refine m_bald C rfl h_4 dX7_readNumber_30 ?_
      refine m_callSZ C ml_X7_39 ⟨Nat.le_of_ble_eq_true rfl, Nat.le_of_ble_eq_true rfl⟩ [.int (gi s_3 17 (ix (gi s_3 3 4)))] [] rfl rfl (Nat.le_of_ble_eq_true rfl) dX7_readNumber_31 (fun o ho => kX7_isDigit l D ct A (gi s_3 17 (ix (gi s_3 3 4))) s_3 o ho) (fun r_5 s_6 => ?_)
      refine m_if_eq (tgt := 80) C dX7_readNumber_34 rfl ?_ ?_
      · exact m_vret C dX7_readNumber_80
      · refine m_aload_n C dX7_readNumber_37 rfl ?_
        refine m_aload_n C dX7_readNumber_38 rfl ?_
        refine m_get (v := .int (gi s_6 3 5)) C fl_X7_49_7 rfl (by decide) rfl dX7_readNumber_39 ?_
        refine m_bipush C dX7_readNumber_42 cb_10 ?_
        refine m_imul C dX7_readNumber_44 ?_
        refine m_aload_n C dX7_readNumber_45 rfl ?_
        refine m_get (v := .ref (A 17)) C fl_X7_9_7 rfl (by decide) rfl dX7_readNumber_46 ?_
        refine m_aload_n C dX7_readNumber_49 rfl ?_
        refine m_get (v := .int (gi s_6 3 4)) C fl_X7_19_7 rfl (by decide) rfl dX7_readNumber_50 ?_
        refine m_chk (fun h_7 => ?_)
        refine m_bald C rfl h_7 dX7_readNumber_53 ?_
        refine m_bipush C dX7_readNumber_54 cb_48 ?_
        refine m_isub C dX7_readNumber_56 ?_
        refine m_iadd C dX7_readNumber_57 ?_
        refine m_sipush C dX7_readNumber_58 cs_10000 ?_
        refine m_mmin C wd_531 ⟨by decide, Nat.le_of_ble_eq_true rfl⟩ dX7_readNumber_61 ?_
        refine m_puti C fl_X7_49_7 fw_7_5 rfl (by decide) rfl dX7_readNumber_64 (fun s_8 => ?_)
        refine m_aload_n C dX7_readNumber_67 rfl ?_
        refine m_dup C dX7_readNumber_68 rfl ?_
        refine m_get (v := .int (gi s_8 3 4)) C fl_X7_19_7 rfl (by decide) rfl dX7_readNumber_69 ?_
        refine m_iconst C dX7_readNumber_72 ci_1 ?_
        refine m_iadd C dX7_readNumber_73 ?_
        refine m_puti C fl_X7_19_7 fw_7_4 rfl (by decide) rfl dX7_readNumber_74 (fun s_9 => ?_)
        refine m_goto (tgt := 11) C dX7_readNumber_77 rfl ?_
        refine m_loc (L2 := [(0, .ref (A 3))]) [0] rfl ?_
        exact hrec11 s_9
theorem kX7_readNumber (l : Launch) (D : va_G) (ct : Nat → ClassId) (A : Nat → Nat) (s0 : Sg) (o : Sg) (ho : fX7_readNumber s0 = some o) : Con l yX7_readNumber cX7_readNumber 1 none 1 D ct A [.ref (A 3)] s0 (embV o) := by
  refine con_start (by decide +kernel) (Nat.le_of_ble_eq_true rfl) ho (fun p e s m args below meth c C => ?_)
  refine m_loc (L2 := [(0, .ref (A 3))]) [0] rfl ?_
  unfold fX7_readNumber
  refine m_aload_n C dX7_readNumber_0 rfl ?_
  refine m_bipush C dX7_readNumber_1 cb_17 ?_
  refine m_puti C fl_X7_28_7 fw_7_2 rfl (by decide) rfl dX7_readNumber_3 (fun s_1 => ?_)
  refine m_aload_n C dX7_readNumber_6 rfl ?_
  refine m_iconst C dX7_readNumber_7 ci_0 ?_
  refine m_puti C fl_X7_49_7 fw_7_5 rfl (by decide) rfl dX7_readNumber_8 (fun s_2 => ?_)
  refine m_loc (L2 := [(0, .ref (A 3))]) [0] rfl ?_
  exact wX7_readNumber_11 C FU s_2
def fX9_beam (a1 : Int32) (a2 : Int32) (a3 : Int32) (s0 : Sg) : Option (Bool × Sg) :=
  bnd (fX9_within a1 1 99 s0) fun r_1 s_2 =>
  if (b2i r_1) = 0 then
    some (false, s_2)
  else
    bnd (fX9_within a2 1 99 s_2) fun r_3 s_4 =>
    if (b2i r_3) = 0 then
      some (false, s_4)
    else
      bnd (fX9_within a3 0 9999 s_4) fun r_5 s_6 =>
      if (b2i r_5) = 0 then
        some (false, s_6)
      else
        bv (si s_6 1 0 a1) fun s_7 =>
        bv (si s_7 1 1 a2) fun s_8 =>
        bv (si s_8 1 2 a3) fun s_9 =>
        some (true, s_9)
theorem kX9_beam (l : Launch) (D : va_G) (ct : Nat → ClassId) (A : Nat → Nat) (a1 : Int32) (a2 : Int32) (a3 : Int32) (s0 : Sg) (o : Bool × Sg) (ho : fX9_beam a1 a2 a3 s0 = some o) : Con l yX9_beam cX9_beam 4 (some .boolean) 1 D ct A [.ref (A 0), .int a1, .int a2, .int a3] s0 (embZ o) := by
  refine con_start (by decide +kernel) (Nat.le_of_ble_eq_true rfl) ho (fun p e s m args below meth c C => ?_)
  refine m_loc (L2 := [(0, .ref (A 0)), (1, .int a1), (2, .int a2), (3, .int a3)]) [0, 1, 2, 3] rfl ?_
  unfold fX9_beam
  refine m_iload_n C dX9_beam_0 rfl ?_
  refine m_iconst C dX9_beam_1 ci_1 ?_
  refine m_bipush C dX9_beam_2 cb_99 ?_
  refine m_callSZ C ml_X9_63 ⟨Nat.le_of_ble_eq_true rfl, Nat.le_of_ble_eq_true rfl⟩ [.int a1, .int 1, .int 99] [] rfl rfl (Nat.le_of_ble_eq_true rfl) dX9_beam_4 (fun o ho => kX9_within l D ct A a1 1 99 s0 o ho) (fun r_1 s_2 => ?_)
  refine m_if_eq (tgt := 31) C dX9_beam_7 rfl ?_ ?_
  · refine m_iconst C dX9_beam_31 ci_0 ?_
    exact m_zret C false rfl dX9_beam_32
  · refine m_iload_n C dX9_beam_10 rfl ?_
    refine m_iconst C dX9_beam_11 ci_1 ?_
    refine m_bipush C dX9_beam_12 cb_99 ?_
    refine m_callSZ C ml_X9_63 ⟨Nat.le_of_ble_eq_true rfl, Nat.le_of_ble_eq_true rfl⟩ [.int a2, .int 1, .int 99] [] rfl rfl (Nat.le_of_ble_eq_true rfl) dX9_beam_14 (fun o ho => kX9_within l D ct A a2 1 99 s_2 o ho) (fun r_3 s_4 => ?_)
    refine m_if_eq (tgt := 31) C dX9_beam_17 rfl ?_ ?_
    · refine m_iconst C dX9_beam_31 ci_0 ?_
      exact m_zret C false rfl dX9_beam_32
    · refine m_iload_n C dX9_beam_20 rfl ?_
      refine m_iconst C dX9_beam_21 ci_0 ?_
      refine m_sipush C dX9_beam_22 cs_9999 ?_
      refine m_callSZ C ml_X9_63 ⟨Nat.le_of_ble_eq_true rfl, Nat.le_of_ble_eq_true rfl⟩ [.int a3, .int 0, .int 9999] [] rfl rfl (Nat.le_of_ble_eq_true rfl) dX9_beam_25 (fun o ho => kX9_within l D ct A a3 0 9999 s_4 o ho) (fun r_5 s_6 => ?_)
      refine m_if_ne (tgt := 33) C dX9_beam_28 rfl ?_ ?_
      · refine m_aload_n C dX9_beam_33 rfl ?_
        refine m_get (v := .ref (A 1)) C fl_X9_10_8 rfl (by decide) rfl dX9_beam_34 ?_
        refine m_iload_n C dX9_beam_37 rfl ?_
        refine m_puti C fl_X9_67_6 fw_6_0 rfl (by decide) rfl dX9_beam_38 (fun s_7 => ?_)
        refine m_aload_n C dX9_beam_41 rfl ?_
        refine m_get (v := .ref (A 1)) C fl_X9_10_8 rfl (by decide) rfl dX9_beam_42 ?_
        refine m_iload_n C dX9_beam_45 rfl ?_
        refine m_puti C fl_X9_71_6 fw_6_1 rfl (by decide) rfl dX9_beam_46 (fun s_8 => ?_)
        refine m_aload_n C dX9_beam_49 rfl ?_
        refine m_get (v := .ref (A 1)) C fl_X9_10_8 rfl (by decide) rfl dX9_beam_50 ?_
        refine m_iload_n C dX9_beam_53 rfl ?_
        refine m_puti C fl_X9_74_6 fw_6_2 rfl (by decide) rfl dX9_beam_54 (fun s_9 => ?_)
        refine m_iconst C dX9_beam_57 ci_1 ?_
        exact m_zret C true rfl dX9_beam_58
      · refine m_iconst C dX9_beam_31 ci_0 ?_
        exact m_zret C false rfl dX9_beam_32
def fX9_thing (a1 : Int32) (a2 : Int32) (s0 : Sg) : Option (Int32 × Sg) :=
  bnd (fX9_within a1 1 999 s0) fun r_1 s_2 =>
  if (b2i r_1) = 0 then
    some ((-1), s_2)
  else
    bnd (fX9_within a2 0 9 s_2) fun r_3 s_4 =>
    if (b2i r_3) = 0 then
      some ((-1), s_4)
    else
      if (gi s_4 1 6) < 12 then
        bv (gi s_4 1 6) fun v_5 =>
        chk (inb 12 v_5) <|
        bv (si s_4 9 (ix v_5) a1) fun s_7 =>
        bv (si s_7 10 (ix v_5) a2) fun s_8 =>
        bv (si s_8 1 6 (v_5 + 1)) fun s_9 =>
        some (v_5, s_9)
      else
        some ((-1), s_4)
theorem kX9_thing (l : Launch) (D : va_G) (ct : Nat → ClassId) (A : Nat → Nat) (a1 : Int32) (a2 : Int32) (s0 : Sg) (o : Int32 × Sg) (ho : fX9_thing a1 a2 s0 = some o) : Con l yX9_thing cX9_thing 4 (some .int) 1 D ct A [.ref (A 0), .int a1, .int a2] s0 (embI o) := by
  refine con_start (by decide +kernel) (Nat.le_of_ble_eq_true rfl) ho (fun p e s m args below meth c C => ?_)
  refine m_loc (L2 := [(0, .ref (A 0)), (1, .int a1), (2, .int a2)]) [0, 1, 2] rfl ?_
  unfold fX9_thing
  refine m_iload_n C dX9_thing_0 rfl ?_
  refine m_iconst C dX9_thing_1 ci_1 ?_
  refine m_sipush C dX9_thing_2 cs_999 ?_
  refine m_callSZ C ml_X9_63 ⟨Nat.le_of_ble_eq_true rfl, Nat.le_of_ble_eq_true rfl⟩ [.int a1, .int 1, .int 999] [] rfl rfl (Nat.le_of_ble_eq_true rfl) dX9_thing_5 (fun o ho => kX9_within l D ct A a1 1 999 s0 o ho) (fun r_1 s_2 => ?_)
  refine m_if_eq (tgt := 33) C dX9_thing_8 rfl ?_ ?_
  · refine m_iconst C dX9_thing_33 ci_m1 ?_
    exact m_iret C dX9_thing_34
  · refine m_iload_n C dX9_thing_11 rfl ?_
    refine m_iconst C dX9_thing_12 ci_0 ?_
    refine m_bipush C dX9_thing_13 cb_9 ?_
    refine m_callSZ C ml_X9_63 ⟨Nat.le_of_ble_eq_true rfl, Nat.le_of_ble_eq_true rfl⟩ [.int a2, .int 0, .int 9] [] rfl rfl (Nat.le_of_ble_eq_true rfl) dX9_thing_15 (fun o ho => kX9_within l D ct A a2 0 9 s_2 o ho) (fun r_3 s_4 => ?_)
    refine m_if_eq (tgt := 33) C dX9_thing_18 rfl ?_ ?_
    · refine m_iconst C dX9_thing_33 ci_m1 ?_
      exact m_iret C dX9_thing_34
    · refine m_aload_n C dX9_thing_21 rfl ?_
      refine m_get (v := .ref (A 1)) C fl_X9_10_8 rfl (by decide) rfl dX9_thing_22 ?_
      refine m_get (v := .int (gi s_4 1 6)) C fl_X9_77_6 rfl (by decide) rfl dX9_thing_25 ?_
      refine m_bipush C dX9_thing_28 cb_12 ?_
      refine m_icmp_lt (tgt := 35) C dX9_thing_30 rfl ?_ ?_
      · refine m_aload_n C dX9_thing_35 rfl ?_
        refine m_get (v := .ref (A 1)) C fl_X9_10_8 rfl (by decide) rfl dX9_thing_36 ?_
        refine m_get (v := .int (gi s_4 1 6)) C fl_X9_77_6 rfl (by decide) rfl dX9_thing_39 ?_
        refine m_let (fun v_5 => ?_)
        refine m_istore_n (L2 := [(3, .int v_5), (0, .ref (A 0)), (1, .int a1), (2, .int a2)]) C dX9_thing_42 rfl (by decide) rfl ?_
        refine m_aload_n C dX9_thing_43 rfl ?_
        refine m_get (v := .ref (A 1)) C fl_X9_10_8 rfl (by decide) rfl dX9_thing_44 ?_
        refine m_get (v := .ref (A 9)) C fl_X9_80_6 rfl (by decide) rfl dX9_thing_47 ?_
        refine m_iload_n C dX9_thing_50 rfl ?_
        refine m_iload_n C dX9_thing_51 rfl ?_
        refine m_chk (fun h_6 => ?_)
        refine m_iast C rfl h_6 dX9_thing_52 (fun s_7 => ?_)
        refine m_aload_n C dX9_thing_53 rfl ?_
        refine m_get (v := .ref (A 1)) C fl_X9_10_8 rfl (by decide) rfl dX9_thing_54 ?_
        refine m_get (v := .ref (A 10)) C fl_X9_84_6 rfl (by decide) rfl dX9_thing_57 ?_
        refine m_iload_n C dX9_thing_60 rfl ?_
        refine m_iload_n C dX9_thing_61 rfl ?_
        refine m_iast C rfl h_6 dX9_thing_62 (fun s_8 => ?_)
        refine m_aload_n C dX9_thing_63 rfl ?_
        refine m_get (v := .ref (A 1)) C fl_X9_10_8 rfl (by decide) rfl dX9_thing_64 ?_
        refine m_iload_n C dX9_thing_67 rfl ?_
        refine m_iconst C dX9_thing_68 ci_1 ?_
        refine m_iadd C dX9_thing_69 ?_
        refine m_puti C fl_X9_77_6 fw_6_6 rfl (by decide) rfl dX9_thing_70 (fun s_9 => ?_)
        refine m_iload_n C dX9_thing_73 rfl ?_
        exact m_iret C dX9_thing_74
      · refine m_iconst C dX9_thing_33 ci_m1 ?_
        exact m_iret C dX9_thing_34
def fX9_weather (a1 : Int32) (a2 : Int32) (a3 : Int32) (s0 : Sg) : Option (Bool × Sg) :=
  bnd (fX9_within a1 0 23 s0) fun r_1 s_2 =>
  if (b2i r_1) = 0 then
    some (false, s_2)
  else
    bnd (fX9_within a2 0 9 s_2) fun r_3 s_4 =>
    if (b2i r_3) = 0 then
      some (false, s_4)
    else
      bnd (fX9_within a3 (-9) 9 s_4) fun r_5 s_6 =>
      if (b2i r_5) = 0 then
        some (false, s_6)
      else
        bv (si s_6 1 3 a1) fun s_7 =>
        bv (si s_7 1 4 a2) fun s_8 =>
        bv (si s_8 1 5 a3) fun s_9 =>
        some (true, s_9)
theorem kX9_weather (l : Launch) (D : va_G) (ct : Nat → ClassId) (A : Nat → Nat) (a1 : Int32) (a2 : Int32) (a3 : Int32) (s0 : Sg) (o : Bool × Sg) (ho : fX9_weather a1 a2 a3 s0 = some o) : Con l yX9_weather cX9_weather 4 (some .boolean) 1 D ct A [.ref (A 0), .int a1, .int a2, .int a3] s0 (embZ o) := by
  refine con_start (by decide +kernel) (Nat.le_of_ble_eq_true rfl) ho (fun p e s m args below meth c C => ?_)
  refine m_loc (L2 := [(0, .ref (A 0)), (1, .int a1), (2, .int a2), (3, .int a3)]) [0, 1, 2, 3] rfl ?_
  unfold fX9_weather
  refine m_iload_n C dX9_weather_0 rfl ?_
  refine m_iconst C dX9_weather_1 ci_0 ?_
  refine m_bipush C dX9_weather_2 cb_23 ?_
  refine m_callSZ C ml_X9_63 ⟨Nat.le_of_ble_eq_true rfl, Nat.le_of_ble_eq_true rfl⟩ [.int a1, .int 0, .int 23] [] rfl rfl (Nat.le_of_ble_eq_true rfl) dX9_weather_4 (fun o ho => kX9_within l D ct A a1 0 23 s0 o ho) (fun r_1 s_2 => ?_)
  refine m_if_eq (tgt := 31) C dX9_weather_7 rfl ?_ ?_
  · refine m_iconst C dX9_weather_31 ci_0 ?_
    exact m_zret C false rfl dX9_weather_32
  · refine m_iload_n C dX9_weather_10 rfl ?_
    refine m_iconst C dX9_weather_11 ci_0 ?_
    refine m_bipush C dX9_weather_12 cb_9 ?_
    refine m_callSZ C ml_X9_63 ⟨Nat.le_of_ble_eq_true rfl, Nat.le_of_ble_eq_true rfl⟩ [.int a2, .int 0, .int 9] [] rfl rfl (Nat.le_of_ble_eq_true rfl) dX9_weather_14 (fun o ho => kX9_within l D ct A a2 0 9 s_2 o ho) (fun r_3 s_4 => ?_)
    refine m_if_eq (tgt := 31) C dX9_weather_17 rfl ?_ ?_
    · refine m_iconst C dX9_weather_31 ci_0 ?_
      exact m_zret C false rfl dX9_weather_32
    · refine m_iload_n C dX9_weather_20 rfl ?_
      refine m_bipush C dX9_weather_21 cb_m9 ?_
      refine m_bipush C dX9_weather_23 cb_9 ?_
      refine m_callSZ C ml_X9_63 ⟨Nat.le_of_ble_eq_true rfl, Nat.le_of_ble_eq_true rfl⟩ [.int a3, .int (-9), .int 9] [] rfl rfl (Nat.le_of_ble_eq_true rfl) dX9_weather_25 (fun o ho => kX9_within l D ct A a3 (-9) 9 s_4 o ho) (fun r_5 s_6 => ?_)
      refine m_if_ne (tgt := 33) C dX9_weather_28 rfl ?_ ?_
      · refine m_aload_n C dX9_weather_33 rfl ?_
        refine m_get (v := .ref (A 1)) C fl_X9_10_8 rfl (by decide) rfl dX9_weather_34 ?_
        refine m_iload_n C dX9_weather_37 rfl ?_
        refine m_puti C fl_X9_87_6 fw_6_3 rfl (by decide) rfl dX9_weather_38 (fun s_7 => ?_)
        refine m_aload_n C dX9_weather_41 rfl ?_
        refine m_get (v := .ref (A 1)) C fl_X9_10_8 rfl (by decide) rfl dX9_weather_42 ?_
        refine m_iload_n C dX9_weather_45 rfl ?_
        refine m_puti C fl_X9_90_6 fw_6_4 rfl (by decide) rfl dX9_weather_46 (fun s_8 => ?_)
        refine m_aload_n C dX9_weather_49 rfl ?_
        refine m_get (v := .ref (A 1)) C fl_X9_10_8 rfl (by decide) rfl dX9_weather_50 ?_
        refine m_iload_n C dX9_weather_53 rfl ?_
        refine m_puti C fl_X9_93_6 fw_6_5 rfl (by decide) rfl dX9_weather_54 (fun s_9 => ?_)
        refine m_iconst C dX9_weather_57 ci_1 ?_
        exact m_zret C true rfl dX9_weather_58
      · refine m_iconst C dX9_weather_31 ci_0 ?_
        exact m_zret C false rfl dX9_weather_32
def fX9_end (a1 : Int32) (s0 : Sg) : Option (Int32 × Sg) :=
  bnd (fX9_within a1 0 (gi s0 3 1) s0) fun r_1 s_2 =>
  if (b2i r_1) = 0 then
    some ((-1), s_2)
  else
    bv (si s_2 3 1 a1) fun s_3 =>
    some (a1, s_3)
theorem kX9_end (l : Launch) (D : va_G) (ct : Nat → ClassId) (A : Nat → Nat) (a1 : Int32) (s0 : Sg) (o : Int32 × Sg) (ho : fX9_end a1 s0 = some o) : Con l yX9_end cX9_end 2 (some .int) 1 D ct A [.ref (A 0), .int a1] s0 (embI o) := by
  refine con_start (by decide +kernel) (Nat.le_of_ble_eq_true rfl) ho (fun p e s m args below meth c C => ?_)
  refine m_loc (L2 := [(0, .ref (A 0)), (1, .int a1)]) [0, 1] rfl ?_
  unfold fX9_end
  refine m_iload_n C dX9_end_0 rfl ?_
  refine m_iconst C dX9_end_1 ci_0 ?_
  refine m_aload_n C dX9_end_2 rfl ?_
  refine m_get (v := .ref (A 3)) C fl_X9_22_8 rfl (by decide) rfl dX9_end_3 ?_
  refine m_get (v := .int (gi s0 3 1)) C fl_X9_96_7 rfl (by decide) rfl dX9_end_6 ?_
  refine m_callSZ C ml_X9_63 ⟨Nat.le_of_ble_eq_true rfl, Nat.le_of_ble_eq_true rfl⟩ [.int a1, .int 0, .int (gi s0 3 1)] [] rfl rfl (Nat.le_of_ble_eq_true rfl) dX9_end_9 (fun o ho => kX9_within l D ct A a1 0 (gi s0 3 1) s0 o ho) (fun r_1 s_2 => ?_)
  refine m_if_ne (tgt := 17) C dX9_end_12 rfl ?_ ?_
  · refine m_aload_n C dX9_end_17 rfl ?_
    refine m_get (v := .ref (A 3)) C fl_X9_22_8 rfl (by decide) rfl dX9_end_18 ?_
    refine m_iload_n C dX9_end_21 rfl ?_
    refine m_puti C fl_X9_96_7 fw_7_1 rfl (by decide) rfl dX9_end_22 (fun s_3 => ?_)
    refine m_iload_n C dX9_end_25 rfl ?_
    exact m_iret C dX9_end_26
  · refine m_iconst C dX9_end_15 ci_m1 ?_
    exact m_iret C dX9_end_16
def fX9_by (a1 : Int32) (s0 : Sg) : Option (Bool × Sg) :=
  bv (fun (s_1 : Sg) => 
    bv (si s_1 1 12 a1) fun s_3 =>
    bv (fun (y_4 : Nat) => 
      bv (sr s_3 1 13 y_4) fun s_6 =>
      some (true, s_6))
    fun k_5 =>
    if a1 = (-1) then
      k_5 0
    else
      chk (inb 4 a1) <|
      bv (48 + 5 * ix a1) fun q_8 =>
      chk (isScr q_8) <|
      k_5 q_8)
  fun k_2 =>
  if a1 = (-1) then
    k_2 s0
  else
    bnd (fX9_isText a1 s0) fun r_10 s_11 =>
    if (b2i r_10) = 0 then
      some (false, s_11)
    else
      k_2 s_11
theorem kX9_by (l : Launch) (D : va_G) (ct : Nat → ClassId) (A : Nat → Nat) (a1 : Int32) (s0 : Sg) (o : Bool × Sg) (ho : fX9_by a1 s0 = some o) : Con l yX9_by cX9_by 2 (some .boolean) 2 D ct A [.ref (A 0), .int a1] s0 (embZ o) := by
  refine con_start (by decide +kernel) (Nat.le_of_ble_eq_true rfl) ho (fun p e s m args below meth c C => ?_)
  refine m_loc (L2 := [(0, .ref (A 0)), (1, .int a1)]) [0, 1] rfl ?_
  unfold fX9_by
  refine m_iload_n C dX9_by_0 rfl ?_
  refine m_iconst C dX9_by_1 ci_m1 ?_
  refine m_jn (P := fun (k_2 : Sg → Option (Bool × Sg)) => ∀ (s_1 : Sg), Wm p l e (rmD 2) s m args below meth c D ct A 2 embZ 15 [(0, .ref (A 0)), (1, .int a1)] [] s_1 (k_2 s_1)) ?_ (fun k_2 hk_2 => ?_)
  · intro s_1
    refine m_aload_n C dX9_by_15 rfl ?_
    refine m_get (v := .ref (A 1)) C fl_X9_10_8 rfl (by decide) rfl dX9_by_16 ?_
    refine m_iload_n C dX9_by_19 rfl ?_
    refine m_puti C fl_X9_120_6 fw_6_12 rfl (by decide) rfl dX9_by_20 (fun s_3 => ?_)
    refine m_aload_n C dX9_by_23 rfl ?_
    refine m_get (v := .ref (A 1)) C fl_X9_10_8 rfl (by decide) rfl dX9_by_24 ?_
    refine m_iload_n C dX9_by_27 rfl ?_
    refine m_iconst C dX9_by_28 ci_m1 ?_
    refine m_jn (P := fun (k_5 : Nat → Option (Bool × Sg)) => ∀ (y_4 : Nat), Wm p l e (rmD 2) s m args below meth c D ct A 2 embZ 42 [] [rfv A y_4, .ref (A 1)] s_3 (k_5 y_4)) ?_ (fun k_5 hk_5 => ?_)
    · intro y_4
      refine m_putr C fl_X9_123_6 fw_6_13 rfl (by decide) rfl dX9_by_42 (fun s_6 => ?_)
      refine m_iconst C dX9_by_45 ci_1 ?_
      exact m_zret C true rfl dX9_by_46
    refine m_icmp_ne (tgt := 36) C dX9_by_29 rfl ?_ ?_
    · refine m_aload_n C dX9_by_36 rfl ?_
      refine m_get (v := .ref (A 5)) C fl_X9_37_8 rfl (by decide) rfl dX9_by_37 ?_
      refine m_iload_n C dX9_by_40 rfl ?_
      refine m_chk (fun h_7 => ?_)
      refine m_aald (cn := "DownByAHair$Script") C rfl rfl h_7 dX9_by_41 ?_
      refine m_letr (x := 48 + 5 * ix a1) (fun q_8 => ?_)
      refine m_chk (fun h_9 => ?_)
      refine m_fr (isScr_ne h_9) ?_
      refine m_loc (L2 := []) [] rfl ?_
      exact hk_5 q_8
    · refine m_null C dX9_by_32 ?_
      refine m_goto (tgt := 42) C dX9_by_33 rfl ?_
      refine m_loc (L2 := []) [] rfl ?_
      exact hk_5 0
  refine m_icmp_eq (tgt := 15) C dX9_by_2 rfl ?_ ?_
  · refine m_loc (L2 := [(0, .ref (A 0)), (1, .int a1)]) [0, 1] rfl ?_
    exact hk_2 s0
  · refine m_aload_n C dX9_by_5 rfl ?_
    refine m_iload_n C dX9_by_6 rfl ?_
    refine m_callVZ C ml_X9_116 ⟨Nat.le_of_ble_eq_true rfl, Nat.le_of_ble_eq_true rfl⟩ rfl rfl [.int a1] [] rfl rfl (Nat.le_of_ble_eq_true rfl) dX9_by_7 (fun o ho => kX9_isText l D ct A a1 s0 o ho) (fun r_10 s_11 => ?_)
    refine m_if_ne (tgt := 15) C dX9_by_10 rfl ?_ ?_
    · refine m_loc (L2 := [(0, .ref (A 0)), (1, .int a1)]) [0, 1] rfl ?_
      exact hk_2 s_11
    · refine m_iconst C dX9_by_13 ci_0 ?_
      exact m_zret C false rfl dX9_by_14
def fX9_pass (a1 : Int32) (s0 : Sg) : Option (Int32 × Sg) :=
  bnd (fX9_passHours a1 s0) fun r_1 s_2 =>
  if (b2i r_1) = 0 then
    some ((-1), s_2)
  else
    some (gi s_2 1 3, s_2)
theorem kX9_pass (l : Launch) (D : va_G) (ct : Nat → ClassId) (A : Nat → Nat) (a1 : Int32) (s0 : Sg) (o : Int32 × Sg) (ho : fX9_pass a1 s0 = some o) : Con l yX9_pass cX9_pass 2 (some .int) 3 D ct A [.ref (A 0), .int a1] s0 (embI o) := by
  refine con_start (by decide +kernel) (Nat.le_of_ble_eq_true rfl) ho (fun p e s m args below meth c C => ?_)
  refine m_loc (L2 := [(0, .ref (A 0)), (1, .int a1)]) [0, 1] rfl ?_
  unfold fX9_pass
  refine m_aload_n C dX9_pass_0 rfl ?_
  refine m_iload_n C dX9_pass_1 rfl ?_
  refine m_callVZ C ml_X9_144 ⟨Nat.le_of_ble_eq_true rfl, Nat.le_of_ble_eq_true rfl⟩ rfl rfl [.int a1] [] rfl rfl (Nat.le_of_ble_eq_true rfl) dX9_pass_2 (fun o ho => kX9_passHours l D ct A a1 s0 o ho) (fun r_1 s_2 => ?_)
  refine m_if_eq (tgt := 18) C dX9_pass_5 rfl ?_ ?_
  · refine m_iconst C dX9_pass_18 ci_m1 ?_
    exact m_iret C dX9_pass_19
  · refine m_aload_n C dX9_pass_8 rfl ?_
    refine m_get (v := .ref (A 1)) C fl_X9_10_8 rfl (by decide) rfl dX9_pass_9 ?_
    refine m_get (v := .int (gi s_2 1 3)) C fl_X9_87_6 rfl (by decide) rfl dX9_pass_12 ?_
    refine m_goto (tgt := 19) C dX9_pass_15 rfl ?_
    exact m_iret C dX9_pass_19
def fX9_balanced (a1 : Int32) (a2 : Int32) (s0 : Sg) : Option (Int32 × Sg) :=
  bnd (fX9_within a1 1 999 s0) fun r_1 s_2 =>
  if (b2i r_1) = 0 then
    some ((-1), s_2)
  else
    bnd (fX9_within a2 0 2 s_2) fun r_3 s_4 =>
    if (b2i r_3) = 0 then
      some ((-1), s_4)
    else
      bnd (fX0_find a1 s_4) fun r_5 s_6 =>
      if (b2i r_5) = 0 then
        some ((-1), s_6)
      else
        if a2 = 0 then
          bnd (fJ6_bitCount_0f7a4 (gi s_6 8 1) s_6) fun r_7 s_8 =>
          some (r_7, s_8)
        else
          if a2 = 1 then
            some (gi s_6 8 1, s_6)
          else
            some (gi s_6 8 2, s_6)
theorem kX9_balanced (l : Launch) (D : va_G) (ct : Nat → ClassId) (A : Nat → Nat) (a1 : Int32) (a2 : Int32) (s0 : Sg) (o : Int32 × Sg) (ho : fX9_balanced a1 a2 s0 = some o) : Con l yX9_balanced cX9_balanced 3 (some .int) 2 D ct A [.ref (A 0), .int a1, .int a2] s0 (embI o) := by
  refine con_start (by decide +kernel) (Nat.le_of_ble_eq_true rfl) ho (fun p e s m args below meth c C => ?_)
  refine m_loc (L2 := [(0, .ref (A 0)), (1, .int a1), (2, .int a2)]) [0, 1, 2] rfl ?_
  unfold fX9_balanced
  refine m_iload_n C dX9_balanced_0 rfl ?_
  refine m_iconst C dX9_balanced_1 ci_1 ?_
  refine m_sipush C dX9_balanced_2 cs_999 ?_
  refine m_callSZ C ml_X9_63 ⟨Nat.le_of_ble_eq_true rfl, Nat.le_of_ble_eq_true rfl⟩ [.int a1, .int 1, .int 999] [] rfl rfl (Nat.le_of_ble_eq_true rfl) dX9_balanced_5 (fun o ho => kX9_within l D ct A a1 1 999 s0 o ho) (fun r_1 s_2 => ?_)
  refine m_if_eq (tgt := 35) C dX9_balanced_8 rfl ?_ ?_
  · refine m_iconst C dX9_balanced_35 ci_m1 ?_
    exact m_iret C dX9_balanced_36
  · refine m_iload_n C dX9_balanced_11 rfl ?_
    refine m_iconst C dX9_balanced_12 ci_0 ?_
    refine m_iconst C dX9_balanced_13 ci_2 ?_
    refine m_callSZ C ml_X9_63 ⟨Nat.le_of_ble_eq_true rfl, Nat.le_of_ble_eq_true rfl⟩ [.int a2, .int 0, .int 2] [] rfl rfl (Nat.le_of_ble_eq_true rfl) dX9_balanced_14 (fun o ho => kX9_within l D ct A a2 0 2 s_2 o ho) (fun r_3 s_4 => ?_)
    refine m_if_eq (tgt := 35) C dX9_balanced_17 rfl ?_ ?_
    · refine m_iconst C dX9_balanced_35 ci_m1 ?_
      exact m_iret C dX9_balanced_36
    · refine m_aload_n C dX9_balanced_20 rfl ?_
      refine m_get (v := .ref (A 8)) C fl_X9_58_8 rfl (by decide) rfl dX9_balanced_21 ?_
      refine m_aload_n C dX9_balanced_24 rfl ?_
      refine m_get (v := .ref (A 1)) C fl_X9_10_8 rfl (by decide) rfl dX9_balanced_25 ?_
      refine m_iload_n C dX9_balanced_28 rfl ?_
      refine m_callVZ C ml_X9_245 ⟨Nat.le_of_ble_eq_true rfl, Nat.le_of_ble_eq_true rfl⟩ rfl rfl [.ref (A 1), .int a1] [] rfl rfl (Nat.le_of_ble_eq_true rfl) dX9_balanced_29 (fun o ho => kX0_find l D ct A a1 s_4 o ho) (fun r_5 s_6 => ?_)
      refine m_if_ne (tgt := 37) C dX9_balanced_32 rfl ?_ ?_
      · refine m_iload_n C dX9_balanced_37 rfl ?_
        refine m_lku C dX9_balanced_38 (by decide +kernel) 0 26 64 (by decide +kernel) ?_ (fun h_9 => ?_)
        · refine m_aload_n C dX9_balanced_64 rfl ?_
          refine m_get (v := .ref (A 8)) C fl_X9_58_8 rfl (by decide) rfl dX9_balanced_65 ?_
          refine m_get (v := .int (gi s_6 8 1)) C fl_X9_249_0 rfl (by decide) rfl dX9_balanced_68 ?_
          refine m_callSI C ml_X9_201 ⟨Nat.le_of_ble_eq_true rfl, Nat.le_of_ble_eq_true rfl⟩ [.int (gi s_6 8 1)] [] rfl rfl (Nat.le_of_ble_eq_true rfl) dX9_balanced_71 (fun o ho => kJ6_bitCount_0f7a4 l D ct A (gi s_6 8 1) s_6 o ho) (fun r_7 s_8 => ?_)
          refine m_goto (tgt := 94) C dX9_balanced_74 rfl ?_
          exact m_iret C dX9_balanced_94
        · refine m_lku C dX9_balanced_38 (by decide +kernel) 1 39 77 (by decide +kernel) ?_ (fun h_10 => ?_)
          · refine m_aload_n C dX9_balanced_77 rfl ?_
            refine m_get (v := .ref (A 8)) C fl_X9_58_8 rfl (by decide) rfl dX9_balanced_78 ?_
            refine m_get (v := .int (gi s_6 8 1)) C fl_X9_249_0 rfl (by decide) rfl dX9_balanced_81 ?_
            refine m_goto (tgt := 94) C dX9_balanced_84 rfl ?_
            exact m_iret C dX9_balanced_94
          · refine m_lkuD C dX9_balanced_38 (by decide +kernel) 87 rfl (by rw [lv_osw h_9 (by decide)]; rw [lv_osw h_10 (by decide)]; rfl) ?_
            refine m_aload_n C dX9_balanced_87 rfl ?_
            refine m_get (v := .ref (A 8)) C fl_X9_58_8 rfl (by decide) rfl dX9_balanced_88 ?_
            refine m_get (v := .int (gi s_6 8 2)) C fl_X9_252_0 rfl (by decide) rfl dX9_balanced_91 ?_
            exact m_iret C dX9_balanced_94
      · refine m_iconst C dX9_balanced_35 ci_m1 ?_
        exact m_iret C dX9_balanced_36
def fX9_weights_33_b (v_5 : Int32) (k_7 : Int32 → Option (Int32 × Sg)) (rec33 : Int32 → Int32 → Option (Int32 × Sg)) (x4_9 : Int32) (x5_10 : Int32) : Option (Int32 × Sg) :=
  if 4 ≤ x5_10 then
    k_7 x4_9
  else
    chk (inb 160 (v_5 + x5_10)) <|
    bv (fun (y_12 : Int32) (y_13 : Bool) => 
      bv (y_12 + (b2i y_13)) fun v_15 =>
      bv (x5_10 + 1) fun v_16 =>
      rec33 v_15 v_16)
    fun k_14 =>
    if (tF.getD (ix (v_5 + x5_10)) 0) ≤ 0 then
      k_14 x4_9 false
    else
      k_14 x4_9 true
def fX9_weights (a1 : Int32) (a2 : Int32) (s0 : Sg) : Option (Int32 × Sg) :=
  bnd (fX9_within a1 1 40 s0) fun r_1 s_2 =>
  if (b2i r_1) = 0 then
    some ((-1), s_2)
  else
    bnd (fX9_within a2 (-1) 3 s_2) fun r_3 s_4 =>
    if (b2i r_3) = 0 then
      some ((-1), s_4)
    else
      bv ((a1 - 1) * 4) fun v_5 =>
      bv (fun (x4_6 : Int32) => 
        if a2 = (-1) then
          some (x4_6, s_4)
        else
          if x4_6 ≤ a2 then
            some ((-1), s_4)
          else
            chk (inb 160 (v_5 + a2)) <|
            some (tF.getD (ix (v_5 + a2)) 0, s_4))
      fun k_7 =>
      lo2 (fX9_weights_33_b v_5 k_7) FU 0 0
theorem wX9_weights_33 {p : Program} {l : Launch} {e : Env} {s : State} {m : MethodId} {args : Array Value} {below : List Frame} {meth : Method} {c : Code} {D : va_G} {ct : Nat → ClassId} {A : Nat → Nat} (C : Cx p m c cX9_weights 6 s args yX9_weights.cls meth (some .int) D ct A) (a2 : Int32) (s_4 : Sg) (v_5 : Int32) (k_7 : Int32 → Option (Int32 × Sg)) (hk_7 : ∀ (x4_6 : Int32), Wm p l e (rmD 1) s m args below meth c D ct A 6 embI 66 [(2, .int a2), (3, .int v_5), (4, .int x4_6)] [] s_4 (k_7 x4_6)) : ∀ (n : Nat) (x4_9 : Int32) (x5_10 : Int32), Wm p l e (rmD 1) s m args below meth c D ct A 6 embI 33 [(2, .int a2), (3, .int v_5), (4, .int x4_9), (5, .int x5_10)] [] s_4 (lo2 (fX9_weights_33_b v_5 k_7) n x4_9 x5_10) := by
  intro n
  induction n with
  | zero => intro x4_9 x5_10; exact m_none
  | succ n hrec33 =>
    intro x4_9 x5_10
    refine (show Wm p l e (rmD 1) s m args below meth c D ct A 6 embI 33 [(2, .int a2), (3, .int v_5), (4, .int x4_9), (5, .int x5_10)] [] s_4 (fX9_weights_33_b v_5 k_7 (lo2 (fX9_weights_33_b v_5 k_7) n) x4_9 x5_10) from ?_)
    generalize lo2 (fX9_weights_33_b v_5 k_7) n = rec33 at hrec33 ⊢
    unfold fX9_weights_33_b
    refine m_iload C dX9_weights_33 rfl ?_
    refine m_iconst C dX9_weights_35 ci_4 ?_
    refine m_icmp_ge (tgt := 66) C dX9_weights_36 rfl ?_ ?_
    · refine m_loc (L2 := [(2, .int a2), (3, .int v_5), (4, .int x4_9)]) [0, 1, 2] rfl ?_
      exact hk_7 x4_9
    · refine m_iload C dX9_weights_39 rfl ?_
      refine m_getsF C wd_853 dX9_weights_41 ?_
      refine m_iload_n C dX9_weights_44 rfl ?_
      refine m_iload C dX9_weights_45 rfl ?_
      refine m_iadd C dX9_weights_47 ?_
      refine m_chk (fun h_11 => ?_)
      refine m_saldF C h_11 dX9_weights_48 ?_
      refine m_jn (P := fun (k_14 : Int32 → Bool → Option (Int32 × Sg)) => ∀ (y_12 : Int32) (y_13 : Bool), Wm p l e (rmD 1) s m args below meth c D ct A 6 embI 57 [(2, .int a2), (3, .int v_5), (5, .int x5_10)] [.int (b2i y_13), .int y_12] s_4 (k_14 y_12 y_13)) ?_ (fun k_14 hk_14 => ?_)
      · intro y_12 y_13
        refine m_iadd C dX9_weights_57 ?_
        refine m_let (fun v_15 => ?_)
        refine m_istore (L2 := [(4, .int v_15), (2, .int a2), (3, .int v_5), (5, .int x5_10)]) C dX9_weights_58 (by decide) rfl ?_
        refine m_iincb (L2 := fun v_16 => [(5, .int v_16), (4, .int v_15), (2, .int a2), (3, .int v_5)]) (q := 3) C dX9_weights_60 rfl ci_1 (by decide) (fun _ => rfl) (fun v_16 => ?_)
        refine m_goto (tgt := 33) C dX9_weights_63 rfl ?_
        refine m_loc (L2 := [(2, .int a2), (3, .int v_5), (4, .int v_15), (5, .int v_16)]) [2, 3, 1, 0] rfl ?_
        exact hrec33 v_15 v_16
      refine m_if_le (tgt := 56) C dX9_weights_49 rfl ?_ ?_
      · refine m_iconst C dX9_weights_56 ci_0 ?_
        refine m_loc (L2 := [(2, .int a2), (3, .int v_5), (5, .int x5_10)]) [0, 1, 3] rfl ?_
        exact hk_14 x4_9 false
      · refine m_iconst C dX9_weights_52 ci_1 ?_
        refine m_goto (tgt := 57) C dX9_weights_53 rfl ?_
        refine m_loc (L2 := [(2, .int a2), (3, .int v_5), (5, .int x5_10)]) [0, 1, 3] rfl ?_
        exact hk_14 x4_9 true
theorem kX9_weights (l : Launch) (D : va_G) (ct : Nat → ClassId) (A : Nat → Nat) (a1 : Int32) (a2 : Int32) (s0 : Sg) (o : Int32 × Sg) (ho : fX9_weights a1 a2 s0 = some o) : Con l yX9_weights cX9_weights 6 (some .int) 1 D ct A [.ref (A 0), .int a1, .int a2] s0 (embI o) := by
  refine con_start (by decide +kernel) (Nat.le_of_ble_eq_true rfl) ho (fun p e s m args below meth c C => ?_)
  refine m_loc (L2 := [(0, .ref (A 0)), (1, .int a1), (2, .int a2)]) [0, 1, 2] rfl ?_
  unfold fX9_weights
  refine m_iload_n C dX9_weights_0 rfl ?_
  refine m_iconst C dX9_weights_1 ci_1 ?_
  refine m_bipush C dX9_weights_2 cb_40 ?_
  refine m_callSZ C ml_X9_63 ⟨Nat.le_of_ble_eq_true rfl, Nat.le_of_ble_eq_true rfl⟩ [.int a1, .int 1, .int 40] [] rfl rfl (Nat.le_of_ble_eq_true rfl) dX9_weights_4 (fun o ho => kX9_within l D ct A a1 1 40 s0 o ho) (fun r_1 s_2 => ?_)
  refine m_if_eq (tgt := 19) C dX9_weights_7 rfl ?_ ?_
  · refine m_iconst C dX9_weights_19 ci_m1 ?_
    exact m_iret C dX9_weights_20
  · refine m_iload_n C dX9_weights_10 rfl ?_
    refine m_iconst C dX9_weights_11 ci_m1 ?_
    refine m_iconst C dX9_weights_12 ci_3 ?_
    refine m_callSZ C ml_X9_63 ⟨Nat.le_of_ble_eq_true rfl, Nat.le_of_ble_eq_true rfl⟩ [.int a2, .int (-1), .int 3] [] rfl rfl (Nat.le_of_ble_eq_true rfl) dX9_weights_13 (fun o ho => kX9_within l D ct A a2 (-1) 3 s_2 o ho) (fun r_3 s_4 => ?_)
    refine m_if_ne (tgt := 21) C dX9_weights_16 rfl ?_ ?_
    · refine m_iload_n C dX9_weights_21 rfl ?_
      refine m_iconst C dX9_weights_22 ci_1 ?_
      refine m_isub C dX9_weights_23 ?_
      refine m_iconst C dX9_weights_24 ci_4 ?_
      refine m_imul C dX9_weights_25 ?_
      refine m_let (fun v_5 => ?_)
      refine m_istore_n (L2 := [(3, .int v_5), (0, .ref (A 0)), (1, .int a1), (2, .int a2)]) C dX9_weights_26 rfl (by decide) rfl ?_
      refine m_iconst C dX9_weights_27 ci_0 ?_
      refine m_istore (L2 := [(4, .int 0), (3, .int v_5), (0, .ref (A 0)), (1, .int a1), (2, .int a2)]) C dX9_weights_28 (by decide) rfl ?_
      refine m_iconst C dX9_weights_30 ci_0 ?_
      refine m_istore (L2 := [(5, .int 0), (4, .int 0), (3, .int v_5), (0, .ref (A 0)), (1, .int a1), (2, .int a2)]) C dX9_weights_31 (by decide) rfl ?_
      refine m_jn (P := fun (k_7 : Int32 → Option (Int32 × Sg)) => ∀ (x4_6 : Int32), Wm p l e (rmD 1) s m args below meth c D ct A 6 embI 66 [(2, .int a2), (3, .int v_5), (4, .int x4_6)] [] s_4 (k_7 x4_6)) ?_ (fun k_7 hk_7 => ?_)
      · intro x4_6
        refine m_iload_n C dX9_weights_66 rfl ?_
        refine m_iconst C dX9_weights_67 ci_m1 ?_
        refine m_icmp_ne (tgt := 74) C dX9_weights_68 rfl ?_ ?_
        · refine m_iload_n C dX9_weights_74 rfl ?_
          refine m_iload C dX9_weights_75 rfl ?_
          refine m_icmp_ge (tgt := 90) C dX9_weights_77 rfl ?_ ?_
          · refine m_iconst C dX9_weights_90 ci_m1 ?_
            exact m_iret C dX9_weights_91
          · refine m_getsF C wd_853 dX9_weights_80 ?_
            refine m_iload_n C dX9_weights_83 rfl ?_
            refine m_iload_n C dX9_weights_84 rfl ?_
            refine m_iadd C dX9_weights_85 ?_
            refine m_chk (fun h_8 => ?_)
            refine m_saldF C h_8 dX9_weights_86 ?_
            refine m_goto (tgt := 91) C dX9_weights_87 rfl ?_
            exact m_iret C dX9_weights_91
        · refine m_iload C dX9_weights_71 rfl ?_
          exact m_iret C dX9_weights_73
      refine m_loc (L2 := [(2, .int a2), (3, .int v_5), (4, .int 0), (5, .int 0)]) [5, 2, 1, 0] rfl ?_
      exact wX9_weights_33 C a2 s_4 v_5 k_7 hk_7 FU 0 0
    · refine m_iconst C dX9_weights_19 ci_m1 ?_
      exact m_iret C dX9_weights_20
def fX9_image (s0 : Sg) : Option (Int32 × Sg) :=
  bnv (fX6_copyFrom_i s0) fun s_1 =>
  some (gi s_1 1 6, s_1)
theorem kX9_image (l : Launch) (D : va_G) (ct : Nat → ClassId) (A : Nat → Nat) (s0 : Sg) (o : Int32 × Sg) (ho : fX9_image s0 = some o) : Con l yX9_image cX9_image 1 (some .int) 3 D ct A [.ref (A 0)] s0 (embI o) := by
  refine con_start (by decide +kernel) (Nat.le_of_ble_eq_true rfl) ho (fun p e s m args below meth c C => ?_)
  refine m_loc (L2 := [(0, .ref (A 0))]) [0] rfl ?_
  unfold fX9_image
  refine m_aload_n C dX9_image_0 rfl ?_
  refine m_get (v := .ref (A 2)) C fl_X9_16_8 rfl (by decide) rfl dX9_image_1 ?_
  refine m_aload_n C dX9_image_4 rfl ?_
  refine m_get (v := .ref (A 1)) C fl_X9_10_8 rfl (by decide) rfl dX9_image_5 ?_
  refine m_callVV C ml_X9_269 ⟨Nat.le_of_ble_eq_true rfl, Nat.le_of_ble_eq_true rfl⟩ rfl rfl [.ref (A 1)] [] rfl rfl (Nat.le_of_ble_eq_true rfl) dX9_image_8 (fun o ho => kX6_copyFrom_i l D ct A s0 o ho) (fun s_1 => ?_)
  refine m_aload_n C dX9_image_11 rfl ?_
  refine m_get (v := .ref (A 1)) C fl_X9_10_8 rfl (by decide) rfl dX9_image_12 ?_
  refine m_get (v := .int (gi s_1 1 6)) C fl_X9_77_6 rfl (by decide) rfl dX9_image_15 ?_
  exact m_iret C dX9_image_18
def fX9_back (s0 : Sg) : Option (Int32 × Sg) :=
  bnv (fX6_copyFrom_b s0) fun s_1 =>
  some (gi s_1 1 6, s_1)
theorem kX9_back (l : Launch) (D : va_G) (ct : Nat → ClassId) (A : Nat → Nat) (s0 : Sg) (o : Int32 × Sg) (ho : fX9_back s0 = some o) : Con l yX9_back cX9_back 1 (some .int) 3 D ct A [.ref (A 0)] s0 (embI o) := by
  refine con_start (by decide +kernel) (Nat.le_of_ble_eq_true rfl) ho (fun p e s m args below meth c C => ?_)
  refine m_loc (L2 := [(0, .ref (A 0))]) [0] rfl ?_
  unfold fX9_back
  refine m_aload_n C dX9_back_0 rfl ?_
  refine m_get (v := .ref (A 1)) C fl_X9_10_8 rfl (by decide) rfl dX9_back_1 ?_
  refine m_aload_n C dX9_back_4 rfl ?_
  refine m_get (v := .ref (A 2)) C fl_X9_16_8 rfl (by decide) rfl dX9_back_5 ?_
  refine m_callVV C ml_X9_269 ⟨Nat.le_of_ble_eq_true rfl, Nat.le_of_ble_eq_true rfl⟩ rfl rfl [.ref (A 2)] [] rfl rfl (Nat.le_of_ble_eq_true rfl) dX9_back_8 (fun o ho => kX6_copyFrom_b l D ct A s0 o ho) (fun s_1 => ?_)
  refine m_aload_n C dX9_back_11 rfl ?_
  refine m_get (v := .ref (A 1)) C fl_X9_10_8 rfl (by decide) rfl dX9_back_12 ?_
  refine m_get (v := .int (gi s_1 1 6)) C fl_X9_77_6 rfl (by decide) rfl dX9_back_15 ?_
  exact m_iret C dX9_back_18
def fX9_isLoadable (a1 : Int32) (a2 : Int32) (s0 : Sg) : Option (Bool × Sg) :=
  bv ((1 <<< ((gi s0 1 6) &&& 31)) - 1) fun v_1 =>
  bv (v_1 &&& (((gi s0 1 9) ||| (gi s0 1 10)) ^^^ (-1))) fun v_2 =>
  if (a1 &&& (v_2 ^^^ (-1))) = 0 then
    if (a2 &&& (a1 ^^^ (-1))) = 0 then
      bnd (fJ6_bitCount_0f7a4 a1 s0) fun r_3 s_4 =>
      if 10 < r_3 then
        some (false, s_4)
      else
        some (true, s_4)
    else
      some (false, s0)
  else
    some (false, s0)
theorem kX9_isLoadable (l : Launch) (D : va_G) (ct : Nat → ClassId) (A : Nat → Nat) (a1 : Int32) (a2 : Int32) (s0 : Sg) (o : Bool × Sg) (ho : fX9_isLoadable a1 a2 s0 = some o) : Con l yX9_isLoadable cX9_isLoadable 5 (some .boolean) 1 D ct A [.ref (A 0), .int a1, .int a2] s0 (embZ o) := by
  refine con_start (by decide +kernel) (Nat.le_of_ble_eq_true rfl) ho (fun p e s m args below meth c C => ?_)
  refine m_loc (L2 := [(0, .ref (A 0)), (1, .int a1), (2, .int a2)]) [0, 1, 2] rfl ?_
  unfold fX9_isLoadable
  refine m_iconst C dX9_isLoadable_0 ci_1 ?_
  refine m_aload_n C dX9_isLoadable_1 rfl ?_
  refine m_get (v := .ref (A 1)) C fl_X9_10_8 rfl (by decide) rfl dX9_isLoadable_2 ?_
  refine m_get (v := .int (gi s0 1 6)) C fl_X9_77_6 rfl (by decide) rfl dX9_isLoadable_5 ?_
  refine m_ishl C dX9_isLoadable_8 ?_
  refine m_iconst C dX9_isLoadable_9 ci_1 ?_
  refine m_isub C dX9_isLoadable_10 ?_
  refine m_let (fun v_1 => ?_)
  refine m_istore_n (L2 := [(3, .int v_1), (0, .ref (A 0)), (1, .int a1), (2, .int a2)]) C dX9_isLoadable_11 rfl (by decide) rfl ?_
  refine m_iload_n C dX9_isLoadable_12 rfl ?_
  refine m_aload_n C dX9_isLoadable_13 rfl ?_
  refine m_get (v := .ref (A 1)) C fl_X9_10_8 rfl (by decide) rfl dX9_isLoadable_14 ?_
  refine m_get (v := .int (gi s0 1 9)) C fl_X9_258_6 rfl (by decide) rfl dX9_isLoadable_17 ?_
  refine m_aload_n C dX9_isLoadable_20 rfl ?_
  refine m_get (v := .ref (A 1)) C fl_X9_10_8 rfl (by decide) rfl dX9_isLoadable_21 ?_
  refine m_get (v := .int (gi s0 1 10)) C fl_X9_259_6 rfl (by decide) rfl dX9_isLoadable_24 ?_
  refine m_ior C dX9_isLoadable_27 ?_
  refine m_iconst C dX9_isLoadable_28 ci_m1 ?_
  refine m_ixor C dX9_isLoadable_29 ?_
  refine m_iand C dX9_isLoadable_30 ?_
  refine m_let (fun v_2 => ?_)
  refine m_istore (L2 := [(4, .int v_2), (3, .int v_1), (0, .ref (A 0)), (1, .int a1), (2, .int a2)]) C dX9_isLoadable_31 (by decide) rfl ?_
  refine m_iload_n C dX9_isLoadable_33 rfl ?_
  refine m_iload C dX9_isLoadable_34 rfl ?_
  refine m_iconst C dX9_isLoadable_36 ci_m1 ?_
  refine m_ixor C dX9_isLoadable_37 ?_
  refine m_iand C dX9_isLoadable_38 ?_
  refine m_if_ne (tgt := 63) C dX9_isLoadable_39 rfl ?_ ?_
  · refine m_iconst C dX9_isLoadable_63 ci_0 ?_
    exact m_zret C false rfl dX9_isLoadable_64
  · refine m_iload_n C dX9_isLoadable_42 rfl ?_
    refine m_iload_n C dX9_isLoadable_43 rfl ?_
    refine m_iconst C dX9_isLoadable_44 ci_m1 ?_
    refine m_ixor C dX9_isLoadable_45 ?_
    refine m_iand C dX9_isLoadable_46 ?_
    refine m_if_ne (tgt := 63) C dX9_isLoadable_47 rfl ?_ ?_
    · refine m_iconst C dX9_isLoadable_63 ci_0 ?_
      exact m_zret C false rfl dX9_isLoadable_64
    · refine m_iload_n C dX9_isLoadable_50 rfl ?_
      refine m_callSI C ml_X9_201 ⟨Nat.le_of_ble_eq_true rfl, Nat.le_of_ble_eq_true rfl⟩ [.int a1] [] rfl rfl (Nat.le_of_ble_eq_true rfl) dX9_isLoadable_51 (fun o ho => kJ6_bitCount_0f7a4 l D ct A a1 s0 o ho) (fun r_3 s_4 => ?_)
      refine m_bipush C dX9_isLoadable_54 cb_10 ?_
      refine m_icmp_gt (tgt := 63) C dX9_isLoadable_56 rfl ?_ ?_
      · refine m_iconst C dX9_isLoadable_63 ci_0 ?_
        exact m_zret C false rfl dX9_isLoadable_64
      · refine m_iconst C dX9_isLoadable_59 ci_1 ?_
        refine m_goto (tgt := 64) C dX9_isLoadable_60 rfl ?_
        exact m_zret C true rfl dX9_isLoadable_64
def fX9_armsFitReadings_2_b (a1 : Int32) (a2 : Int32) (rec2 : Int32 → Sg → Option (Bool × Sg)) (x3_1 : Int32) (s_2 : Sg) : Option (Bool × Sg) :=
  if (gi s_2 1 17) ≤ x3_1 then
    some (true, s_2)
  else
    chk (inb 10 x3_1) <|
    bv (68 + 1 * ix x3_1) fun q_4 =>
    chk (isRd q_4) <|
    bnd (fX3_agrees q_4 a1 a2 s_2) fun r_6 s_7 =>
    if (b2i r_6) = 0 then
      some (false, s_7)
    else
      bv (x3_1 + 1) fun v_8 =>
      rec2 v_8 s_7
def fX9_armsFitReadings (a1 : Int32) (a2 : Int32) (s0 : Sg) : Option (Bool × Sg) :=
  lo2 (fX9_armsFitReadings_2_b a1 a2) FU 0 s0
theorem wX9_armsFitReadings_2 {p : Program} {l : Launch} {e : Env} {s : State} {m : MethodId} {args : Array Value} {below : List Frame} {meth : Method} {c : Code} {D : va_G} {ct : Nat → ClassId} {A : Nat → Nat} (C : Cx p m c cX9_armsFitReadings 4 s args yX9_armsFitReadings.cls meth (some .boolean) D ct A) (a1 : Int32) (a2 : Int32) : ∀ (n : Nat) (x3_1 : Int32) (s_2 : Sg), Wm p l e (rmD 2) s m args below meth c D ct A 4 embZ 2 [(0, .ref (A 0)), (1, .int a1), (2, .int a2), (3, .int x3_1)] [] s_2 (lo2 (fX9_armsFitReadings_2_b a1 a2) n x3_1 s_2) := by
  intro n
  induction n with
  | zero => intro x3_1 s_2; exact m_none
  | succ n hrec2 =>
    intro x3_1 s_2
    refine (show Wm p l e (rmD 2) s m args below meth c D ct A 4 embZ 2 [(0, .ref (A 0)), (1, .int a1), (2, .int a2), (3, .int x3_1)] [] s_2 (fX9_armsFitReadings_2_b a1 a2 (lo2 (fX9_armsFitReadings_2_b a1 a2) n) x3_1 s_2) from ?_)
    generalize lo2 (fX9_armsFitReadings_2_b a1 a2) n = rec2 at hrec2 ⊢
    unfold fX9_armsFitReadings_2_b
    refine m_iload_n C dX9_armsFitReadings_2 rfl ?_
    refine m_aload_n C dX9_armsFitReadings_3 rfl ?_
    refine m_get (v := .ref (A 1)) C fl_X9_10_8 rfl (by decide) rfl dX9_armsFitReadings_4 ?_
    refine m_get (v := .int (gi s_2 1 17)) C fl_X9_215_6 rfl (by decide) rfl dX9_armsFitReadings_7 ?_
    refine m_icmp_ge (tgt := 38) C dX9_armsFitReadings_10 rfl ?_ ?_
    · refine m_iconst C dX9_armsFitReadings_38 ci_1 ?_
      exact m_zret C true rfl dX9_armsFitReadings_39
    · refine m_aload_n C dX9_armsFitReadings_13 rfl ?_
      refine m_get (v := .ref (A 1)) C fl_X9_10_8 rfl (by decide) rfl dX9_armsFitReadings_14 ?_
      refine m_get (v := .ref (A 12)) C fl_X9_218_6 rfl (by decide) rfl dX9_armsFitReadings_17 ?_
      refine m_iload_n C dX9_armsFitReadings_20 rfl ?_
      refine m_chk (fun h_3 => ?_)
      refine m_aald (cn := "DownByAHair$Reading") C rfl rfl h_3 dX9_armsFitReadings_21 ?_
      refine m_letr (x := 68 + 1 * ix x3_1) (fun q_4 => ?_)
      refine m_chk (fun h_5 => ?_)
      refine m_iload_n C dX9_armsFitReadings_22 rfl ?_
      refine m_iload_n C dX9_armsFitReadings_23 rfl ?_
      refine m_callVZ C ml_X9_288 ⟨Nat.le_of_ble_eq_true rfl, Nat.le_of_ble_eq_true rfl⟩ (lay_rd h_5) rfl [.int a1, .int a2] [] rfl rfl (Nat.le_of_ble_eq_true rfl) dX9_armsFitReadings_24 (fun o ho => kX3_agrees l D ct A q_4 a1 a2 h_5 s_2 o ho) (fun r_6 s_7 => ?_)
      refine m_if_ne (tgt := 32) C dX9_armsFitReadings_27 rfl ?_ ?_
      · refine m_iincb (L2 := fun v_8 => [(3, .int v_8), (0, .ref (A 0)), (1, .int a1), (2, .int a2)]) (q := 3) C dX9_armsFitReadings_32 rfl ci_1 (by decide) (fun _ => rfl) (fun v_8 => ?_)
        refine m_goto (tgt := 2) C dX9_armsFitReadings_35 rfl ?_
        refine m_loc (L2 := [(0, .ref (A 0)), (1, .int a1), (2, .int a2), (3, .int v_8)]) [1, 2, 3, 0] rfl ?_
        exact hrec2 v_8 s_7
      · refine m_iconst C dX9_armsFitReadings_30 ci_0 ?_
        exact m_zret C false rfl dX9_armsFitReadings_31
theorem kX9_armsFitReadings (l : Launch) (D : va_G) (ct : Nat → ClassId) (A : Nat → Nat) (a1 : Int32) (a2 : Int32) (s0 : Sg) (o : Bool × Sg) (ho : fX9_armsFitReadings a1 a2 s0 = some o) : Con l yX9_armsFitReadings cX9_armsFitReadings 4 (some .boolean) 2 D ct A [.ref (A 0), .int a1, .int a2] s0 (embZ o) := by
  refine con_start (by decide +kernel) (Nat.le_of_ble_eq_true rfl) ho (fun p e s m args below meth c C => ?_)
  refine m_loc (L2 := [(0, .ref (A 0)), (1, .int a1), (2, .int a2)]) [0, 1, 2] rfl ?_
  unfold fX9_armsFitReadings
  refine m_iconst C dX9_armsFitReadings_0 ci_0 ?_
  refine m_istore_n (L2 := [(3, .int 0), (0, .ref (A 0)), (1, .int a1), (2, .int a2)]) C dX9_armsFitReadings_1 rfl (by decide) rfl ?_
  refine m_loc (L2 := [(0, .ref (A 0)), (1, .int a1), (2, .int a2), (3, .int 0)]) [1, 2, 3, 0] rfl ?_
  exact wX9_armsFitReadings_2 C a1 a2 FU 0 s0
def fJ0_length_8abf5 (q0 : Nat) (s0 : Sg) : Option (Int32 × Sg) :=
  bnd (fJ0_coder_7d493 q0 s0) fun r_1 s_2 =>
  some ((Int32.ofNat (sLv (q0 + 50))) >>> (r_1 &&& 31), s_2)
theorem kJ0_length_8abf5 (l : Launch) (D : va_G) (ct : Nat → ClassId) (A : Nat → Nat) (q0 : Nat) (h_q0 : isStr q0 = true) (s0 : Sg) (o : Int32 × Sg) (ho : fJ0_length_8abf5 q0 s0 = some o) : Con l yJ0_length_8abf5 cJ0_length_8abf5 1 (some .int) 1 D ct A [.ref (A q0)] s0 (embI o) := by
  refine con_start (by decide +kernel) (Nat.le_of_ble_eq_true rfl) ho (fun p e s m args below meth c C => ?_)
  refine m_loc (L2 := [(0, .ref (A q0))]) [0] rfl ?_
  unfold fJ0_length_8abf5
  refine m_aload_n C dJ0_length_8abf5_0 rfl ?_
  refine m_getSv C h_q0 wd_1375 dJ0_length_8abf5_1 ?_
  refine m_salen C (sb_str h_q0) dJ0_length_8abf5_4 ?_
  refine m_aload_n C dJ0_length_8abf5_5 rfl ?_
  refine m_callTI C ml_J0_335 ⟨Nat.le_of_ble_eq_true rfl, Nat.le_of_ble_eq_true rfl⟩ h_q0 [] [.int (Int32.ofNat (sLv (q0 + 50)))] rfl rfl (Nat.le_of_ble_eq_true rfl) dJ0_length_8abf5_6 (fun o ho => kJ0_coder_7d493 l D ct A q0 h_q0 s0 o ho) (fun r_1 s_2 => ?_)
  refine m_ishr C dJ0_length_8abf5_9 ?_
  exact m_iret C dJ0_length_8abf5_10
def fJ0_charAt_5068e (q0 : Nat) (a1 : Int32) (s0 : Sg) : Option (Int32 × Sg) :=
  bnd (fJ0_isLatin1_aae02 q0 s0) fun r_1 s_2 =>
  if (b2i r_1) = 0 then
    none
  else
    bnd (fJ1_charAt_3b067 (q0 + 50) a1 s_2) fun r_3 s_4 =>
    chk (decide (narrow .char (.int r_3) = .int r_3)) <|
    some (r_3, s_4)
theorem kJ0_charAt_5068e (l : Launch) (D : va_G) (ct : Nat → ClassId) (A : Nat → Nat) (q0 : Nat) (a1 : Int32) (h_q0 : isStr q0 = true) (s0 : Sg) (o : Int32 × Sg) (ho : fJ0_charAt_5068e q0 a1 s0 = some o) : Con l yJ0_charAt_5068e cJ0_charAt_5068e 2 (some .char) 3 D ct A [.ref (A q0), .int a1] s0 (embI o) := by
  refine con_start (by decide +kernel) (Nat.le_of_ble_eq_true rfl) ho (fun p e s m args below meth c C => ?_)
  refine m_loc (L2 := [(0, .ref (A q0)), (1, .int a1)]) [0, 1] rfl ?_
  unfold fJ0_charAt_5068e
  refine m_aload_n C dJ0_charAt_5068e_0 rfl ?_
  refine m_callTZ C ml_J0_492 ⟨Nat.le_of_ble_eq_true rfl, Nat.le_of_ble_eq_true rfl⟩ h_q0 [] [] rfl rfl (Nat.le_of_ble_eq_true rfl) dJ0_charAt_5068e_1 (fun o ho => kJ0_isLatin1_aae02 l D ct A q0 h_q0 s0 o ho) (fun r_1 s_2 => ?_)
  refine m_if_eq (tgt := 16) C dJ0_charAt_5068e_4 rfl ?_ ?_
  · exact m_none
  · refine m_aload_n C dJ0_charAt_5068e_7 rfl ?_
    refine m_getSv C h_q0 wd_1375 dJ0_charAt_5068e_8 ?_
    refine m_iload_n C dJ0_charAt_5068e_11 rfl ?_
    refine m_callSI C ml_J0_495 ⟨Nat.le_of_ble_eq_true rfl, Nat.le_of_ble_eq_true rfl⟩ [.ref (A (q0 + 50)), .int a1] [] rfl rfl (Nat.le_of_ble_eq_true rfl) dJ0_charAt_5068e_12 (fun o ho => kJ1_charAt_3b067 l D ct A (q0 + 50) a1 (sb_str h_q0) s_2 o ho) (fun r_3 s_4 => ?_)
    refine m_chk (fun h_5 => ?_)
    exact m_cret C (of_decide_eq_true h_5) dJ0_charAt_5068e_15
def fX2_readOperand (s0 : Sg) : Option (Sg) :=
  bv (gi s0 3 2) fun v_1 =>
  bv (
    bv (fun (y_3 : Int32) => 
      bnv (fX2_openOne y_3 s0) fun s_5 =>
      some s_5)
    fun k_4 =>
    if v_1 = 11 then
      k_4 14
    else
      k_4 v_1)
  fun k_2 =>
  if v_1 = 0 then
    k_2
  else
    if v_1 = 11 then
      k_2
    else
      bv (
        bnd (fX2_operandFault v_1 s0) fun r_7 s_8 =>
        if r_7 = 0 then
          bv (fun (y_9 : Int32) => 
            bnv (fX2_takeOperand y_9 s_8) fun s_12 =>
            some s_12)
          fun k_10 =>
          if v_1 = 17 then
            k_10 (gi s_8 3 5)
          else
            k_10 ((10000 + v_1) - 26)
        else
          bnv (fX2_fail r_7 s_8) fun s_13 =>
          some s_13)
      fun k_6 =>
      if v_1 = 3 then
        if (gi s0 4 10) = 0 then
          k_6
        else
          k_2
      else
        k_6
theorem kX2_readOperand (l : Launch) (D : va_G) (ct : Nat → ClassId) (A : Nat → Nat) (s0 : Sg) (o : Sg) (ho : fX2_readOperand s0 = some o) : Con l yX2_readOperand cX2_readOperand 3 none 2 D ct A [.ref (A 4)] s0 (embV o) := by
  refine con_start (by decide +kernel) (Nat.le_of_ble_eq_true rfl) ho (fun p e s m args below meth c C => ?_)
  refine m_loc (L2 := [(0, .ref (A 4))]) [0] rfl ?_
  unfold fX2_readOperand
  refine m_aload_n C dX2_readOperand_0 rfl ?_
  refine m_get (v := .ref (A 3)) C fl_X2_22_2 rfl (by decide) rfl dX2_readOperand_1 ?_
  refine m_get (v := .int (gi s0 3 2)) C fl_X2_40_7 rfl (by decide) rfl dX2_readOperand_4 ?_
  refine m_let (fun v_1 => ?_)
  refine m_istore_n (L2 := [(1, .int v_1), (0, .ref (A 4))]) C dX2_readOperand_7 rfl (by decide) rfl ?_
  refine m_iload_n C dX2_readOperand_8 rfl ?_
  refine m_jn (P := fun (k_2 : Option (Sg)) => Wm p l e (rmD 2) s m args below meth c D ct A 3 embV 30 [(0, .ref (A 4)), (1, .int v_1)] [] s0 (k_2)) ?_ (fun k_2 hk_2 => ?_)
  · refine m_aload_n C dX2_readOperand_30 rfl ?_
    refine m_iload_n C dX2_readOperand_31 rfl ?_
    refine m_bipush C dX2_readOperand_32 cb_11 ?_
    refine m_jn (P := fun (k_4 : Int32 → Option (Sg)) => ∀ (y_3 : Int32), Wm p l e (rmD 2) s m args below meth c D ct A 3 embV 43 [] [.int y_3, .ref (A 4)] s0 (k_4 y_3)) ?_ (fun k_4 hk_4 => ?_)
    · intro y_3
      refine m_callVV C ml_X2_125 ⟨Nat.le_of_ble_eq_true rfl, Nat.le_of_ble_eq_true rfl⟩ rfl rfl [.int y_3] [] rfl rfl (Nat.le_of_ble_eq_true rfl) dX2_readOperand_43 (fun o ho => kX2_openOne l D ct A y_3 s0 o ho) (fun s_5 => ?_)
      exact m_vret C dX2_readOperand_46
    refine m_icmp_ne (tgt := 42) C dX2_readOperand_34 rfl ?_ ?_
    · refine m_iload_n C dX2_readOperand_42 rfl ?_
      refine m_loc (L2 := []) [] rfl ?_
      exact hk_4 v_1
    · refine m_bipush C dX2_readOperand_37 cb_14 ?_
      refine m_goto (tgt := 43) C dX2_readOperand_39 rfl ?_
      refine m_loc (L2 := []) [] rfl ?_
      exact hk_4 14
  refine m_if_eq (tgt := 30) C dX2_readOperand_9 rfl ?_ ?_
  · refine m_loc (L2 := [(0, .ref (A 4)), (1, .int v_1)]) [1, 0] rfl ?_
    exact hk_2
  · refine m_iload_n C dX2_readOperand_12 rfl ?_
    refine m_bipush C dX2_readOperand_13 cb_11 ?_
    refine m_icmp_eq (tgt := 30) C dX2_readOperand_15 rfl ?_ ?_
    · refine m_loc (L2 := [(0, .ref (A 4)), (1, .int v_1)]) [1, 0] rfl ?_
      exact hk_2
    · refine m_iload_n C dX2_readOperand_18 rfl ?_
      refine m_iconst C dX2_readOperand_19 ci_3 ?_
      refine m_jn (P := fun (k_6 : Option (Sg)) => Wm p l e (rmD 2) s m args below meth c D ct A 3 embV 47 [(0, .ref (A 4)), (1, .int v_1)] [] s0 (k_6)) ?_ (fun k_6 hk_6 => ?_)
      · refine m_aload_n C dX2_readOperand_47 rfl ?_
        refine m_iload_n C dX2_readOperand_48 rfl ?_
        refine m_callVI C ml_X2_128 ⟨Nat.le_of_ble_eq_true rfl, Nat.le_of_ble_eq_true rfl⟩ rfl rfl [.int v_1] [] rfl rfl (Nat.le_of_ble_eq_true rfl) dX2_readOperand_49 (fun o ho => kX2_operandFault l D ct A v_1 s0 o ho) (fun r_7 s_8 => ?_)
        refine m_istore_n (L2 := [(2, .int r_7), (0, .ref (A 4)), (1, .int v_1)]) C dX2_readOperand_52 rfl (by decide) rfl ?_
        refine m_iload_n C dX2_readOperand_53 rfl ?_
        refine m_if_eq (tgt := 65) C dX2_readOperand_54 rfl ?_ ?_
        · refine m_aload_n C dX2_readOperand_65 rfl ?_
          refine m_iload_n C dX2_readOperand_66 rfl ?_
          refine m_bipush C dX2_readOperand_67 cb_17 ?_
          refine m_jn (P := fun (k_10 : Int32 → Option (Sg)) => ∀ (y_9 : Int32), Wm p l e (rmD 2) s m args below meth c D ct A 3 embV 90 [] [.int y_9, .ref (A 4)] s_8 (k_10 y_9)) ?_ (fun k_10 hk_10 => ?_)
          · intro y_9
            refine m_callVV C ml_X2_131 ⟨Nat.le_of_ble_eq_true rfl, Nat.le_of_ble_eq_true rfl⟩ rfl rfl [.int y_9] [] rfl rfl (Nat.le_of_ble_eq_true rfl) dX2_readOperand_90 (fun o ho => kX2_takeOperand l D ct A y_9 s_8 o ho) (fun s_12 => ?_)
            exact m_vret C dX2_readOperand_93
          refine m_icmp_ne (tgt := 82) C dX2_readOperand_69 rfl ?_ ?_
          · refine m_sipush C dX2_readOperand_82 cs_10000 ?_
            refine m_iload_n C dX2_readOperand_85 rfl ?_
            refine m_iadd C dX2_readOperand_86 ?_
            refine m_bipush C dX2_readOperand_87 cb_26 ?_
            refine m_isub C dX2_readOperand_89 ?_
            refine m_loc (L2 := []) [] rfl ?_
            exact hk_10 ((10000 + v_1) - 26)
          · refine m_aload_n C dX2_readOperand_72 rfl ?_
            refine m_get (v := .ref (A 3)) C fl_X2_22_2 rfl (by decide) rfl dX2_readOperand_73 ?_
            refine m_get (v := .int (gi s_8 3 5)) C fl_X2_82_7 rfl (by decide) rfl dX2_readOperand_76 ?_
            refine m_goto (tgt := 90) C dX2_readOperand_79 rfl ?_
            refine m_loc (L2 := []) [] rfl ?_
            exact hk_10 (gi s_8 3 5)
        · refine m_aload_n C dX2_readOperand_57 rfl ?_
          refine m_iload_n C dX2_readOperand_58 rfl ?_
          refine m_callVV C ml_X2_47 ⟨Nat.le_of_ble_eq_true rfl, Nat.le_of_ble_eq_true rfl⟩ rfl rfl [.int r_7] [] rfl rfl (Nat.le_of_ble_eq_true rfl) dX2_readOperand_59 (fun o ho => kX2_fail l D ct A r_7 s_8 o ho) (fun s_13 => ?_)
          refine m_goto (tgt := 93) C dX2_readOperand_62 rfl ?_
          exact m_vret C dX2_readOperand_93
      refine m_icmp_ne (tgt := 47) C dX2_readOperand_20 rfl ?_ ?_
      · refine m_loc (L2 := [(0, .ref (A 4)), (1, .int v_1)]) [1, 0] rfl ?_
        exact hk_6
      · refine m_aload_n C dX2_readOperand_23 rfl ?_
        refine m_get (v := .int (gi s0 4 10)) C fl_X2_104_2 rfl (by decide) rfl dX2_readOperand_24 ?_
        refine m_if_eq (tgt := 47) C dX2_readOperand_27 rfl ?_ ?_
        · refine m_loc (L2 := [(0, .ref (A 4)), (1, .int v_1)]) [1, 0] rfl ?_
          exact hk_6
        · refine m_loc (L2 := [(0, .ref (A 4)), (1, .int v_1)]) [1, 0] rfl ?_
          exact hk_2
def fX2_joinBy (a1 : Int32) (s0 : Sg) : Option (Sg) :=
  chk (inb 15 a1) <|
  bnv (fX2_settle (tB.getD (ix a1) 0) s0) fun s_2 =>
  bnv (fX2_keepWaiting a1 s_2) fun s_3 =>
  bv (si s_3 4 9 (b2i true)) fun s_4 =>
  some s_4
theorem kX2_joinBy (l : Launch) (D : va_G) (ct : Nat → ClassId) (A : Nat → Nat) (a1 : Int32) (s0 : Sg) (o : Sg) (ho : fX2_joinBy a1 s0 = some o) : Con l yX2_joinBy cX2_joinBy 2 none 2 D ct A [.ref (A 4), .int a1] s0 (embV o) := by
  refine con_start (by decide +kernel) (Nat.le_of_ble_eq_true rfl) ho (fun p e s m args below meth c C => ?_)
  refine m_loc (L2 := [(0, .ref (A 4)), (1, .int a1)]) [0, 1] rfl ?_
  unfold fX2_joinBy
  refine m_aload_n C dX2_joinBy_0 rfl ?_
  refine m_getsB C (by decide +kernel) dX2_joinBy_1 ?_
  refine m_iload_n C dX2_joinBy_4 rfl ?_
  refine m_chk (fun h_1 => ?_)
  refine m_saldB C h_1 dX2_joinBy_5 ?_
  refine m_callVV C ml_X2_146 ⟨Nat.le_of_ble_eq_true rfl, Nat.le_of_ble_eq_true rfl⟩ rfl rfl [.int (tB.getD (ix a1) 0)] [] rfl rfl (Nat.le_of_ble_eq_true rfl) dX2_joinBy_6 (fun o ho => kX2_settle l D ct A (tB.getD (ix a1) 0) s0 o ho) (fun s_2 => ?_)
  refine m_aload_n C dX2_joinBy_9 rfl ?_
  refine m_iload_n C dX2_joinBy_10 rfl ?_
  refine m_callVV C ml_X2_134 ⟨Nat.le_of_ble_eq_true rfl, Nat.le_of_ble_eq_true rfl⟩ rfl rfl [.int a1] [] rfl rfl (Nat.le_of_ble_eq_true rfl) dX2_joinBy_11 (fun o ho => kX2_keepWaiting l D ct A a1 s_2 o ho) (fun s_3 => ?_)
  refine m_aload_n C dX2_joinBy_14 rfl ?_
  refine m_iconst C dX2_joinBy_15 ci_1 ?_
  refine m_putz C fl_X2_101_2 fw_2_9 rfl (by decide) rfl true rfl dX2_joinBy_16 (fun s_4 => ?_)
  exact m_vret C dX2_joinBy_19
def fX2_closeBracket (s0 : Sg) : Option (Sg) :=
  bnv (fX2_settle 1 s0) fun s_1 =>
  bv (fun (y_2 : Int32) (y_3 : Bool) => 
    bv (si s_1 4 2 (y_2 - (b2i y_3))) fun s_5 =>
    bv (si s_5 4 7 ((gi s_5 4 7) - 1)) fun s_6 =>
    bv (si s_6 4 6 ((gi s_6 4 6) - 1)) fun s_7 =>
    some s_7)
  fun k_4 =>
  if (gi s_1 4 2) ≤ 0 then
    k_4 (gi s_1 4 2) false
  else
    k_4 (gi s_1 4 2) true
theorem kX2_closeBracket (l : Launch) (D : va_G) (ct : Nat → ClassId) (A : Nat → Nat) (s0 : Sg) (o : Sg) (ho : fX2_closeBracket s0 = some o) : Con l yX2_closeBracket cX2_closeBracket 1 none 2 D ct A [.ref (A 4)] s0 (embV o) := by
  refine con_start (by decide +kernel) (Nat.le_of_ble_eq_true rfl) ho (fun p e s m args below meth c C => ?_)
  refine m_loc (L2 := [(0, .ref (A 4))]) [0] rfl ?_
  unfold fX2_closeBracket
  refine m_aload_n C dX2_closeBracket_0 rfl ?_
  refine m_iconst C dX2_closeBracket_1 ci_1 ?_
  refine m_callVV C ml_X2_146 ⟨Nat.le_of_ble_eq_true rfl, Nat.le_of_ble_eq_true rfl⟩ rfl rfl [.int 1] [] rfl rfl (Nat.le_of_ble_eq_true rfl) dX2_closeBracket_2 (fun o ho => kX2_settle l D ct A 1 s0 o ho) (fun s_1 => ?_)
  refine m_aload_n C dX2_closeBracket_5 rfl ?_
  refine m_dup C dX2_closeBracket_6 rfl ?_
  refine m_get (v := .int (gi s_1 4 2)) C fl_X2_92_2 rfl (by decide) rfl dX2_closeBracket_7 ?_
  refine m_aload_n C dX2_closeBracket_10 rfl ?_
  refine m_get (v := .int (gi s_1 4 2)) C fl_X2_92_2 rfl (by decide) rfl dX2_closeBracket_11 ?_
  refine m_jn (P := fun (k_4 : Int32 → Bool → Option (Sg)) => ∀ (y_2 : Int32) (y_3 : Bool), Wm p l e (rmD 2) s m args below meth c D ct A 1 embV 22 [(0, .ref (A 4))] [.int (b2i y_3), .int y_2, .ref (A 4)] s_1 (k_4 y_2 y_3)) ?_ (fun k_4 hk_4 => ?_)
  · intro y_2 y_3
    refine m_isub C dX2_closeBracket_22 ?_
    refine m_puti C fl_X2_92_2 fw_2_2 rfl (by decide) rfl dX2_closeBracket_23 (fun s_5 => ?_)
    refine m_aload_n C dX2_closeBracket_26 rfl ?_
    refine m_dup C dX2_closeBracket_27 rfl ?_
    refine m_get (v := .int (gi s_5 4 7)) C fl_X2_98_2 rfl (by decide) rfl dX2_closeBracket_28 ?_
    refine m_iconst C dX2_closeBracket_31 ci_1 ?_
    refine m_isub C dX2_closeBracket_32 ?_
    refine m_puti C fl_X2_98_2 fw_2_7 rfl (by decide) rfl dX2_closeBracket_33 (fun s_6 => ?_)
    refine m_aload_n C dX2_closeBracket_36 rfl ?_
    refine m_dup C dX2_closeBracket_37 rfl ?_
    refine m_get (v := .int (gi s_6 4 6)) C fl_X2_95_2 rfl (by decide) rfl dX2_closeBracket_38 ?_
    refine m_iconst C dX2_closeBracket_41 ci_1 ?_
    refine m_isub C dX2_closeBracket_42 ?_
    refine m_puti C fl_X2_95_2 fw_2_6 rfl (by decide) rfl dX2_closeBracket_43 (fun s_7 => ?_)
    exact m_vret C dX2_closeBracket_46
  refine m_if_le (tgt := 21) C dX2_closeBracket_14 rfl ?_ ?_
  · refine m_iconst C dX2_closeBracket_21 ci_0 ?_
    refine m_loc (L2 := [(0, .ref (A 4))]) [0] rfl ?_
    exact hk_4 (gi s_1 4 2) false
  · refine m_iconst C dX2_closeBracket_17 ci_1 ?_
    refine m_goto (tgt := 22) C dX2_closeBracket_18 rfl ?_
    refine m_loc (L2 := [(0, .ref (A 4))]) [0] rfl ?_
    exact hk_4 (gi s_1 4 2) true
def fX4_borne (a1 : Nat) (a2 : Int32) (a3 : Int32) (a4 : Int32) (a5 : Int32) (s0 : Sg) : Option (Int32 × Sg) :=
  if a1 = 0 then
    some (a3, s0)
  else
    chk (isScr a1) <|
    if (gi s0 a1 2) = (-1) then
      some (a3, s0)
    else
      bv (si s0 19 (ix 3) a2) fun s_2 =>
      bv (si s_2 19 (ix 4) a3) fun s_3 =>
      bv (si s_3 19 (ix 5) a4) fun s_4 =>
      bv (si s_4 19 (ix 6) a5) fun s_5 =>
      bnd (fX4_valueOf (a1 + 1) (gi s_5 a1 2) (gi s_5 a1 3) s_5) fun r_6 s_7 =>
      if 0 ≤ r_6 then
        if r_6 ≤ 9999 then
          some (r_6, s_7)
        else
          some (9999, s_7)
      else
        some (0, s_7)
theorem kX4_borne (l : Launch) (D : va_G) (ct : Nat → ClassId) (A : Nat → Nat) (a1 : Nat) (a2 : Int32) (a3 : Int32) (a4 : Int32) (a5 : Int32) (s0 : Sg) (o : Int32 × Sg) (ho : fX4_borne a1 a2 a3 a4 a5 s0 = some o) : Con l yX4_borne cX4_borne 7 (some .int) 2 D ct A [.ref (A 6), rfv A a1, .int a2, .int a3, .int a4, .int a5] s0 (embI o) := by
  refine con_start (by decide +kernel) (by rcases rfv_or A a1 with hrf | hrf <;> rw [hrf] <;> exact Nat.le_of_ble_eq_true rfl) ho (fun p e s m args below meth c C => ?_)
  refine m_loc (L2 := [(0, .ref (A 6)), (1, rfv A a1), (2, .int a2), (3, .int a3), (4, .int a4), (5, .int a5)]) [0, 1, 2, 3, 4, 5] (by rcases rfv_or A a1 with hrf | hrf <;> rw [hrf] <;> rfl) ?_
  unfold fX4_borne
  refine m_aload_nr C dX4_borne_0 rfl ?_
  refine m_ifnull (tgt := 12) C dX4_borne_1 rfl ?_ ?_
  · refine m_iload_n C dX4_borne_12 rfl ?_
    exact m_iret C dX4_borne_13
  · refine m_aload_nr C dX4_borne_4 rfl ?_
    refine m_chk (fun h_1 => ?_)
    refine m_rf (isScr_ne h_1) ?_
    refine m_get (v := .int (gi s0 a1 2)) C fl_X4_57_5 (lay_scr h_1) (by decide) (fv_scr h_1 rfl) dX4_borne_5 ?_
    refine m_iconst C dX4_borne_8 ci_m1 ?_
    refine m_icmp_ne (tgt := 14) C dX4_borne_9 rfl ?_ ?_
    · refine m_aload_n C dX4_borne_14 rfl ?_
      refine m_get (v := .ref (A 19)) C fl_X4_9_4 rfl (by decide) rfl dX4_borne_15 ?_
      refine m_iconst C dX4_borne_18 ci_3 ?_
      refine m_iload_n C dX4_borne_19 rfl ?_
      refine m_iast C rfl (by decide +kernel) dX4_borne_20 (fun s_2 => ?_)
      refine m_aload_n C dX4_borne_21 rfl ?_
      refine m_get (v := .ref (A 19)) C fl_X4_9_4 rfl (by decide) rfl dX4_borne_22 ?_
      refine m_iconst C dX4_borne_25 ci_4 ?_
      refine m_iload_n C dX4_borne_26 rfl ?_
      refine m_iast C rfl (by decide +kernel) dX4_borne_27 (fun s_3 => ?_)
      refine m_aload_n C dX4_borne_28 rfl ?_
      refine m_get (v := .ref (A 19)) C fl_X4_9_4 rfl (by decide) rfl dX4_borne_29 ?_
      refine m_iconst C dX4_borne_32 ci_5 ?_
      refine m_iload C dX4_borne_33 rfl ?_
      refine m_iast C rfl (by decide +kernel) dX4_borne_35 (fun s_4 => ?_)
      refine m_aload_n C dX4_borne_36 rfl ?_
      refine m_get (v := .ref (A 19)) C fl_X4_9_4 rfl (by decide) rfl dX4_borne_37 ?_
      refine m_bipush C dX4_borne_40 cb_6 ?_
      refine m_iload C dX4_borne_42 rfl ?_
      refine m_iast C rfl (by decide +kernel) dX4_borne_44 (fun s_5 => ?_)
      refine m_aload_n C dX4_borne_45 rfl ?_
      refine m_aload_nr C dX4_borne_46 rfl ?_
      refine m_rf (isScr_ne h_1) ?_
      refine m_get (v := .ref (A (a1 + 1))) C fl_X4_62_5 (lay_scr h_1) (by decide) (fv_scr h_1 rfl) dX4_borne_47 ?_
      refine m_aload_nr C dX4_borne_50 rfl ?_
      refine m_rf (isScr_ne h_1) ?_
      refine m_get (v := .int (gi s_5 a1 2)) C fl_X4_57_5 (lay_scr h_1) (by decide) (fv_scr h_1 rfl) dX4_borne_51 ?_
      refine m_aload_nr C dX4_borne_54 rfl ?_
      refine m_rf (isScr_ne h_1) ?_
      refine m_get (v := .int (gi s_5 a1 3)) C fl_X4_65_5 (lay_scr h_1) (by decide) (fv_scr h_1 rfl) dX4_borne_55 ?_
      refine m_callVI C ml_X4_68 ⟨Nat.le_of_ble_eq_true rfl, Nat.le_of_ble_eq_true rfl⟩ rfl rfl [.ref (A (a1 + 1)), .int (gi s_5 a1 2), .int (gi s_5 a1 3)] [] rfl rfl (Nat.le_of_ble_eq_true rfl) dX4_borne_58 (fun o ho => kX4_valueOf l D ct A (a1 + 1) (gi s_5 a1 2) (gi s_5 a1 3) (cd_scr h_1) s_5 o ho) (fun r_6 s_7 => ?_)
      refine m_istore (L2 := [(6, .int r_6), (0, .ref (A 6)), (1, rfv A a1), (2, .int a2), (3, .int a3), (4, .int a4), (5, .int a5)]) C dX4_borne_61 (by decide) rfl ?_
      refine m_iload C dX4_borne_63 rfl ?_
      refine m_if_ge (tgt := 72) C dX4_borne_65 rfl ?_ ?_
      · refine m_iload C dX4_borne_72 rfl ?_
        refine m_sipush C dX4_borne_74 cs_9999 ?_
        refine m_icmp_le (tgt := 86) C dX4_borne_77 rfl ?_ ?_
        · refine m_iload C dX4_borne_86 rfl ?_
          exact m_iret C dX4_borne_88
        · refine m_sipush C dX4_borne_80 cs_9999 ?_
          refine m_goto (tgt := 88) C dX4_borne_83 rfl ?_
          exact m_iret C dX4_borne_88
      · refine m_iconst C dX4_borne_68 ci_0 ?_
        refine m_goto (tgt := 88) C dX4_borne_69 rfl ?_
        exact m_iret C dX4_borne_88
    · refine m_iload_n C dX4_borne_12 rfl ?_
      exact m_iret C dX4_borne_13
def fX4_isSafe (a1 : Nat) (s0 : Sg) : Option (Bool × Sg) :=
  if a1 = 0 then
    some (true, s0)
  else
    chk (isScr a1) <|
    if (gi s0 a1 4) = (-1) then
      some (true, s0)
    else
      bv (si s0 19 (ix 7) (gi s0 6 2)) fun s_2 =>
      bv (si s_2 19 (ix 8) (gi s_2 6 3)) fun s_3 =>
      bnd (fX4_held (Int32.toInt64 (gi s_3 6 4)) s_3) fun r_4 s_5 =>
      bv (si s_5 19 (ix 9) r_4) fun s_6 =>
      bnd (fX4_held (Int32.toInt64 (iabs (gi s_6 6 4))) s_6) fun r_7 s_8 =>
      bv (si s_8 19 (ix 10) r_7) fun s_9 =>
      bnd (fX4_valueOf (a1 + 1) (gi s_9 a1 4) (gi s_9 a1 5) s_9) fun r_10 s_11 =>
      if r_10 = 0 then
        some (false, s_11)
      else
        some (true, s_11)
theorem kX4_isSafe (l : Launch) (D : va_G) (ct : Nat → ClassId) (A : Nat → Nat) (a1 : Nat) (s0 : Sg) (o : Bool × Sg) (ho : fX4_isSafe a1 s0 = some o) : Con l yX4_isSafe cX4_isSafe 2 (some .boolean) 2 D ct A [.ref (A 6), rfv A a1] s0 (embZ o) := by
  refine con_start (by decide +kernel) (by rcases rfv_or A a1 with hrf | hrf <;> rw [hrf] <;> exact Nat.le_of_ble_eq_true rfl) ho (fun p e s m args below meth c C => ?_)
  refine m_loc (L2 := [(0, .ref (A 6)), (1, rfv A a1)]) [0, 1] (by rcases rfv_or A a1 with hrf | hrf <;> rw [hrf] <;> rfl) ?_
  unfold fX4_isSafe
  refine m_aload_nr C dX4_isSafe_0 rfl ?_
  refine m_ifnull (tgt := 12) C dX4_isSafe_1 rfl ?_ ?_
  · refine m_iconst C dX4_isSafe_12 ci_1 ?_
    exact m_zret C true rfl dX4_isSafe_13
  · refine m_aload_nr C dX4_isSafe_4 rfl ?_
    refine m_chk (fun h_1 => ?_)
    refine m_rf (isScr_ne h_1) ?_
    refine m_get (v := .int (gi s0 a1 4)) C fl_X4_72_5 (lay_scr h_1) (by decide) (fv_scr h_1 rfl) dX4_isSafe_5 ?_
    refine m_iconst C dX4_isSafe_8 ci_m1 ?_
    refine m_icmp_ne (tgt := 14) C dX4_isSafe_9 rfl ?_ ?_
    · refine m_aload_n C dX4_isSafe_14 rfl ?_
      refine m_get (v := .ref (A 19)) C fl_X4_9_4 rfl (by decide) rfl dX4_isSafe_15 ?_
      refine m_bipush C dX4_isSafe_18 cb_7 ?_
      refine m_aload_n C dX4_isSafe_20 rfl ?_
      refine m_get (v := .int (gi s0 6 2)) C fl_X4_42_4 rfl (by decide) rfl dX4_isSafe_21 ?_
      refine m_iast C rfl (by decide +kernel) dX4_isSafe_24 (fun s_2 => ?_)
      refine m_aload_n C dX4_isSafe_25 rfl ?_
      refine m_get (v := .ref (A 19)) C fl_X4_9_4 rfl (by decide) rfl dX4_isSafe_26 ?_
      refine m_bipush C dX4_isSafe_29 cb_8 ?_
      refine m_aload_n C dX4_isSafe_31 rfl ?_
      refine m_get (v := .int (gi s_2 6 3)) C fl_X4_45_4 rfl (by decide) rfl dX4_isSafe_32 ?_
      refine m_iast C rfl (by decide +kernel) dX4_isSafe_35 (fun s_3 => ?_)
      refine m_aload_n C dX4_isSafe_36 rfl ?_
      refine m_get (v := .ref (A 19)) C fl_X4_9_4 rfl (by decide) rfl dX4_isSafe_37 ?_
      refine m_bipush C dX4_isSafe_40 cb_9 ?_
      refine m_aload_n C dX4_isSafe_42 rfl ?_
      refine m_get (v := .int (gi s_3 6 4)) C fl_X4_54_4 rfl (by decide) rfl dX4_isSafe_43 ?_
      refine m_i2l C dX4_isSafe_46 ?_
      refine m_callSI C ml_X4_75 ⟨Nat.le_of_ble_eq_true rfl, Nat.le_of_ble_eq_true rfl⟩ [.long (Int32.toInt64 (gi s_3 6 4))] [.int 9, .ref (A 19)] rfl rfl (Nat.le_of_ble_eq_true rfl) dX4_isSafe_47 (fun o ho => kX4_held l D ct A (Int32.toInt64 (gi s_3 6 4)) s_3 o ho) (fun r_4 s_5 => ?_)
      refine m_iast C rfl (by decide +kernel) dX4_isSafe_50 (fun s_6 => ?_)
      refine m_aload_n C dX4_isSafe_51 rfl ?_
      refine m_get (v := .ref (A 19)) C fl_X4_9_4 rfl (by decide) rfl dX4_isSafe_52 ?_
      refine m_bipush C dX4_isSafe_55 cb_10 ?_
      refine m_aload_n C dX4_isSafe_57 rfl ?_
      refine m_get (v := .int (gi s_6 6 4)) C fl_X4_54_4 rfl (by decide) rfl dX4_isSafe_58 ?_
      refine m_mabs C wd_674 ⟨by decide, Nat.le_of_ble_eq_true rfl⟩ dX4_isSafe_61 ?_
      refine m_i2l C dX4_isSafe_64 ?_
      refine m_callSI C ml_X4_75 ⟨Nat.le_of_ble_eq_true rfl, Nat.le_of_ble_eq_true rfl⟩ [.long (Int32.toInt64 (iabs (gi s_6 6 4)))] [.int 10, .ref (A 19)] rfl rfl (Nat.le_of_ble_eq_true rfl) dX4_isSafe_65 (fun o ho => kX4_held l D ct A (Int32.toInt64 (iabs (gi s_6 6 4))) s_6 o ho) (fun r_7 s_8 => ?_)
      refine m_iast C rfl (by decide +kernel) dX4_isSafe_68 (fun s_9 => ?_)
      refine m_aload_n C dX4_isSafe_69 rfl ?_
      refine m_aload_nr C dX4_isSafe_70 rfl ?_
      refine m_rf (isScr_ne h_1) ?_
      refine m_get (v := .ref (A (a1 + 1))) C fl_X4_62_5 (lay_scr h_1) (by decide) (fv_scr h_1 rfl) dX4_isSafe_71 ?_
      refine m_aload_nr C dX4_isSafe_74 rfl ?_
      refine m_rf (isScr_ne h_1) ?_
      refine m_get (v := .int (gi s_9 a1 4)) C fl_X4_72_5 (lay_scr h_1) (by decide) (fv_scr h_1 rfl) dX4_isSafe_75 ?_
      refine m_aload_nr C dX4_isSafe_78 rfl ?_
      refine m_rf (isScr_ne h_1) ?_
      refine m_get (v := .int (gi s_9 a1 5)) C fl_X4_85_5 (lay_scr h_1) (by decide) (fv_scr h_1 rfl) dX4_isSafe_79 ?_
      refine m_callVI C ml_X4_68 ⟨Nat.le_of_ble_eq_true rfl, Nat.le_of_ble_eq_true rfl⟩ rfl rfl [.ref (A (a1 + 1)), .int (gi s_9 a1 4), .int (gi s_9 a1 5)] [] rfl rfl (Nat.le_of_ble_eq_true rfl) dX4_isSafe_82 (fun o ho => kX4_valueOf l D ct A (a1 + 1) (gi s_9 a1 4) (gi s_9 a1 5) (cd_scr h_1) s_9 o ho) (fun r_10 s_11 => ?_)
      refine m_if_eq (tgt := 92) C dX4_isSafe_85 rfl ?_ ?_
      · refine m_iconst C dX4_isSafe_92 ci_0 ?_
        exact m_zret C false rfl dX4_isSafe_93
      · refine m_iconst C dX4_isSafe_88 ci_1 ?_
        refine m_goto (tgt := 93) C dX4_isSafe_89 rfl ?_
        exact m_zret C true rfl dX4_isSafe_93
    · refine m_iconst C dX4_isSafe_12 ci_1 ?_
      exact m_zret C true rfl dX4_isSafe_13
def fX7_reads_20_b (a1 : Nat) (rec20 : Int32 → Sg → Option (Bool × Sg)) (x2_3 : Int32) (s_4 : Sg) : Option (Bool × Sg) :=
  bnd (fJ0_length_8abf5 a1 s_4) fun r_5 s_6 =>
  if r_5 ≤ x2_3 then
    some (true, s_6)
  else
    chk (inb 300 ((gi s_6 3 3) + x2_3)) <|
    bnd (fJ0_charAt_5068e a1 x2_3 s_6) fun r_8 s_9 =>
    if (gi s_6 17 (ix ((gi s_6 3 3) + x2_3))) = r_8 then
      bv (x2_3 + 1) fun v_10 =>
      rec20 v_10 s_9
    else
      some (false, s_9)
def fX7_reads (a1 : Nat) (s0 : Sg) : Option (Bool × Sg) :=
  bnd (fJ0_length_8abf5 a1 s0) fun r_1 s_2 =>
  if ((gi s0 3 4) - (gi s0 3 3)) = r_1 then
    lo2 (fX7_reads_20_b a1) FU 0 s_2
  else
    some (false, s_2)
theorem wX7_reads_20 {p : Program} {l : Launch} {e : Env} {s : State} {m : MethodId} {args : Array Value} {below : List Frame} {meth : Method} {c : Code} {D : va_G} {ct : Nat → ClassId} {A : Nat → Nat} (C : Cx p m c cX7_reads 3 s args yX7_reads.cls meth (some .boolean) D ct A) (a1 : Nat) (h_a1 : isStr a1 = true) : ∀ (n : Nat) (x2_3 : Int32) (s_4 : Sg), Wm p l e (rmD 4) s m args below meth c D ct A 3 embZ 20 [(0, .ref (A 3)), (1, .ref (A a1)), (2, .int x2_3)] [] s_4 (lo2 (fX7_reads_20_b a1) n x2_3 s_4) := by
  intro n
  induction n with
  | zero => intro x2_3 s_4; exact m_none
  | succ n hrec20 =>
    intro x2_3 s_4
    refine (show Wm p l e (rmD 4) s m args below meth c D ct A 3 embZ 20 [(0, .ref (A 3)), (1, .ref (A a1)), (2, .int x2_3)] [] s_4 (fX7_reads_20_b a1 (lo2 (fX7_reads_20_b a1) n) x2_3 s_4) from ?_)
    generalize lo2 (fX7_reads_20_b a1) n = rec20 at hrec20 ⊢
    unfold fX7_reads_20_b
    refine m_iload_n C dX7_reads_20 rfl ?_
    refine m_aload_n C dX7_reads_21 rfl ?_
    refine m_callTI C ml_X7_102 ⟨Nat.le_of_ble_eq_true rfl, Nat.le_of_ble_eq_true rfl⟩ h_a1 [] [.int x2_3] rfl rfl (Nat.le_of_ble_eq_true rfl) dX7_reads_22 (fun o ho => kJ0_length_8abf5 l D ct A a1 h_a1 s_4 o ho) (fun r_5 s_6 => ?_)
    refine m_icmp_ge (tgt := 55) C dX7_reads_25 rfl ?_ ?_
    · refine m_iconst C dX7_reads_55 ci_1 ?_
      exact m_zret C true rfl dX7_reads_56
    · refine m_aload_n C dX7_reads_28 rfl ?_
      refine m_get (v := .ref (A 17)) C fl_X7_9_7 rfl (by decide) rfl dX7_reads_29 ?_
      refine m_aload_n C dX7_reads_32 rfl ?_
      refine m_get (v := .int (gi s_6 3 3)) C fl_X7_25_7 rfl (by decide) rfl dX7_reads_33 ?_
      refine m_iload_n C dX7_reads_36 rfl ?_
      refine m_iadd C dX7_reads_37 ?_
      refine m_chk (fun h_7 => ?_)
      refine m_bald C rfl h_7 dX7_reads_38 ?_
      refine m_aload_n C dX7_reads_39 rfl ?_
      refine m_iload_n C dX7_reads_40 rfl ?_
      refine m_callTI C ml_X7_106 ⟨Nat.le_of_ble_eq_true rfl, Nat.le_of_ble_eq_true rfl⟩ h_a1 [.int x2_3] [.int (gi s_6 17 (ix ((gi s_6 3 3) + x2_3)))] rfl rfl (Nat.le_of_ble_eq_true rfl) dX7_reads_41 (fun o ho => kJ0_charAt_5068e l D ct A a1 x2_3 h_a1 s_6 o ho) (fun r_8 s_9 => ?_)
      refine m_icmp_eq (tgt := 49) C dX7_reads_44 rfl ?_ ?_
      · refine m_iincb (L2 := fun v_10 => [(2, .int v_10), (0, .ref (A 3)), (1, .ref (A a1))]) (q := 2) C dX7_reads_49 rfl ci_1 (by decide) (fun _ => rfl) (fun v_10 => ?_)
        refine m_goto (tgt := 20) C dX7_reads_52 rfl ?_
        refine m_loc (L2 := [(0, .ref (A 3)), (1, .ref (A a1)), (2, .int v_10)]) [1, 2, 0] rfl ?_
        exact hrec20 v_10 s_9
      · refine m_iconst C dX7_reads_47 ci_0 ?_
        exact m_zret C false rfl dX7_reads_48
theorem kX7_reads (l : Launch) (D : va_G) (ct : Nat → ClassId) (A : Nat → Nat) (a1 : Nat) (h_a1 : isStr a1 = true) (s0 : Sg) (o : Bool × Sg) (ho : fX7_reads a1 s0 = some o) : Con l yX7_reads cX7_reads 3 (some .boolean) 4 D ct A [.ref (A 3), .ref (A a1)] s0 (embZ o) := by
  refine con_start (by decide +kernel) (Nat.le_of_ble_eq_true rfl) ho (fun p e s m args below meth c C => ?_)
  refine m_loc (L2 := [(0, .ref (A 3)), (1, .ref (A a1))]) [0, 1] rfl ?_
  unfold fX7_reads
  refine m_aload_n C dX7_reads_0 rfl ?_
  refine m_get (v := .int (gi s0 3 4)) C fl_X7_19_7 rfl (by decide) rfl dX7_reads_1 ?_
  refine m_aload_n C dX7_reads_4 rfl ?_
  refine m_get (v := .int (gi s0 3 3)) C fl_X7_25_7 rfl (by decide) rfl dX7_reads_5 ?_
  refine m_isub C dX7_reads_8 ?_
  refine m_aload_n C dX7_reads_9 rfl ?_
  refine m_callTI C ml_X7_102 ⟨Nat.le_of_ble_eq_true rfl, Nat.le_of_ble_eq_true rfl⟩ h_a1 [] [.int ((gi s0 3 4) - (gi s0 3 3))] rfl rfl (Nat.le_of_ble_eq_true rfl) dX7_reads_10 (fun o ho => kJ0_length_8abf5 l D ct A a1 h_a1 s0 o ho) (fun r_1 s_2 => ?_)
  refine m_icmp_eq (tgt := 18) C dX7_reads_13 rfl ?_ ?_
  · refine m_iconst C dX7_reads_18 ci_0 ?_
    refine m_istore_n (L2 := [(2, .int 0), (0, .ref (A 3)), (1, .ref (A a1))]) C dX7_reads_19 rfl (by decide) rfl ?_
    refine m_loc (L2 := [(0, .ref (A 3)), (1, .ref (A a1)), (2, .int 0)]) [1, 2, 0] rfl ?_
    exact wX7_reads_20 C a1 h_a1 FU 0 s_2
  · refine m_iconst C dX7_reads_16 ci_0 ?_
    exact m_zret C false rfl dX7_reads_17
def fX9_borneAt (a1 : Nat) (a2 : Int32) (s0 : Sg) : Option (Int32 × Sg) :=
  bnv (fX4_setAir (gi s0 a1 3) (gi s0 a1 4) (gi s0 a1 5) s0) fun s_1 =>
  bnd (fX4_borne (gr s_1 1 13) 12 a2 0 (gi s_1 a1 6) s_1) fun r_2 s_3 =>
  some (r_2, s_3)
theorem kX9_borneAt (l : Launch) (D : va_G) (ct : Nat → ClassId) (A : Nat → Nat) (a1 : Nat) (a2 : Int32) (h_a1 : isRd a1 = true) (s0 : Sg) (o : Int32 × Sg) (ho : fX9_borneAt a1 a2 s0 = some o) : Con l yX9_borneAt cX9_borneAt 3 (some .int) 3 D ct A [.ref (A 0), .ref (A a1), .int a2] s0 (embI o) := by
  refine con_start (by decide +kernel) (Nat.le_of_ble_eq_true rfl) ho (fun p e s m args below meth c C => ?_)
  refine m_loc (L2 := [(0, .ref (A 0)), (1, .ref (A a1)), (2, .int a2)]) [0, 1, 2] rfl ?_
  unfold fX9_borneAt
  refine m_aload_n C dX9_borneAt_0 rfl ?_
  refine m_get (v := .ref (A 6)) C fl_X9_44_8 rfl (by decide) rfl dX9_borneAt_1 ?_
  refine m_aload_n C dX9_borneAt_4 rfl ?_
  refine m_get (v := .int (gi s0 a1 3)) C fl_X9_291_3 (lay_rd h_a1) (by decide) (fv_rd h_a1 3) dX9_borneAt_5 ?_
  refine m_aload_n C dX9_borneAt_8 rfl ?_
  refine m_get (v := .int (gi s0 a1 4)) C fl_X9_292_3 (lay_rd h_a1) (by decide) (fv_rd h_a1 4) dX9_borneAt_9 ?_
  refine m_aload_n C dX9_borneAt_12 rfl ?_
  refine m_get (v := .int (gi s0 a1 5)) C fl_X9_293_3 (lay_rd h_a1) (by decide) (fv_rd h_a1 5) dX9_borneAt_13 ?_
  refine m_callVV C ml_X9_166 ⟨Nat.le_of_ble_eq_true rfl, Nat.le_of_ble_eq_true rfl⟩ rfl rfl [.int (gi s0 a1 3), .int (gi s0 a1 4), .int (gi s0 a1 5)] [] rfl rfl (Nat.le_of_ble_eq_true rfl) dX9_borneAt_16 (fun o ho => kX4_setAir l D ct A (gi s0 a1 3) (gi s0 a1 4) (gi s0 a1 5) s0 o ho) (fun s_1 => ?_)
  refine m_aload_n C dX9_borneAt_19 rfl ?_
  refine m_get (v := .ref (A 6)) C fl_X9_44_8 rfl (by decide) rfl dX9_borneAt_20 ?_
  refine m_aload_n C dX9_borneAt_23 rfl ?_
  refine m_get (v := .ref (A 1)) C fl_X9_10_8 rfl (by decide) rfl dX9_borneAt_24 ?_
  refine m_get (v := rfv A (gr s_1 1 13)) C fl_X9_123_6 rfl (by decide) rfl dX9_borneAt_27 ?_
  refine m_bipush C dX9_borneAt_30 cb_12 ?_
  refine m_iload_n C dX9_borneAt_32 rfl ?_
  refine m_iconst C dX9_borneAt_33 ci_0 ?_
  refine m_aload_n C dX9_borneAt_34 rfl ?_
  refine m_get (v := .int (gi s_1 a1 6)) C fl_X9_222_3 (lay_rd h_a1) (by decide) (fv_rd h_a1 6) dX9_borneAt_35 ?_
  refine m_callVI C ml_X9_294 ⟨Nat.le_of_ble_eq_true rfl, Nat.le_of_ble_eq_true rfl⟩ rfl rfl [rfv A (gr s_1 1 13), .int 12, .int a2, .int 0, .int (gi s_1 a1 6)] [] rfl rfl (Nat.le_of_ble_eq_true rfl) dX9_borneAt_38 (fun o ho => kX4_borne l D ct A (gr s_1 1 13) 12 a2 0 (gi s_1 a1 6) s_1 o ho) (fun r_2 s_3 => ?_)
  exact m_iret C dX9_borneAt_41
def fX2_readOperation (s0 : Sg) : Option (Sg) :=
  bv (gi s0 3 2) fun v_1 =>
  bv (
    bv (
      bv (
        bv (
          bv (
            bnv (fX2_fail 1 s0) fun s_8 =>
            some s_8)
          fun k_6 =>
          if v_1 = 16 then
            if (gi s0 4 7) = 0 then
              if (gi s0 4 11) = (gi s0 4 8) then
                bnv (fX2_settle 1 s0) fun s_9 =>
                bv (si s_9 4 12 (b2i true)) fun s_10 =>
                some s_10
              else
                k_6
            else
              k_6
          else
            k_6)
        fun k_5 =>
        bv (
          if (gi s0 4 7) = 0 then
            if (gi s0 4 11) = 0 then
              k_5
            else
              bnv (fX2_joinBy v_1 s0) fun s_12 =>
              bv (si s_12 4 11 (b2i false)) fun s_13 =>
              bv (si s_13 4 10 (b2i true)) fun s_14 =>
              some s_14
          else
            k_5)
        fun k_11 =>
        if v_1 = 2 then
          k_11
        else
          if v_1 = 1 then
            k_11
          else
            k_5)
      fun k_4 =>
      if v_1 < 4 then
        k_4
      else
        if 9 < v_1 then
          k_4
        else
          if (gi s0 4 8) = 0 then
            k_4
          else
            if (gi s0 4 7) = 0 then
              if (gi s0 4 11) = 0 then
                bnv (fX2_joinBy v_1 s0) fun s_15 =>
                bv (si s_15 4 11 (b2i true)) fun s_16 =>
                some s_16
              else
                k_4
            else
              k_4)
    fun k_3 =>
    if v_1 = 15 then
      if (gi s0 4 7) ≤ 0 then
        k_3
      else
        bnv (fX2_closeBracket s0) fun s_17 =>
        some s_17
    else
      k_3)
  fun k_2 =>
  if v_1 < 10 then
    k_2
  else
    if 13 < v_1 then
      k_2
    else
      bnv (fX2_joinBy v_1 s0) fun s_18 =>
      some s_18
theorem kX2_readOperation (l : Launch) (D : va_G) (ct : Nat → ClassId) (A : Nat → Nat) (s0 : Sg) (o : Sg) (ho : fX2_readOperation s0 = some o) : Con l yX2_readOperation cX2_readOperation 2 none 3 D ct A [.ref (A 4)] s0 (embV o) := by
  refine con_start (by decide +kernel) (Nat.le_of_ble_eq_true rfl) ho (fun p e s m args below meth c C => ?_)
  refine m_loc (L2 := [(0, .ref (A 4))]) [0] rfl ?_
  unfold fX2_readOperation
  refine m_aload_n C dX2_readOperation_0 rfl ?_
  refine m_get (v := .ref (A 3)) C fl_X2_22_2 rfl (by decide) rfl dX2_readOperation_1 ?_
  refine m_get (v := .int (gi s0 3 2)) C fl_X2_40_7 rfl (by decide) rfl dX2_readOperation_4 ?_
  refine m_let (fun v_1 => ?_)
  refine m_istore_n (L2 := [(1, .int v_1), (0, .ref (A 4))]) C dX2_readOperation_7 rfl (by decide) rfl ?_
  refine m_iload_n C dX2_readOperation_8 rfl ?_
  refine m_bipush C dX2_readOperation_9 cb_10 ?_
  refine m_jn (P := fun (k_2 : Option (Sg)) => Wm p l e (rmD 3) s m args below meth c D ct A 2 embV 28 [(0, .ref (A 4)), (1, .int v_1)] [] s0 (k_2)) ?_ (fun k_2 hk_2 => ?_)
  · refine m_iload_n C dX2_readOperation_28 rfl ?_
    refine m_bipush C dX2_readOperation_29 cb_15 ?_
    refine m_jn (P := fun (k_3 : Option (Sg)) => Wm p l e (rmD 3) s m args below meth c D ct A 2 embV 48 [(0, .ref (A 4)), (1, .int v_1)] [] s0 (k_3)) ?_ (fun k_3 hk_3 => ?_)
    · refine m_iload_n C dX2_readOperation_48 rfl ?_
      refine m_iconst C dX2_readOperation_49 ci_4 ?_
      refine m_jn (P := fun (k_4 : Option (Sg)) => Wm p l e (rmD 3) s m args below meth c D ct A 2 embV 93 [(0, .ref (A 4)), (1, .int v_1)] [] s0 (k_4)) ?_ (fun k_4 hk_4 => ?_)
      · refine m_iload_n C dX2_readOperation_93 rfl ?_
        refine m_iconst C dX2_readOperation_94 ci_2 ?_
        refine m_jn (P := fun (k_5 : Option (Sg)) => Wm p l e (rmD 3) s m args below meth c D ct A 2 embV 135 [(0, .ref (A 4)), (1, .int v_1)] [] s0 (k_5)) ?_ (fun k_5 hk_5 => ?_)
        · refine m_iload_n C dX2_readOperation_135 rfl ?_
          refine m_bipush C dX2_readOperation_136 cb_16 ?_
          refine m_jn (P := fun (k_6 : Option (Sg)) => Wm p l e (rmD 3) s m args below meth c D ct A 2 embV 172 [(0, .ref (A 4))] [] s0 (k_6)) ?_ (fun k_6 hk_6 => ?_)
          · refine m_aload_n C dX2_readOperation_172 rfl ?_
            refine m_iconst C dX2_readOperation_173 ci_1 ?_
            refine m_callVV C ml_X2_47 ⟨Nat.le_of_ble_eq_true rfl, Nat.le_of_ble_eq_true rfl⟩ rfl rfl [.int 1] [] rfl rfl (Nat.le_of_ble_eq_true rfl) dX2_readOperation_174 (fun o ho => kX2_fail l D ct A 1 s0 o ho) (fun s_8 => ?_)
            exact m_vret C dX2_readOperation_177
          refine m_icmp_ne (tgt := 172) C dX2_readOperation_138 rfl ?_ ?_
          · refine m_loc (L2 := [(0, .ref (A 4))]) [0] rfl ?_
            exact hk_6
          · refine m_aload_n C dX2_readOperation_141 rfl ?_
            refine m_get (v := .int (gi s0 4 7)) C fl_X2_98_2 rfl (by decide) rfl dX2_readOperation_142 ?_
            refine m_if_ne (tgt := 172) C dX2_readOperation_145 rfl ?_ ?_
            · refine m_loc (L2 := [(0, .ref (A 4))]) [0] rfl ?_
              exact hk_6
            · refine m_aload_n C dX2_readOperation_148 rfl ?_
              refine m_get (v := .int (gi s0 4 11)) C fl_X2_107_2 rfl (by decide) rfl dX2_readOperation_149 ?_
              refine m_aload_n C dX2_readOperation_152 rfl ?_
              refine m_get (v := .int (gi s0 4 8)) C fl_X2_88_2 rfl (by decide) rfl dX2_readOperation_153 ?_
              refine m_icmp_ne (tgt := 172) C dX2_readOperation_156 rfl ?_ ?_
              · refine m_loc (L2 := [(0, .ref (A 4))]) [0] rfl ?_
                exact hk_6
              · refine m_aload_n C dX2_readOperation_159 rfl ?_
                refine m_iconst C dX2_readOperation_160 ci_1 ?_
                refine m_callVV C ml_X2_146 ⟨Nat.le_of_ble_eq_true rfl, Nat.le_of_ble_eq_true rfl⟩ rfl rfl [.int 1] [] rfl rfl (Nat.le_of_ble_eq_true rfl) dX2_readOperation_161 (fun o ho => kX2_settle l D ct A 1 s0 o ho) (fun s_9 => ?_)
                refine m_aload_n C dX2_readOperation_164 rfl ?_
                refine m_iconst C dX2_readOperation_165 ci_1 ?_
                refine m_putz C fl_X2_110_2 fw_2_12 rfl (by decide) rfl true rfl dX2_readOperation_166 (fun s_10 => ?_)
                refine m_goto (tgt := 177) C dX2_readOperation_169 rfl ?_
                exact m_vret C dX2_readOperation_177
        refine m_jn (P := fun (k_11 : Option (Sg)) => Wm p l e (rmD 3) s m args below meth c D ct A 2 embV 103 [(0, .ref (A 4)), (1, .int v_1)] [] s0 (k_11)) ?_ (fun k_11 hk_11 => ?_)
        · refine m_aload_n C dX2_readOperation_103 rfl ?_
          refine m_get (v := .int (gi s0 4 7)) C fl_X2_98_2 rfl (by decide) rfl dX2_readOperation_104 ?_
          refine m_if_ne (tgt := 135) C dX2_readOperation_107 rfl ?_ ?_
          · refine m_loc (L2 := [(0, .ref (A 4)), (1, .int v_1)]) [0, 1] rfl ?_
            exact hk_5
          · refine m_aload_n C dX2_readOperation_110 rfl ?_
            refine m_get (v := .int (gi s0 4 11)) C fl_X2_107_2 rfl (by decide) rfl dX2_readOperation_111 ?_
            refine m_if_eq (tgt := 135) C dX2_readOperation_114 rfl ?_ ?_
            · refine m_loc (L2 := [(0, .ref (A 4)), (1, .int v_1)]) [0, 1] rfl ?_
              exact hk_5
            · refine m_aload_n C dX2_readOperation_117 rfl ?_
              refine m_iload_n C dX2_readOperation_118 rfl ?_
              refine m_callVV C ml_X2_140 ⟨Nat.le_of_ble_eq_true rfl, Nat.le_of_ble_eq_true rfl⟩ rfl rfl [.int v_1] [] rfl rfl (Nat.le_of_ble_eq_true rfl) dX2_readOperation_119 (fun o ho => kX2_joinBy l D ct A v_1 s0 o ho) (fun s_12 => ?_)
              refine m_aload_n C dX2_readOperation_122 rfl ?_
              refine m_iconst C dX2_readOperation_123 ci_0 ?_
              refine m_putz C fl_X2_107_2 fw_2_11 rfl (by decide) rfl false rfl dX2_readOperation_124 (fun s_13 => ?_)
              refine m_aload_n C dX2_readOperation_127 rfl ?_
              refine m_iconst C dX2_readOperation_128 ci_1 ?_
              refine m_putz C fl_X2_104_2 fw_2_10 rfl (by decide) rfl true rfl dX2_readOperation_129 (fun s_14 => ?_)
              refine m_goto (tgt := 177) C dX2_readOperation_132 rfl ?_
              exact m_vret C dX2_readOperation_177
        refine m_icmp_eq (tgt := 103) C dX2_readOperation_95 rfl ?_ ?_
        · refine m_loc (L2 := [(0, .ref (A 4)), (1, .int v_1)]) [0, 1] rfl ?_
          exact hk_11
        · refine m_iload_n C dX2_readOperation_98 rfl ?_
          refine m_iconst C dX2_readOperation_99 ci_1 ?_
          refine m_icmp_ne (tgt := 135) C dX2_readOperation_100 rfl ?_ ?_
          · refine m_loc (L2 := [(0, .ref (A 4)), (1, .int v_1)]) [0, 1] rfl ?_
            exact hk_5
          · refine m_loc (L2 := [(0, .ref (A 4)), (1, .int v_1)]) [0, 1] rfl ?_
            exact hk_11
      refine m_icmp_lt (tgt := 93) C dX2_readOperation_50 rfl ?_ ?_
      · refine m_loc (L2 := [(0, .ref (A 4)), (1, .int v_1)]) [0, 1] rfl ?_
        exact hk_4
      · refine m_iload_n C dX2_readOperation_53 rfl ?_
        refine m_bipush C dX2_readOperation_54 cb_9 ?_
        refine m_icmp_gt (tgt := 93) C dX2_readOperation_56 rfl ?_ ?_
        · refine m_loc (L2 := [(0, .ref (A 4)), (1, .int v_1)]) [0, 1] rfl ?_
          exact hk_4
        · refine m_aload_n C dX2_readOperation_59 rfl ?_
          refine m_get (v := .int (gi s0 4 8)) C fl_X2_88_2 rfl (by decide) rfl dX2_readOperation_60 ?_
          refine m_if_eq (tgt := 93) C dX2_readOperation_63 rfl ?_ ?_
          · refine m_loc (L2 := [(0, .ref (A 4)), (1, .int v_1)]) [0, 1] rfl ?_
            exact hk_4
          · refine m_aload_n C dX2_readOperation_66 rfl ?_
            refine m_get (v := .int (gi s0 4 7)) C fl_X2_98_2 rfl (by decide) rfl dX2_readOperation_67 ?_
            refine m_if_ne (tgt := 93) C dX2_readOperation_70 rfl ?_ ?_
            · refine m_loc (L2 := [(0, .ref (A 4)), (1, .int v_1)]) [0, 1] rfl ?_
              exact hk_4
            · refine m_aload_n C dX2_readOperation_73 rfl ?_
              refine m_get (v := .int (gi s0 4 11)) C fl_X2_107_2 rfl (by decide) rfl dX2_readOperation_74 ?_
              refine m_if_ne (tgt := 93) C dX2_readOperation_77 rfl ?_ ?_
              · refine m_loc (L2 := [(0, .ref (A 4)), (1, .int v_1)]) [0, 1] rfl ?_
                exact hk_4
              · refine m_aload_n C dX2_readOperation_80 rfl ?_
                refine m_iload_n C dX2_readOperation_81 rfl ?_
                refine m_callVV C ml_X2_140 ⟨Nat.le_of_ble_eq_true rfl, Nat.le_of_ble_eq_true rfl⟩ rfl rfl [.int v_1] [] rfl rfl (Nat.le_of_ble_eq_true rfl) dX2_readOperation_82 (fun o ho => kX2_joinBy l D ct A v_1 s0 o ho) (fun s_15 => ?_)
                refine m_aload_n C dX2_readOperation_85 rfl ?_
                refine m_iconst C dX2_readOperation_86 ci_1 ?_
                refine m_putz C fl_X2_107_2 fw_2_11 rfl (by decide) rfl true rfl dX2_readOperation_87 (fun s_16 => ?_)
                refine m_goto (tgt := 177) C dX2_readOperation_90 rfl ?_
                exact m_vret C dX2_readOperation_177
    refine m_icmp_ne (tgt := 48) C dX2_readOperation_31 rfl ?_ ?_
    · refine m_loc (L2 := [(0, .ref (A 4)), (1, .int v_1)]) [0, 1] rfl ?_
      exact hk_3
    · refine m_aload_n C dX2_readOperation_34 rfl ?_
      refine m_get (v := .int (gi s0 4 7)) C fl_X2_98_2 rfl (by decide) rfl dX2_readOperation_35 ?_
      refine m_if_le (tgt := 48) C dX2_readOperation_38 rfl ?_ ?_
      · refine m_loc (L2 := [(0, .ref (A 4)), (1, .int v_1)]) [0, 1] rfl ?_
        exact hk_3
      · refine m_aload_n C dX2_readOperation_41 rfl ?_
        refine m_callVV C ml_X2_143 ⟨Nat.le_of_ble_eq_true rfl, Nat.le_of_ble_eq_true rfl⟩ rfl rfl [] [] rfl rfl (Nat.le_of_ble_eq_true rfl) dX2_readOperation_42 (fun o ho => kX2_closeBracket l D ct A s0 o ho) (fun s_17 => ?_)
        refine m_goto (tgt := 177) C dX2_readOperation_45 rfl ?_
        exact m_vret C dX2_readOperation_177
  refine m_icmp_lt (tgt := 28) C dX2_readOperation_11 rfl ?_ ?_
  · refine m_loc (L2 := [(0, .ref (A 4)), (1, .int v_1)]) [1, 0] rfl ?_
    exact hk_2
  · refine m_iload_n C dX2_readOperation_14 rfl ?_
    refine m_bipush C dX2_readOperation_15 cb_13 ?_
    refine m_icmp_gt (tgt := 28) C dX2_readOperation_17 rfl ?_ ?_
    · refine m_loc (L2 := [(0, .ref (A 4)), (1, .int v_1)]) [1, 0] rfl ?_
      exact hk_2
    · refine m_aload_n C dX2_readOperation_20 rfl ?_
      refine m_iload_n C dX2_readOperation_21 rfl ?_
      refine m_callVV C ml_X2_140 ⟨Nat.le_of_ble_eq_true rfl, Nat.le_of_ble_eq_true rfl⟩ rfl rfl [.int v_1] [] rfl rfl (Nat.le_of_ble_eq_true rfl) dX2_readOperation_22 (fun o ho => kX2_joinBy l D ct A v_1 s0 o ho) (fun s_18 => ?_)
      refine m_goto (tgt := 177) C dX2_readOperation_25 rfl ?_
      exact m_vret C dX2_readOperation_177
def fX4_weigh_9_b (a2 : Int32) (a3 : Int32) (k_4 : Int32 → Int32 → Sg → Option (Sg)) (rec9 : Int32 → Int32 → Int32 → Sg → Option (Sg)) (x4_6 : Int32) (x5_7 : Int32) (x6_8 : Int32) (s_9 : Sg) : Option (Sg) :=
  if (gi s_9 1 6) ≤ x6_8 then
    k_4 x4_6 x5_7 s_9
  else
    bv (fun (x4_10 : Int32) (x5_11 : Int32) (s_12 : Sg) => 
      bv (x6_8 + 1) fun v_14 =>
      rec9 x4_10 x5_11 v_14 s_12)
    fun k_13 =>
    if ((a2 >>> (x6_8 &&& 31)) &&& 1) = 1 then
      chk (inb 12 x6_8) <|
      bnd (fX4_borne (gr s_9 1 13) x6_8 (gi s_9 9 (ix x6_8)) (gi s_9 10 (ix x6_8)) 0 s_9) fun r_20 s_21 =>
      bv (x4_6 + r_20) fun v_22 =>
      k_13 v_22 x5_7 s_21
    else
      if ((a3 >>> (x6_8 &&& 31)) &&& 1) = 1 then
        chk (inb 12 x6_8) <|
        bnd (fX4_borne (gr s_9 1 13) x6_8 (gi s_9 9 (ix x6_8)) (gi s_9 10 (ix x6_8)) 1 s_9) fun r_16 s_17 =>
        bv (x5_7 + r_16) fun v_18 =>
        k_13 x4_6 v_18 s_17
      else
        k_13 x4_6 x5_7 s_9
def fX4_weigh (a2 : Int32) (a3 : Int32) (s0 : Sg) : Option (Sg) :=
  bv (fun (x4_1 : Int32) (x5_2 : Int32) (s_3 : Sg) => 
    bnv (fX4_hang x4_1 x5_2 s_3) fun s_5 =>
    some s_5)
  fun k_4 =>
  lo4 (fX4_weigh_9_b a2 a3 k_4) FU 0 0 0 s0
theorem wX4_weigh_9 {p : Program} {l : Launch} {e : Env} {s : State} {m : MethodId} {args : Array Value} {below : List Frame} {meth : Method} {c : Code} {D : va_G} {ct : Nat → ClassId} {A : Nat → Nat} (C : Cx p m c cX4_weigh 7 s args yX4_weigh.cls meth none D ct A) (a2 : Int32) (a3 : Int32) (k_4 : Int32 → Int32 → Sg → Option (Sg)) (hk_4 : ∀ (x4_1 : Int32) (x5_2 : Int32) (s_3 : Sg), Wm p l e (rmD 3) s m args below meth c D ct A 7 embV 107 [(0, .ref (A 6)), (1, .ref (A 1)), (4, .int x4_1), (5, .int x5_2)] [] s_3 (k_4 x4_1 x5_2 s_3)) : ∀ (n : Nat) (x4_6 : Int32) (x5_7 : Int32) (x6_8 : Int32) (s_9 : Sg), Wm p l e (rmD 3) s m args below meth c D ct A 7 embV 9 [(0, .ref (A 6)), (1, .ref (A 1)), (2, .int a2), (3, .int a3), (4, .int x4_6), (5, .int x5_7), (6, .int x6_8)] [] s_9 (lo4 (fX4_weigh_9_b a2 a3 k_4) n x4_6 x5_7 x6_8 s_9) := by
  intro n
  induction n with
  | zero => intro x4_6 x5_7 x6_8 s_9; exact m_none
  | succ n hrec9 =>
    intro x4_6 x5_7 x6_8 s_9
    refine (show Wm p l e (rmD 3) s m args below meth c D ct A 7 embV 9 [(0, .ref (A 6)), (1, .ref (A 1)), (2, .int a2), (3, .int a3), (4, .int x4_6), (5, .int x5_7), (6, .int x6_8)] [] s_9 (fX4_weigh_9_b a2 a3 k_4 (lo4 (fX4_weigh_9_b a2 a3 k_4) n) x4_6 x5_7 x6_8 s_9) from ?_)
    generalize lo4 (fX4_weigh_9_b a2 a3 k_4) n = rec9 at hrec9 ⊢
    unfold fX4_weigh_9_b
    refine m_iload C dX4_weigh_9 rfl ?_
    refine m_aload_n C dX4_weigh_11 rfl ?_
    refine m_get (v := .int (gi s_9 1 6)) C fl_X4_18_6 rfl (by decide) rfl dX4_weigh_12 ?_
    refine m_icmp_ge (tgt := 107) C dX4_weigh_15 rfl ?_ ?_
    · refine m_loc (L2 := [(0, .ref (A 6)), (1, .ref (A 1)), (4, .int x4_6), (5, .int x5_7)]) [0, 1, 4, 5] rfl ?_
      exact hk_4 x4_6 x5_7 s_9
    · refine m_iload_n C dX4_weigh_18 rfl ?_
      refine m_iload C dX4_weigh_19 rfl ?_
      refine m_ishr C dX4_weigh_21 ?_
      refine m_iconst C dX4_weigh_22 ci_1 ?_
      refine m_iand C dX4_weigh_23 ?_
      refine m_iconst C dX4_weigh_24 ci_1 ?_
      refine m_jn (P := fun (k_13 : Int32 → Int32 → Sg → Option (Sg)) => ∀ (x4_10 : Int32) (x5_11 : Int32) (s_12 : Sg), Wm p l e (rmD 3) s m args below meth c D ct A 7 embV 101 [(0, .ref (A 6)), (1, .ref (A 1)), (2, .int a2), (3, .int a3), (4, .int x4_10), (5, .int x5_11), (6, .int x6_8)] [] s_12 (k_13 x4_10 x5_11 s_12)) ?_ (fun k_13 hk_13 => ?_)
      · intro x4_10 x5_11 s_12
        refine m_iincb (L2 := fun v_14 => [(6, .int v_14), (0, .ref (A 6)), (1, .ref (A 1)), (2, .int a2), (3, .int a3), (4, .int x4_10), (5, .int x5_11)]) (q := 6) C dX4_weigh_101 rfl ci_1 (by decide) (fun _ => rfl) (fun v_14 => ?_)
        refine m_goto (tgt := 9) C dX4_weigh_104 rfl ?_
        refine m_loc (L2 := [(0, .ref (A 6)), (1, .ref (A 1)), (2, .int a2), (3, .int a3), (4, .int x4_10), (5, .int x5_11), (6, .int v_14)]) [1, 2, 3, 4, 5, 6, 0] rfl ?_
        exact hrec9 x4_10 x5_11 v_14 s_12
      refine m_icmp_ne (tgt := 61) C dX4_weigh_25 rfl ?_ ?_
      · refine m_iload_n C dX4_weigh_61 rfl ?_
        refine m_iload C dX4_weigh_62 rfl ?_
        refine m_ishr C dX4_weigh_64 ?_
        refine m_iconst C dX4_weigh_65 ci_1 ?_
        refine m_iand C dX4_weigh_66 ?_
        refine m_iconst C dX4_weigh_67 ci_1 ?_
        refine m_icmp_ne (tgt := 101) C dX4_weigh_68 rfl ?_ ?_
        · refine m_loc (L2 := [(0, .ref (A 6)), (1, .ref (A 1)), (2, .int a2), (3, .int a3), (4, .int x4_6), (5, .int x5_7), (6, .int x6_8)]) [0, 1, 2, 3, 4, 5, 6] rfl ?_
          exact hk_13 x4_6 x5_7 s_9
        · refine m_iload C dX4_weigh_71 rfl ?_
          refine m_aload_n C dX4_weigh_73 rfl ?_
          refine m_aload_n C dX4_weigh_74 rfl ?_
          refine m_get (v := rfv A (gr s_9 1 13)) C fl_X4_24_6 rfl (by decide) rfl dX4_weigh_75 ?_
          refine m_iload C dX4_weigh_78 rfl ?_
          refine m_aload_n C dX4_weigh_80 rfl ?_
          refine m_get (v := .ref (A 9)) C fl_X4_28_6 rfl (by decide) rfl dX4_weigh_81 ?_
          refine m_iload C dX4_weigh_84 rfl ?_
          refine m_chk (fun h_15 => ?_)
          refine m_iald C rfl h_15 dX4_weigh_86 ?_
          refine m_aload_n C dX4_weigh_87 rfl ?_
          refine m_get (v := .ref (A 10)) C fl_X4_31_6 rfl (by decide) rfl dX4_weigh_88 ?_
          refine m_iload C dX4_weigh_91 rfl ?_
          refine m_iald C rfl h_15 dX4_weigh_93 ?_
          refine m_iconst C dX4_weigh_94 ci_1 ?_
          refine m_callVI C ml_X4_34 ⟨Nat.le_of_ble_eq_true rfl, Nat.le_of_ble_eq_true rfl⟩ rfl rfl [rfv A (gr s_9 1 13), .int x6_8, .int (gi s_9 9 (ix x6_8)), .int (gi s_9 10 (ix x6_8)), .int 1] [.int x5_7] rfl rfl (Nat.le_of_ble_eq_true rfl) dX4_weigh_95 (fun o ho => kX4_borne l D ct A (gr s_9 1 13) x6_8 (gi s_9 9 (ix x6_8)) (gi s_9 10 (ix x6_8)) 1 s_9 o ho) (fun r_16 s_17 => ?_)
          refine m_iadd C dX4_weigh_98 ?_
          refine m_let (fun v_18 => ?_)
          refine m_istore (L2 := [(5, .int v_18), (0, .ref (A 6)), (1, .ref (A 1)), (2, .int a2), (3, .int a3), (4, .int x4_6), (6, .int x6_8)]) C dX4_weigh_99 (by decide) rfl ?_
          refine m_loc (L2 := [(0, .ref (A 6)), (1, .ref (A 1)), (2, .int a2), (3, .int a3), (4, .int x4_6), (5, .int v_18), (6, .int x6_8)]) [1, 2, 3, 4, 5, 0, 6] rfl ?_
          exact hk_13 x4_6 v_18 s_17
      · refine m_iload C dX4_weigh_28 rfl ?_
        refine m_aload_n C dX4_weigh_30 rfl ?_
        refine m_aload_n C dX4_weigh_31 rfl ?_
        refine m_get (v := rfv A (gr s_9 1 13)) C fl_X4_24_6 rfl (by decide) rfl dX4_weigh_32 ?_
        refine m_iload C dX4_weigh_35 rfl ?_
        refine m_aload_n C dX4_weigh_37 rfl ?_
        refine m_get (v := .ref (A 9)) C fl_X4_28_6 rfl (by decide) rfl dX4_weigh_38 ?_
        refine m_iload C dX4_weigh_41 rfl ?_
        refine m_chk (fun h_19 => ?_)
        refine m_iald C rfl h_19 dX4_weigh_43 ?_
        refine m_aload_n C dX4_weigh_44 rfl ?_
        refine m_get (v := .ref (A 10)) C fl_X4_31_6 rfl (by decide) rfl dX4_weigh_45 ?_
        refine m_iload C dX4_weigh_48 rfl ?_
        refine m_iald C rfl h_19 dX4_weigh_50 ?_
        refine m_iconst C dX4_weigh_51 ci_0 ?_
        refine m_callVI C ml_X4_34 ⟨Nat.le_of_ble_eq_true rfl, Nat.le_of_ble_eq_true rfl⟩ rfl rfl [rfv A (gr s_9 1 13), .int x6_8, .int (gi s_9 9 (ix x6_8)), .int (gi s_9 10 (ix x6_8)), .int 0] [.int x4_6] rfl rfl (Nat.le_of_ble_eq_true rfl) dX4_weigh_52 (fun o ho => kX4_borne l D ct A (gr s_9 1 13) x6_8 (gi s_9 9 (ix x6_8)) (gi s_9 10 (ix x6_8)) 0 s_9 o ho) (fun r_20 s_21 => ?_)
        refine m_iadd C dX4_weigh_55 ?_
        refine m_let (fun v_22 => ?_)
        refine m_istore (L2 := [(4, .int v_22), (0, .ref (A 6)), (1, .ref (A 1)), (2, .int a2), (3, .int a3), (5, .int x5_7), (6, .int x6_8)]) C dX4_weigh_56 (by decide) rfl ?_
        refine m_goto (tgt := 101) C dX4_weigh_58 rfl ?_
        refine m_loc (L2 := [(0, .ref (A 6)), (1, .ref (A 1)), (2, .int a2), (3, .int a3), (4, .int v_22), (5, .int x5_7), (6, .int x6_8)]) [1, 2, 3, 4, 0, 5, 6] rfl ?_
        exact hk_13 v_22 x5_7 s_21
theorem kX4_weigh (l : Launch) (D : va_G) (ct : Nat → ClassId) (A : Nat → Nat) (a2 : Int32) (a3 : Int32) (s0 : Sg) (o : Sg) (ho : fX4_weigh a2 a3 s0 = some o) : Con l yX4_weigh cX4_weigh 7 none 3 D ct A [.ref (A 6), .ref (A 1), .int a2, .int a3] s0 (embV o) := by
  refine con_start (by decide +kernel) (Nat.le_of_ble_eq_true rfl) ho (fun p e s m args below meth c C => ?_)
  refine m_loc (L2 := [(0, .ref (A 6)), (1, .ref (A 1)), (2, .int a2), (3, .int a3)]) [0, 1, 2, 3] rfl ?_
  unfold fX4_weigh
  refine m_iconst C dX4_weigh_0 ci_0 ?_
  refine m_istore (L2 := [(4, .int 0), (0, .ref (A 6)), (1, .ref (A 1)), (2, .int a2), (3, .int a3)]) C dX4_weigh_1 (by decide) rfl ?_
  refine m_iconst C dX4_weigh_3 ci_0 ?_
  refine m_istore (L2 := [(5, .int 0), (4, .int 0), (0, .ref (A 6)), (1, .ref (A 1)), (2, .int a2), (3, .int a3)]) C dX4_weigh_4 (by decide) rfl ?_
  refine m_iconst C dX4_weigh_6 ci_0 ?_
  refine m_istore (L2 := [(6, .int 0), (5, .int 0), (4, .int 0), (0, .ref (A 6)), (1, .ref (A 1)), (2, .int a2), (3, .int a3)]) C dX4_weigh_7 (by decide) rfl ?_
  refine m_jn (P := fun (k_4 : Int32 → Int32 → Sg → Option (Sg)) => ∀ (x4_1 : Int32) (x5_2 : Int32) (s_3 : Sg), Wm p l e (rmD 3) s m args below meth c D ct A 7 embV 107 [(0, .ref (A 6)), (1, .ref (A 1)), (4, .int x4_1), (5, .int x5_2)] [] s_3 (k_4 x4_1 x5_2 s_3)) ?_ (fun k_4 hk_4 => ?_)
  · intro x4_1 x5_2 s_3
    refine m_aload_n C dX4_weigh_107 rfl ?_
    refine m_aload_n C dX4_weigh_108 rfl ?_
    refine m_iload C dX4_weigh_109 rfl ?_
    refine m_iload C dX4_weigh_111 rfl ?_
    refine m_callVV C ml_X4_38 ⟨Nat.le_of_ble_eq_true rfl, Nat.le_of_ble_eq_true rfl⟩ rfl rfl [.ref (A 1), .int x4_1, .int x5_2] [] rfl rfl (Nat.le_of_ble_eq_true rfl) dX4_weigh_113 (fun o ho => kX4_hang l D ct A x4_1 x5_2 s_3 o ho) (fun s_5 => ?_)
    exact m_vret C dX4_weigh_116
  refine m_loc (L2 := [(0, .ref (A 6)), (1, .ref (A 1)), (2, .int a2), (3, .int a3), (4, .int 0), (5, .int 0), (6, .int 0)]) [3, 4, 5, 6, 2, 1, 0] rfl ?_
  exact wX4_weigh_9 C a2 a3 k_4 hk_4 FU 0 0 0 s0
