def fX10_isAll_2_b (a1 : Int32) (a2 : Int32) (s0 : Sg) (rec2 : Int32 → Option (Bool × Sg)) (x3_1 : Int32) : Option (Bool × Sg) :=
  if a2 < x3_1 then
    some (true, s0)
  else
    chk (inb 6006 (((1001 * a1) + 500) + x3_1)) <|
    if (gi s0 46 (ix (((1001 * a1) + 500) + x3_1))) = 0 then
      some (false, s0)
    else
      bv (x3_1 + 1) fun v_3 =>
      rec2 v_3
def fX10_isAll (a1 : Int32) (a2 : Int32) (s0 : Sg) : Option (Bool × Sg) :=
  lo1 (fX10_isAll_2_b a1 a2 s0) FU 1
theorem wX10_isAll_2 {p : Program} {l : Launch} {e : Env} {s : State} {m : MethodId} {args : Array Value} {below : List Frame} {meth : Method} {c : Code} {D : va_G} {ct : Nat → ClassId} {A : Nat → Nat} (C : Cx p m c cX10_isAll 4 s args yX10_isAll.cls meth (some .boolean) D ct A) (a1 : Int32) (a2 : Int32) (s0 : Sg) : ∀ (n : Nat) (x3_1 : Int32), Wm p l e (rmD 0) s m args below meth c D ct A 4 embZ 2 [(0, .ref (A 27)), (1, .int a1), (2, .int a2), (3, .int x3_1)] [] s0 (lo1 (fX10_isAll_2_b a1 a2 s0) n x3_1) := by
  intro n
  induction n with
  | zero => intro x3_1; exact m_none
  | succ n hrec2 =>
    intro x3_1
    refine (show Wm p l e (rmD 0) s m args below meth c D ct A 4 embZ 2 [(0, .ref (A 27)), (1, .int a1), (2, .int a2), (3, .int x3_1)] [] s0 (fX10_isAll_2_b a1 a2 s0 (lo1 (fX10_isAll_2_b a1 a2 s0) n) x3_1) from ?_)
    generalize lo1 (fX10_isAll_2_b a1 a2 s0) n = rec2 at hrec2 ⊢
    unfold fX10_isAll_2_b
    refine m_iload_n C dX10_isAll_2 rfl ?_
    refine m_iload_n C dX10_isAll_3 rfl ?_
    refine m_icmp_gt (tgt := 34) C dX10_isAll_4 rfl ?_ ?_
    · refine m_iconst C dX10_isAll_34 ci_1 ?_
      exact m_zret C true rfl dX10_isAll_35
    · refine m_aload_n C dX10_isAll_7 rfl ?_
      refine m_get (v := .ref (A 46)) C fl_X10_73_9 rfl (by decide) rfl dX10_isAll_8 ?_
      refine m_sipush C dX10_isAll_11 cs_1001 ?_
      refine m_iload_n C dX10_isAll_14 rfl ?_
      refine m_imul C dX10_isAll_15 ?_
      refine m_sipush C dX10_isAll_16 cs_500 ?_
      refine m_iadd C dX10_isAll_19 ?_
      refine m_iload_n C dX10_isAll_20 rfl ?_
      refine m_iadd C dX10_isAll_21 ?_
      refine m_chk (fun h_2 => ?_)
      refine m_zald C rfl h_2 dX10_isAll_22 ?_
      refine m_if_ne (tgt := 28) C dX10_isAll_23 rfl ?_ ?_
      · refine m_iincb (L2 := fun v_3 => [(3, .int v_3), (0, .ref (A 27)), (1, .int a1), (2, .int a2)]) (q := 3) C dX10_isAll_28 rfl ci_1 (by decide) (fun _ => rfl) (fun v_3 => ?_)
        refine m_goto (tgt := 2) C dX10_isAll_31 rfl ?_
        refine m_loc (L2 := [(0, .ref (A 27)), (1, .int a1), (2, .int a2), (3, .int v_3)]) [1, 2, 3, 0] rfl ?_
        exact hrec2 v_3
      · refine m_iconst C dX10_isAll_26 ci_0 ?_
        exact m_zret C false rfl dX10_isAll_27
theorem kX10_isAll (l : Launch) (D : va_G) (ct : Nat → ClassId) (A : Nat → Nat) (a1 : Int32) (a2 : Int32) (s0 : Sg) (o : Bool × Sg) (ho : fX10_isAll a1 a2 s0 = some o) : Con l yX10_isAll cX10_isAll 4 (some .boolean) 0 D ct A [.ref (A 27), .int a1, .int a2] s0 (embZ o) := by
  refine con_start (by decide +kernel) (Nat.le_of_ble_eq_true rfl) ho (fun p e s m args below meth c C => ?_)
  refine m_loc (L2 := [(0, .ref (A 27)), (1, .int a1), (2, .int a2)]) [0, 1, 2] rfl ?_
  unfold fX10_isAll
  refine m_iconst C dX10_isAll_0 ci_1 ?_
  refine m_istore_n (L2 := [(3, .int 1), (0, .ref (A 27)), (1, .int a1), (2, .int a2)]) C dX10_isAll_1 rfl (by decide) rfl ?_
  refine m_loc (L2 := [(0, .ref (A 27)), (1, .int a1), (2, .int a2), (3, .int 1)]) [1, 2, 3, 0] rfl ?_
  exact wX10_isAll_2 C a1 a2 s0 FU 1
def fX10_chooses_94_b (a1 : Int32) (k_14 : Int32 → Option (Bool × Sg)) (rec94 : Int32 → Int32 → Option (Bool × Sg)) (x6_22 : Int32) (x7_23 : Int32) : Option (Bool × Sg) :=
  if a1 ≤ x7_23 then
    k_14 x6_22
  else
    bv (x6_22 * 3) fun v_24 =>
    bv (x7_23 + 1) fun v_25 =>
    rec94 v_24 v_25
def fX10_chooses_19_b (a1 : Int32) (a2 : Int32) (rec19 : Int32 → Sg → Option (Bool × Sg)) (x4_3 : Int32) (s_4 : Sg) : Option (Bool × Sg) :=
  if x4_3 < 0 then
    some (false, s_4)
  else
    chk (inb 6 x4_3) <|
    bv (si s_4 45 (ix x4_3) ((gi s_4 45 (ix x4_3)) + 1)) fun s_6 =>
    bv (fun (y_7 : Int32) => 
      chk (inb 6 x4_3) <|
      if (gi s_6 45 (ix x4_3)) ≤ y_7 then
        bnd (fX10_makes x4_3 (gi s_6 45 (ix x4_3)) s_6) fun r_10 s_11 =>
        bv (x4_3 + 1) fun v_12 =>
        bv (fun (x6_13 : Int32) => 
          if ((2 * a2) + 1) ≤ x6_13 then
            if x4_3 = (a1 - 1) then
              bnd (fX10_isAll a1 a2 s_11) fun r_20 s_21 =>
              if (b2i r_20) = 0 then
                rec19 x4_3 s_21
              else
                some (true, s_21)
            else
              chk (inb 6 x4_3) <|
              chk (inb 6 (x4_3 + 1)) <|
              bv (si s_11 47 (ix (x4_3 + 1)) ((gi s_11 47 (ix x4_3)) + (gi s_11 45 (ix x4_3)))) fun s_17 =>
              bv (si s_17 45 (ix (x4_3 + 1)) (gi s_17 45 (ix x4_3))) fun s_18 =>
              bv (x4_3 + 1) fun v_19 =>
              rec19 v_19 s_18
          else
            rec19 x4_3 s_11)
        fun k_14 =>
        lo2 (fX10_chooses_94_b a1 k_14) FU r_10 v_12
      else
        bv (x4_3 + (-1)) fun v_26 =>
        rec19 v_26 s_6)
    fun k_8 =>
    if x4_3 = (a1 - 1) then
      k_8 (a2 + (gi s_6 47 (ix x4_3)))
    else
      k_8 a2
def fX10_chooses (a1 : Int32) (a2 : Int32) (s0 : Sg) : Option (Bool × Sg) :=
  bv (si s0 45 (ix 0) 0) fun s_1 =>
  bv (si s_1 47 (ix 0) 0) fun s_2 =>
  lo2 (fX10_chooses_19_b a1 a2) FU 0 s_2
theorem wX10_chooses_94 {p : Program} {l : Launch} {e : Env} {s : State} {m : MethodId} {args : Array Value} {below : List Frame} {meth : Method} {c : Code} {D : va_G} {ct : Nat → ClassId} {A : Nat → Nat} (C : Cx p m c cX10_chooses 8 s args yX10_chooses.cls meth (some .boolean) D ct A) (a1 : Int32) (a2 : Int32) (x4_3 : Int32) (s_11 : Sg) (k_14 : Int32 → Option (Bool × Sg)) (hk_14 : ∀ (x6_13 : Int32), Wm p l e (rmD 1) s m args below meth c D ct A 8 embZ 112 [(0, .ref (A 27)), (1, .int a1), (2, .int a2), (3, .ref (A 47)), (4, .int x4_3), (6, .int x6_13)] [] s_11 (k_14 x6_13)) : ∀ (n : Nat) (x6_22 : Int32) (x7_23 : Int32), Wm p l e (rmD 1) s m args below meth c D ct A 8 embZ 94 [(0, .ref (A 27)), (1, .int a1), (2, .int a2), (3, .ref (A 47)), (4, .int x4_3), (6, .int x6_22), (7, .int x7_23)] [] s_11 (lo2 (fX10_chooses_94_b a1 k_14) n x6_22 x7_23) := by
  intro n
  induction n with
  | zero => intro x6_22 x7_23; exact m_none
  | succ n hrec94 =>
    intro x6_22 x7_23
    refine (show Wm p l e (rmD 1) s m args below meth c D ct A 8 embZ 94 [(0, .ref (A 27)), (1, .int a1), (2, .int a2), (3, .ref (A 47)), (4, .int x4_3), (6, .int x6_22), (7, .int x7_23)] [] s_11 (fX10_chooses_94_b a1 k_14 (lo2 (fX10_chooses_94_b a1 k_14) n) x6_22 x7_23) from ?_)
    generalize lo2 (fX10_chooses_94_b a1 k_14) n = rec94 at hrec94 ⊢
    unfold fX10_chooses_94_b
    refine m_iload C dX10_chooses_94 rfl ?_
    refine m_iload_n C dX10_chooses_96 rfl ?_
    refine m_icmp_ge (tgt := 112) C dX10_chooses_97 rfl ?_ ?_
    · refine m_loc (L2 := [(0, .ref (A 27)), (1, .int a1), (2, .int a2), (3, .ref (A 47)), (4, .int x4_3), (6, .int x6_22)]) [0, 1, 2, 3, 4, 5] rfl ?_
      exact hk_14 x6_22
    · refine m_iload C dX10_chooses_100 rfl ?_
      refine m_iconst C dX10_chooses_102 ci_3 ?_
      refine m_imul C dX10_chooses_103 ?_
      refine m_let (fun v_24 => ?_)
      refine m_istore (L2 := [(6, .int v_24), (0, .ref (A 27)), (1, .int a1), (2, .int a2), (3, .ref (A 47)), (4, .int x4_3), (7, .int x7_23)]) C dX10_chooses_104 (by decide) rfl ?_
      refine m_iincb (L2 := fun v_25 => [(7, .int v_25), (6, .int v_24), (0, .ref (A 27)), (1, .int a1), (2, .int a2), (3, .ref (A 47)), (4, .int x4_3)]) (q := 6) C dX10_chooses_106 rfl ci_1 (by decide) (fun _ => rfl) (fun v_25 => ?_)
      refine m_goto (tgt := 94) C dX10_chooses_109 rfl ?_
      refine m_loc (L2 := [(0, .ref (A 27)), (1, .int a1), (2, .int a2), (3, .ref (A 47)), (4, .int x4_3), (6, .int v_24), (7, .int v_25)]) [2, 3, 4, 5, 6, 1, 0] rfl ?_
      exact hrec94 v_24 v_25
theorem wX10_chooses_19 {p : Program} {l : Launch} {e : Env} {s : State} {m : MethodId} {args : Array Value} {below : List Frame} {meth : Method} {c : Code} {D : va_G} {ct : Nat → ClassId} {A : Nat → Nat} (C : Cx p m c cX10_chooses 8 s args yX10_chooses.cls meth (some .boolean) D ct A) (a1 : Int32) (a2 : Int32) : ∀ (n : Nat) (x4_3 : Int32) (s_4 : Sg), Wm p l e (rmD 1) s m args below meth c D ct A 8 embZ 19 [(0, .ref (A 27)), (1, .int a1), (2, .int a2), (3, .ref (A 47)), (4, .int x4_3)] [] s_4 (lo2 (fX10_chooses_19_b a1 a2) n x4_3 s_4) := by
  intro n
  induction n with
  | zero => intro x4_3 s_4; exact m_none
  | succ n hrec19 =>
    intro x4_3 s_4
    refine (show Wm p l e (rmD 1) s m args below meth c D ct A 8 embZ 19 [(0, .ref (A 27)), (1, .int a1), (2, .int a2), (3, .ref (A 47)), (4, .int x4_3)] [] s_4 (fX10_chooses_19_b a1 a2 (lo2 (fX10_chooses_19_b a1 a2) n) x4_3 s_4) from ?_)
    generalize lo2 (fX10_chooses_19_b a1 a2) n = rec19 at hrec19 ⊢
    unfold fX10_chooses_19_b
    refine m_iload C dX10_chooses_19 rfl ?_
    refine m_if_lt (tgt := 184) C dX10_chooses_21 rfl ?_ ?_
    · refine m_iconst C dX10_chooses_184 ci_0 ?_
      exact m_zret C false rfl dX10_chooses_185
    · refine m_aload_n C dX10_chooses_24 rfl ?_
      refine m_get (v := .ref (A 45)) C fl_X10_70_9 rfl (by decide) rfl dX10_chooses_25 ?_
      refine m_iload C dX10_chooses_28 rfl ?_
      refine m_dup2 C dX10_chooses_30 rfl rfl ?_
      refine m_chk (fun h_5 => ?_)
      refine m_iald C rfl h_5 dX10_chooses_31 ?_
      refine m_iconst C dX10_chooses_32 ci_1 ?_
      refine m_iadd C dX10_chooses_33 ?_
      refine m_iast C rfl h_5 dX10_chooses_34 (fun s_6 => ?_)
      refine m_iload C dX10_chooses_35 rfl ?_
      refine m_iload_n C dX10_chooses_37 rfl ?_
      refine m_iconst C dX10_chooses_38 ci_1 ?_
      refine m_isub C dX10_chooses_39 ?_
      refine m_jn (P := fun (k_8 : Int32 → Option (Bool × Sg)) => ∀ (y_7 : Int32), Wm p l e (rmD 1) s m args below meth c D ct A 8 embZ 53 [(0, .ref (A 27)), (1, .int a1), (2, .int a2), (3, .ref (A 47)), (4, .int x4_3)] [.int y_7] s_6 (k_8 y_7)) ?_ (fun k_8 hk_8 => ?_)
      · intro y_7
        refine m_istore (L2 := [(5, .int y_7), (0, .ref (A 27)), (1, .int a1), (2, .int a2), (3, .ref (A 47)), (4, .int x4_3)]) C dX10_chooses_53 (by decide) rfl ?_
        refine m_aload_n C dX10_chooses_55 rfl ?_
        refine m_get (v := .ref (A 45)) C fl_X10_70_9 rfl (by decide) rfl dX10_chooses_56 ?_
        refine m_iload C dX10_chooses_59 rfl ?_
        refine m_chk (fun h_9 => ?_)
        refine m_iald C rfl h_9 dX10_chooses_61 ?_
        refine m_iload C dX10_chooses_62 rfl ?_
        refine m_icmp_le (tgt := 73) C dX10_chooses_64 rfl ?_ ?_
        · refine m_aload_n C dX10_chooses_73 rfl ?_
          refine m_iload C dX10_chooses_74 rfl ?_
          refine m_aload_n C dX10_chooses_76 rfl ?_
          refine m_get (v := .ref (A 45)) C fl_X10_70_9 rfl (by decide) rfl dX10_chooses_77 ?_
          refine m_iload C dX10_chooses_80 rfl ?_
          refine m_iald C rfl h_9 dX10_chooses_82 ?_
          refine m_callVI C ml_X10_355 ⟨Nat.le_of_ble_eq_true rfl, Nat.le_of_ble_eq_true rfl⟩ rfl rfl [.int x4_3, .int (gi s_6 45 (ix x4_3))] [] rfl rfl (Nat.le_of_ble_eq_true rfl) dX10_chooses_83 (fun o ho => kX10_makes l D ct A x4_3 (gi s_6 45 (ix x4_3)) s_6 o ho) (fun r_10 s_11 => ?_)
          refine m_istore (L2 := [(6, .int r_10), (5, .int y_7), (0, .ref (A 27)), (1, .int a1), (2, .int a2), (3, .ref (A 47)), (4, .int x4_3)]) C dX10_chooses_86 (by decide) rfl ?_
          refine m_iload C dX10_chooses_88 rfl ?_
          refine m_iconst C dX10_chooses_90 ci_1 ?_
          refine m_iadd C dX10_chooses_91 ?_
          refine m_let (fun v_12 => ?_)
          refine m_istore (L2 := [(7, .int v_12), (6, .int r_10), (5, .int y_7), (0, .ref (A 27)), (1, .int a1), (2, .int a2), (3, .ref (A 47)), (4, .int x4_3)]) C dX10_chooses_92 (by decide) rfl ?_
          refine m_jn (P := fun (k_14 : Int32 → Option (Bool × Sg)) => ∀ (x6_13 : Int32), Wm p l e (rmD 1) s m args below meth c D ct A 8 embZ 112 [(0, .ref (A 27)), (1, .int a1), (2, .int a2), (3, .ref (A 47)), (4, .int x4_3), (6, .int x6_13)] [] s_11 (k_14 x6_13)) ?_ (fun k_14 hk_14 => ?_)
          · intro x6_13
            refine m_iload C dX10_chooses_112 rfl ?_
            refine m_iconst C dX10_chooses_114 ci_2 ?_
            refine m_iload_n C dX10_chooses_115 rfl ?_
            refine m_imul C dX10_chooses_116 ?_
            refine m_iconst C dX10_chooses_117 ci_1 ?_
            refine m_iadd C dX10_chooses_118 ?_
            refine m_icmp_ge (tgt := 125) C dX10_chooses_119 rfl ?_ ?_
            · refine m_iload C dX10_chooses_125 rfl ?_
              refine m_iload_n C dX10_chooses_127 rfl ?_
              refine m_iconst C dX10_chooses_128 ci_1 ?_
              refine m_isub C dX10_chooses_129 ?_
              refine m_icmp_ne (tgt := 144) C dX10_chooses_130 rfl ?_ ?_
              · refine m_aload_n C dX10_chooses_144 rfl ?_
                refine m_iload C dX10_chooses_145 rfl ?_
                refine m_iconst C dX10_chooses_147 ci_1 ?_
                refine m_iadd C dX10_chooses_148 ?_
                refine m_aload_n C dX10_chooses_149 rfl ?_
                refine m_iload C dX10_chooses_150 rfl ?_
                refine m_chk (fun h_15 => ?_)
                refine m_iald C rfl h_15 dX10_chooses_152 ?_
                refine m_aload_n C dX10_chooses_153 rfl ?_
                refine m_get (v := .ref (A 45)) C fl_X10_70_9 rfl (by decide) rfl dX10_chooses_154 ?_
                refine m_iload C dX10_chooses_157 rfl ?_
                refine m_iald C rfl h_15 dX10_chooses_159 ?_
                refine m_iadd C dX10_chooses_160 ?_
                refine m_chk (fun h_16 => ?_)
                refine m_iast C rfl h_16 dX10_chooses_161 (fun s_17 => ?_)
                refine m_aload_n C dX10_chooses_162 rfl ?_
                refine m_get (v := .ref (A 45)) C fl_X10_70_9 rfl (by decide) rfl dX10_chooses_163 ?_
                refine m_iload C dX10_chooses_166 rfl ?_
                refine m_iconst C dX10_chooses_168 ci_1 ?_
                refine m_iadd C dX10_chooses_169 ?_
                refine m_aload_n C dX10_chooses_170 rfl ?_
                refine m_get (v := .ref (A 45)) C fl_X10_70_9 rfl (by decide) rfl dX10_chooses_171 ?_
                refine m_iload C dX10_chooses_174 rfl ?_
                refine m_iald C rfl h_15 dX10_chooses_176 ?_
                refine m_iast C rfl h_16 dX10_chooses_177 (fun s_18 => ?_)
                refine m_iincb (L2 := fun v_19 => [(4, .int v_19), (0, .ref (A 27)), (1, .int a1), (2, .int a2), (3, .ref (A 47)), (6, .int x6_13)]) (q := 4) C dX10_chooses_178 rfl ci_1 (by decide) (fun _ => rfl) (fun v_19 => ?_)
                refine m_goto (tgt := 19) C dX10_chooses_181 rfl ?_
                refine m_loc (L2 := [(0, .ref (A 27)), (1, .int a1), (2, .int a2), (3, .ref (A 47)), (4, .int v_19)]) [1, 2, 3, 4, 0] rfl ?_
                exact hrec19 v_19 s_18
              · refine m_aload_n C dX10_chooses_133 rfl ?_
                refine m_iload_n C dX10_chooses_134 rfl ?_
                refine m_iload_n C dX10_chooses_135 rfl ?_
                refine m_callVZ C ml_X10_358 ⟨Nat.le_of_ble_eq_true rfl, Nat.le_of_ble_eq_true rfl⟩ rfl rfl [.int a1, .int a2] [] rfl rfl (Nat.le_of_ble_eq_true rfl) dX10_chooses_136 (fun o ho => kX10_isAll l D ct A a1 a2 s_11 o ho) (fun r_20 s_21 => ?_)
                refine m_if_eq (tgt := 19) C dX10_chooses_139 rfl ?_ ?_
                · refine m_loc (L2 := [(0, .ref (A 27)), (1, .int a1), (2, .int a2), (3, .ref (A 47)), (4, .int x4_3)]) [0, 1, 2, 3, 4] rfl ?_
                  exact hrec19 x4_3 s_21
                · refine m_iconst C dX10_chooses_142 ci_1 ?_
                  exact m_zret C true rfl dX10_chooses_143
            · refine m_goto (tgt := 19) C dX10_chooses_122 rfl ?_
              refine m_loc (L2 := [(0, .ref (A 27)), (1, .int a1), (2, .int a2), (3, .ref (A 47)), (4, .int x4_3)]) [0, 1, 2, 3, 4] rfl ?_
              exact hrec19 x4_3 s_11
          refine m_loc (L2 := [(0, .ref (A 27)), (1, .int a1), (2, .int a2), (3, .ref (A 47)), (4, .int x4_3), (6, .int r_10), (7, .int v_12)]) [3, 4, 5, 6, 7, 1, 0] rfl ?_
          exact wX10_chooses_94 C a1 a2 x4_3 s_11 k_14 hk_14 FU r_10 v_12
        · refine m_iincb (L2 := fun v_26 => [(4, .int v_26), (5, .int y_7), (0, .ref (A 27)), (1, .int a1), (2, .int a2), (3, .ref (A 47))]) (q := 5) C dX10_chooses_67 rfl ci_m1 (by decide) (fun _ => rfl) (fun v_26 => ?_)
          refine m_goto (tgt := 19) C dX10_chooses_70 rfl ?_
          refine m_loc (L2 := [(0, .ref (A 27)), (1, .int a1), (2, .int a2), (3, .ref (A 47)), (4, .int v_26)]) [2, 3, 4, 5, 0] rfl ?_
          exact hrec19 v_26 s_6
      refine m_icmp_ne (tgt := 52) C dX10_chooses_40 rfl ?_ ?_
      · refine m_iload_n C dX10_chooses_52 rfl ?_
        refine m_loc (L2 := [(0, .ref (A 27)), (1, .int a1), (2, .int a2), (3, .ref (A 47)), (4, .int x4_3)]) [0, 1, 2, 3, 4] rfl ?_
        exact hk_8 a2
      · refine m_iload_n C dX10_chooses_43 rfl ?_
        refine m_aload_n C dX10_chooses_44 rfl ?_
        refine m_iload C dX10_chooses_45 rfl ?_
        refine m_iald C rfl h_5 dX10_chooses_47 ?_
        refine m_iadd C dX10_chooses_48 ?_
        refine m_goto (tgt := 53) C dX10_chooses_49 rfl ?_
        refine m_loc (L2 := [(0, .ref (A 27)), (1, .int a1), (2, .int a2), (3, .ref (A 47)), (4, .int x4_3)]) [0, 1, 2, 3, 4] rfl ?_
        exact hk_8 (a2 + (gi s_6 47 (ix x4_3)))
theorem kX10_chooses (l : Launch) (D : va_G) (ct : Nat → ClassId) (A : Nat → Nat) (a1 : Int32) (a2 : Int32) (s0 : Sg) (o : Bool × Sg) (ho : fX10_chooses a1 a2 s0 = some o) : Con l yX10_chooses cX10_chooses 8 (some .boolean) 1 D ct A [.ref (A 27), .int a1, .int a2] s0 (embZ o) := by
  refine con_start (by decide +kernel) (Nat.le_of_ble_eq_true rfl) ho (fun p e s m args below meth c C => ?_)
  refine m_loc (L2 := [(0, .ref (A 27)), (1, .int a1), (2, .int a2)]) [0, 1, 2] rfl ?_
  unfold fX10_chooses
  refine m_aload_n C dX10_chooses_0 rfl ?_
  refine m_get (v := .ref (A 47)) C fl_X10_76_9 rfl (by decide) rfl dX10_chooses_1 ?_
  refine m_astore_n (L2 := [(3, .ref (A 47)), (0, .ref (A 27)), (1, .int a1), (2, .int a2)]) C dX10_chooses_4 rfl (by decide) rfl ?_
  refine m_iconst C dX10_chooses_5 ci_0 ?_
  refine m_istore (L2 := [(4, .int 0), (3, .ref (A 47)), (0, .ref (A 27)), (1, .int a1), (2, .int a2)]) C dX10_chooses_6 (by decide) rfl ?_
  refine m_aload_n C dX10_chooses_8 rfl ?_
  refine m_get (v := .ref (A 45)) C fl_X10_70_9 rfl (by decide) rfl dX10_chooses_9 ?_
  refine m_iconst C dX10_chooses_12 ci_0 ?_
  refine m_iconst C dX10_chooses_13 ci_0 ?_
  refine m_iast C rfl (by decide +kernel) dX10_chooses_14 (fun s_1 => ?_)
  refine m_aload_n C dX10_chooses_15 rfl ?_
  refine m_iconst C dX10_chooses_16 ci_0 ?_
  refine m_iconst C dX10_chooses_17 ci_0 ?_
  refine m_iast C rfl (by decide +kernel) dX10_chooses_18 (fun s_2 => ?_)
  refine m_loc (L2 := [(0, .ref (A 27)), (1, .int a1), (2, .int a2), (3, .ref (A 47)), (4, .int 0)]) [2, 3, 4, 1, 0] rfl ?_
  exact wX10_chooses_19 C a1 a2 FU 0 s_2
def fX10_weights_52_b (a1 : Int32) (k_7 : Int32 → Sg → Option (Int32 × Sg)) (rec52 : Int32 → Sg → Option (Int32 × Sg)) (x3_9 : Int32) (s_10 : Sg) : Option (Int32 × Sg) :=
  bnd (fX10_chooses x3_9 a1 s_10) fun r_11 s_12 =>
  if (b2i r_11) = 0 then
    bv (x3_9 + 1) fun v_13 =>
    rec52 v_13 s_12
  else
    k_7 x3_9 s_12
def fX10_weights_19_b (k_4 : Sg → Option (Int32 × Sg)) (rec19 : Int32 → Sg → Option (Int32 × Sg)) (x3_14 : Int32) (s_15 : Sg) : Option (Int32 × Sg) :=
  if 1001 ≤ x3_14 then
    k_4 s_15
  else
    bv (fun (y_16 : Int32) (y_17 : Bool) => 
      chk (inb 6006 y_16) <|
      bv (si s_15 46 (ix y_16) (vp_nar .boolean (b2i y_17))) fun s_20 =>
      bv (x3_14 + 1) fun v_21 =>
      rec19 v_21 s_20)
    fun k_18 =>
    if x3_14 = 500 then
      k_18 x3_14 true
    else
      k_18 x3_14 false
def fX10_weights (a1 : Int32) (a2 : Int32) (s0 : Sg) : Option (Int32 × Sg) :=
  bnd (fX10_isIn a1 1 40 s0) fun r_1 s_2 =>
  if (b2i r_1) = 0 then
    some ((-1), s_2)
  else
    if (-1) ≤ a2 then
      bv (fun (s_3 : Sg) => 
        bv (fun (x3_5 : Int32) (s_6 : Sg) => 
          if a2 = (-1) then
            some (x3_5, s_6)
          else
            if x3_5 ≤ a2 then
              some ((-1), s_6)
            else
              chk (inb 6 a2) <|
              some (gi s_6 45 (ix a2), s_6))
        fun k_7 =>
        lo2 (fX10_weights_52_b a1 k_7) FU 1 s_3)
      fun k_4 =>
      lo2 (fX10_weights_19_b k_4) FU 0 s_2
    else
      some ((-1), s_2)
theorem wX10_weights_52 {p : Program} {l : Launch} {e : Env} {s : State} {m : MethodId} {args : Array Value} {below : List Frame} {meth : Method} {c : Code} {D : va_G} {ct : Nat → ClassId} {A : Nat → Nat} (C : Cx p m c cX10_weights 4 s args yX10_weights.cls meth (some .int) D ct A) (a1 : Int32) (a2 : Int32) (k_7 : Int32 → Sg → Option (Int32 × Sg)) (hk_7 : ∀ (x3_5 : Int32) (s_6 : Sg), Wm p l e (rmD 2) s m args below meth c D ct A 4 embI 67 [(0, .ref (A 27)), (2, .int a2), (3, .int x3_5)] [] s_6 (k_7 x3_5 s_6)) : ∀ (n : Nat) (x3_9 : Int32) (s_10 : Sg), Wm p l e (rmD 2) s m args below meth c D ct A 4 embI 52 [(0, .ref (A 27)), (1, .int a1), (2, .int a2), (3, .int x3_9)] [] s_10 (lo2 (fX10_weights_52_b a1 k_7) n x3_9 s_10) := by
  intro n
  induction n with
  | zero => intro x3_9 s_10; exact m_none
  | succ n hrec52 =>
    intro x3_9 s_10
    refine (show Wm p l e (rmD 2) s m args below meth c D ct A 4 embI 52 [(0, .ref (A 27)), (1, .int a1), (2, .int a2), (3, .int x3_9)] [] s_10 (fX10_weights_52_b a1 k_7 (lo2 (fX10_weights_52_b a1 k_7) n) x3_9 s_10) from ?_)
    generalize lo2 (fX10_weights_52_b a1 k_7) n = rec52 at hrec52 ⊢
    unfold fX10_weights_52_b
    refine m_aload_n C dX10_weights_52 rfl ?_
    refine m_iload_n C dX10_weights_53 rfl ?_
    refine m_iload_n C dX10_weights_54 rfl ?_
    refine m_callVZ C ml_X10_361 ⟨Nat.le_of_ble_eq_true rfl, Nat.le_of_ble_eq_true rfl⟩ rfl rfl [.int x3_9, .int a1] [] rfl rfl (Nat.le_of_ble_eq_true rfl) dX10_weights_55 (fun o ho => kX10_chooses l D ct A x3_9 a1 s_10 o ho) (fun r_11 s_12 => ?_)
    refine m_if_ne (tgt := 67) C dX10_weights_58 rfl ?_ ?_
    · refine m_loc (L2 := [(0, .ref (A 27)), (2, .int a2), (3, .int x3_9)]) [0, 2, 3] rfl ?_
      exact hk_7 x3_9 s_12
    · refine m_iincb (L2 := fun v_13 => [(3, .int v_13), (0, .ref (A 27)), (1, .int a1), (2, .int a2)]) (q := 3) C dX10_weights_61 rfl ci_1 (by decide) (fun _ => rfl) (fun v_13 => ?_)
      refine m_goto (tgt := 52) C dX10_weights_64 rfl ?_
      refine m_loc (L2 := [(0, .ref (A 27)), (1, .int a1), (2, .int a2), (3, .int v_13)]) [1, 2, 3, 0] rfl ?_
      exact hrec52 v_13 s_12
theorem wX10_weights_19 {p : Program} {l : Launch} {e : Env} {s : State} {m : MethodId} {args : Array Value} {below : List Frame} {meth : Method} {c : Code} {D : va_G} {ct : Nat → ClassId} {A : Nat → Nat} (C : Cx p m c cX10_weights 4 s args yX10_weights.cls meth (some .int) D ct A) (a1 : Int32) (a2 : Int32) (k_4 : Sg → Option (Int32 × Sg)) (hk_4 : ∀ (s_3 : Sg), Wm p l e (rmD 2) s m args below meth c D ct A 4 embI 50 [(0, .ref (A 27)), (1, .int a1), (2, .int a2)] [] s_3 (k_4 s_3)) : ∀ (n : Nat) (x3_14 : Int32) (s_15 : Sg), Wm p l e (rmD 2) s m args below meth c D ct A 4 embI 19 [(0, .ref (A 27)), (1, .int a1), (2, .int a2), (3, .int x3_14)] [] s_15 (lo2 (fX10_weights_19_b k_4) n x3_14 s_15) := by
  intro n
  induction n with
  | zero => intro x3_14 s_15; exact m_none
  | succ n hrec19 =>
    intro x3_14 s_15
    refine (show Wm p l e (rmD 2) s m args below meth c D ct A 4 embI 19 [(0, .ref (A 27)), (1, .int a1), (2, .int a2), (3, .int x3_14)] [] s_15 (fX10_weights_19_b k_4 (lo2 (fX10_weights_19_b k_4) n) x3_14 s_15) from ?_)
    generalize lo2 (fX10_weights_19_b k_4) n = rec19 at hrec19 ⊢
    unfold fX10_weights_19_b
    refine m_iload_n C dX10_weights_19 rfl ?_
    refine m_sipush C dX10_weights_20 cs_1001 ?_
    refine m_icmp_ge (tgt := 50) C dX10_weights_23 rfl ?_ ?_
    · refine m_loc (L2 := [(0, .ref (A 27)), (1, .int a1), (2, .int a2)]) [0, 1, 2] rfl ?_
      exact hk_4 s_15
    · refine m_aload_n C dX10_weights_26 rfl ?_
      refine m_get (v := .ref (A 46)) C fl_X10_73_9 rfl (by decide) rfl dX10_weights_27 ?_
      refine m_iload_n C dX10_weights_30 rfl ?_
      refine m_iload_n C dX10_weights_31 rfl ?_
      refine m_sipush C dX10_weights_32 cs_500 ?_
      refine m_jn (P := fun (k_18 : Int32 → Bool → Option (Int32 × Sg)) => ∀ (y_16 : Int32) (y_17 : Bool), Wm p l e (rmD 2) s m args below meth c D ct A 4 embI 43 [(0, .ref (A 27)), (1, .int a1), (2, .int a2), (3, .int x3_14)] [.int (b2i y_17), .int y_16, .ref (A 46)] s_15 (k_18 y_16 y_17)) ?_ (fun k_18 hk_18 => ?_)
      · intro y_16 y_17
        refine m_chk (fun h_19 => ?_)
        refine m_zast C rfl h_19 dX10_weights_43 (fun s_20 => ?_)
        refine m_iincb (L2 := fun v_21 => [(3, .int v_21), (0, .ref (A 27)), (1, .int a1), (2, .int a2)]) (q := 3) C dX10_weights_44 rfl ci_1 (by decide) (fun _ => rfl) (fun v_21 => ?_)
        refine m_goto (tgt := 19) C dX10_weights_47 rfl ?_
        refine m_loc (L2 := [(0, .ref (A 27)), (1, .int a1), (2, .int a2), (3, .int v_21)]) [1, 2, 3, 0] rfl ?_
        exact hrec19 v_21 s_20
      refine m_icmp_ne (tgt := 42) C dX10_weights_35 rfl ?_ ?_
      · refine m_iconst C dX10_weights_42 ci_0 ?_
        refine m_loc (L2 := [(0, .ref (A 27)), (1, .int a1), (2, .int a2), (3, .int x3_14)]) [0, 1, 2, 3] rfl ?_
        exact hk_18 x3_14 false
      · refine m_iconst C dX10_weights_38 ci_1 ?_
        refine m_goto (tgt := 43) C dX10_weights_39 rfl ?_
        refine m_loc (L2 := [(0, .ref (A 27)), (1, .int a1), (2, .int a2), (3, .int x3_14)]) [0, 1, 2, 3] rfl ?_
        exact hk_18 x3_14 true
theorem kX10_weights (l : Launch) (D : va_G) (ct : Nat → ClassId) (A : Nat → Nat) (a1 : Int32) (a2 : Int32) (s0 : Sg) (o : Int32 × Sg) (ho : fX10_weights a1 a2 s0 = some o) : Con l yX10_weights cX10_weights 4 (some .int) 2 D ct A [.ref (A 27), .int a1, .int a2] s0 (embI o) := by
  refine con_start (by decide +kernel) (Nat.le_of_ble_eq_true rfl) ho (fun p e s m args below meth c C => ?_)
  refine m_loc (L2 := [(0, .ref (A 27)), (1, .int a1), (2, .int a2)]) [0, 1, 2] rfl ?_
  unfold fX10_weights
  refine m_iload_n C dX10_weights_0 rfl ?_
  refine m_iconst C dX10_weights_1 ci_1 ?_
  refine m_bipush C dX10_weights_2 cb_40 ?_
  refine m_callSZ C ml_X10_83 ⟨Nat.le_of_ble_eq_true rfl, Nat.le_of_ble_eq_true rfl⟩ [.int a1, .int 1, .int 40] [] rfl rfl (Nat.le_of_ble_eq_true rfl) dX10_weights_4 (fun o ho => kX10_isIn l D ct A a1 1 40 s0 o ho) (fun r_1 s_2 => ?_)
  refine m_if_eq (tgt := 15) C dX10_weights_7 rfl ?_ ?_
  · refine m_iconst C dX10_weights_15 ci_m1 ?_
    exact m_iret C dX10_weights_16
  · refine m_iload_n C dX10_weights_10 rfl ?_
    refine m_iconst C dX10_weights_11 ci_m1 ?_
    refine m_icmp_ge (tgt := 17) C dX10_weights_12 rfl ?_ ?_
    · refine m_iconst C dX10_weights_17 ci_0 ?_
      refine m_istore_n (L2 := [(3, .int 0), (0, .ref (A 27)), (1, .int a1), (2, .int a2)]) C dX10_weights_18 rfl (by decide) rfl ?_
      refine m_jn (P := fun (k_4 : Sg → Option (Int32 × Sg)) => ∀ (s_3 : Sg), Wm p l e (rmD 2) s m args below meth c D ct A 4 embI 50 [(0, .ref (A 27)), (1, .int a1), (2, .int a2)] [] s_3 (k_4 s_3)) ?_ (fun k_4 hk_4 => ?_)
      · intro s_3
        refine m_iconst C dX10_weights_50 ci_1 ?_
        refine m_istore_n (L2 := [(3, .int 1), (0, .ref (A 27)), (1, .int a1), (2, .int a2)]) C dX10_weights_51 rfl (by decide) rfl ?_
        refine m_jn (P := fun (k_7 : Int32 → Sg → Option (Int32 × Sg)) => ∀ (x3_5 : Int32) (s_6 : Sg), Wm p l e (rmD 2) s m args below meth c D ct A 4 embI 67 [(0, .ref (A 27)), (2, .int a2), (3, .int x3_5)] [] s_6 (k_7 x3_5 s_6)) ?_ (fun k_7 hk_7 => ?_)
        · intro x3_5 s_6
          refine m_iload_n C dX10_weights_67 rfl ?_
          refine m_iconst C dX10_weights_68 ci_m1 ?_
          refine m_icmp_ne (tgt := 76) C dX10_weights_69 rfl ?_ ?_
          · refine m_iload_n C dX10_weights_76 rfl ?_
            refine m_iload_n C dX10_weights_77 rfl ?_
            refine m_icmp_ge (tgt := 90) C dX10_weights_78 rfl ?_ ?_
            · refine m_iconst C dX10_weights_90 ci_m1 ?_
              exact m_iret C dX10_weights_91
            · refine m_aload_n C dX10_weights_81 rfl ?_
              refine m_get (v := .ref (A 45)) C fl_X10_70_9 rfl (by decide) rfl dX10_weights_82 ?_
              refine m_iload_n C dX10_weights_85 rfl ?_
              refine m_chk (fun h_8 => ?_)
              refine m_iald C rfl h_8 dX10_weights_86 ?_
              refine m_goto (tgt := 91) C dX10_weights_87 rfl ?_
              exact m_iret C dX10_weights_91
          · refine m_iload_n C dX10_weights_72 rfl ?_
            refine m_goto (tgt := 91) C dX10_weights_73 rfl ?_
            exact m_iret C dX10_weights_91
        refine m_loc (L2 := [(0, .ref (A 27)), (1, .int a1), (2, .int a2), (3, .int 1)]) [1, 2, 3, 0] rfl ?_
        exact wX10_weights_52 C a1 a2 k_7 hk_7 FU 1 s_3
      refine m_loc (L2 := [(0, .ref (A 27)), (1, .int a1), (2, .int a2), (3, .int 0)]) [1, 2, 3, 0] rfl ?_
      exact wX10_weights_19 C a1 a2 k_4 hk_4 FU 0 s_2
    · refine m_iconst C dX10_weights_15 ci_m1 ?_
      exact m_iret C dX10_weights_16
def fX10_rest_53_b (a2 : Int32) (k_11 : Int32 → Int32 → Sg → Option (Int32 × Sg)) (rec53 : Int32 → Int32 → Int32 → Int32 → Int32 → Sg → Option (Int32 × Sg)) (x4_12 : Int32) (x5_13 : Int32) (x6_14 : Int32) (x7_15 : Int32) (x8_16 : Int32) (s_17 : Sg) : Option (Int32 × Sg) :=
  if a2 ≤ x8_16 then
    k_11 x5_13 x7_15 s_17
  else
    bv ((x4_12 - x4_12 / 19 * 19) - 9) fun v_18 =>
    bv (((x4_12 * 167) + 43) - ((x4_12 * 167) + 43) / 30089 * 30089) fun v_19 =>
    bnv (fX10_name (((gi s_17 28 (ix 4)) + x8_16) - ((gi s_17 28 (ix 4)) + x8_16) / 24 * 24) (gi s_17 28 (ix 5)) v_18 s_17) fun s_20 =>
    bnd (fX10_load 0 s_20) fun r_21 s_22 =>
    bnd (fX10_load 1 s_22) fun r_23 s_24 =>
    bnd (fX10_beamBy ((((gi s_22 28 (ix 1)) * r_21) - ((gi s_22 28 (ix 2)) * r_23)) + (10 * v_18)) (gi s_24 28 (ix 3)) s_24) fun r_25 s_26 =>
    bv (fun (y_27 : Bool) => 
      bv (fun (y_29 : Int32) (y_30 : Bool) => 
        bv (y_29 + (b2i y_30)) fun v_32 =>
        bv (fun (y_33 : Int32) => 
          bv (fun (x7_35 : Int32) => 
            bv (x8_16 + 1) fun v_37 =>
            rec53 v_19 v_32 y_33 x7_35 v_37 s_26)
          fun k_36 =>
          if y_33 ≤ x7_15 then
            k_36 x7_15
          else
            k_36 y_33)
        fun k_34 =>
        if (b2i y_27) = 0 then
          k_34 0
        else
          k_34 (x6_14 + 1))
      fun k_31 =>
      if (b2i y_27) = 0 then
        k_31 x5_13 false
      else
        k_31 x5_13 true)
    fun k_28 =>
    if r_25 = 0 then
      k_28 true
    else
      k_28 false
def fX10_rest (a1 : Int32) (a2 : Int32) (a3 : Int32) (s0 : Sg) : Option (Int32 × Sg) :=
  bnd (fX10_isIn a1 0 9999 s0) fun r_1 s_2 =>
  if (b2i r_1) = 0 then
    some ((-1), s_2)
  else
    bnd (fX10_isIn a2 1 99 s_2) fun r_3 s_4 =>
    if (b2i r_3) = 0 then
      some ((-1), s_4)
    else
      bnd (fX10_isIn a3 0 1 s_4) fun r_5 s_6 =>
      if (b2i r_5) = 0 then
        some ((-1), s_6)
      else
        bv ((a1 * 7) + 17) fun v_7 =>
        bv (fun (x5_8 : Int32) (x7_9 : Int32) (s_10 : Sg) => 
          if a3 = 0 then
            some (x5_8, s_10)
          else
            some (x7_9, s_10))
        fun k_11 =>
        lo6 (fX10_rest_53_b a2 k_11) FU v_7 0 0 0 0 s_6
theorem wX10_rest_53 {p : Program} {l : Launch} {e : Env} {s : State} {m : MethodId} {args : Array Value} {below : List Frame} {meth : Method} {c : Code} {D : va_G} {ct : Nat → ClassId} {A : Nat → Nat} (C : Cx p m c cX10_rest 12 s args yX10_rest.cls meth (some .int) D ct A) (a2 : Int32) (a3 : Int32) (k_11 : Int32 → Int32 → Sg → Option (Int32 × Sg)) (hk_11 : ∀ (x5_8 : Int32) (x7_9 : Int32) (s_10 : Sg), Wm p l e (rmD 6) s m args below meth c D ct A 12 embI 209 [(3, .int a3), (5, .int x5_8), (7, .int x7_9)] [] s_10 (k_11 x5_8 x7_9 s_10)) : ∀ (n : Nat) (x4_12 : Int32) (x5_13 : Int32) (x6_14 : Int32) (x7_15 : Int32) (x8_16 : Int32) (s_17 : Sg), Wm p l e (rmD 6) s m args below meth c D ct A 12 embI 53 [(0, .ref (A 27)), (2, .int a2), (3, .int a3), (4, .int x4_12), (5, .int x5_13), (6, .int x6_14), (7, .int x7_15), (8, .int x8_16)] [] s_17 (lo6 (fX10_rest_53_b a2 k_11) n x4_12 x5_13 x6_14 x7_15 x8_16 s_17) := by
  intro n
  induction n with
  | zero => intro x4_12 x5_13 x6_14 x7_15 x8_16 s_17; exact m_none
  | succ n hrec53 =>
    intro x4_12 x5_13 x6_14 x7_15 x8_16 s_17
    refine (show Wm p l e (rmD 6) s m args below meth c D ct A 12 embI 53 [(0, .ref (A 27)), (2, .int a2), (3, .int a3), (4, .int x4_12), (5, .int x5_13), (6, .int x6_14), (7, .int x7_15), (8, .int x8_16)] [] s_17 (fX10_rest_53_b a2 k_11 (lo6 (fX10_rest_53_b a2 k_11) n) x4_12 x5_13 x6_14 x7_15 x8_16 s_17) from ?_)
    generalize lo6 (fX10_rest_53_b a2 k_11) n = rec53 at hrec53 ⊢
    unfold fX10_rest_53_b
    refine m_iload C dX10_rest_53 rfl ?_
    refine m_iload_n C dX10_rest_55 rfl ?_
    refine m_icmp_ge (tgt := 209) C dX10_rest_56 rfl ?_ ?_
    · refine m_loc (L2 := [(3, .int a3), (5, .int x5_13), (7, .int x7_15)]) [2, 4, 6] rfl ?_
      exact hk_11 x5_13 x7_15 s_17
    · refine m_iload C dX10_rest_59 rfl ?_
      refine m_bipush C dX10_rest_61 cb_19 ?_
      refine m_irem C dX10_rest_63 (by decide +kernel) ?_
      refine m_bipush C dX10_rest_64 cb_9 ?_
      refine m_isub C dX10_rest_66 ?_
      refine m_let (fun v_18 => ?_)
      refine m_istore (L2 := [(9, .int v_18), (0, .ref (A 27)), (2, .int a2), (3, .int a3), (4, .int x4_12), (5, .int x5_13), (6, .int x6_14), (7, .int x7_15), (8, .int x8_16)]) C dX10_rest_67 (by decide) rfl ?_
      refine m_iload C dX10_rest_69 rfl ?_
      refine m_sipush C dX10_rest_71 cs_167 ?_
      refine m_imul C dX10_rest_74 ?_
      refine m_bipush C dX10_rest_75 cb_43 ?_
      refine m_iadd C dX10_rest_77 ?_
      refine m_sipush C dX10_rest_78 cs_30089 ?_
      refine m_irem C dX10_rest_81 (by decide +kernel) ?_
      refine m_let (fun v_19 => ?_)
      refine m_istore (L2 := [(4, .int v_19), (9, .int v_18), (0, .ref (A 27)), (2, .int a2), (3, .int a3), (5, .int x5_13), (6, .int x6_14), (7, .int x7_15), (8, .int x8_16)]) C dX10_rest_82 (by decide) rfl ?_
      refine m_aload_n C dX10_rest_84 rfl ?_
      refine m_aload_n C dX10_rest_85 rfl ?_
      refine m_get (v := .ref (A 28)) C fl_X10_7_9 rfl (by decide) rfl dX10_rest_86 ?_
      refine m_iconst C dX10_rest_89 ci_4 ?_
      refine m_iald C rfl (by decide +kernel) dX10_rest_90 ?_
      refine m_iload C dX10_rest_91 rfl ?_
      refine m_iadd C dX10_rest_93 ?_
      refine m_bipush C dX10_rest_94 cb_24 ?_
      refine m_irem C dX10_rest_96 (by decide +kernel) ?_
      refine m_aload_n C dX10_rest_97 rfl ?_
      refine m_get (v := .ref (A 28)) C fl_X10_7_9 rfl (by decide) rfl dX10_rest_98 ?_
      refine m_iconst C dX10_rest_101 ci_5 ?_
      refine m_iald C rfl (by decide +kernel) dX10_rest_102 ?_
      refine m_iload C dX10_rest_103 rfl ?_
      refine m_callVV C ml_X10_264 ⟨Nat.le_of_ble_eq_true rfl, Nat.le_of_ble_eq_true rfl⟩ rfl rfl [.int (((gi s_17 28 (ix 4)) + x8_16) - ((gi s_17 28 (ix 4)) + x8_16) / 24 * 24), .int (gi s_17 28 (ix 5)), .int v_18] [] rfl rfl (Nat.le_of_ble_eq_true rfl) dX10_rest_105 (fun o ho => kX10_name l D ct A (((gi s_17 28 (ix 4)) + x8_16) - ((gi s_17 28 (ix 4)) + x8_16) / 24 * 24) (gi s_17 28 (ix 5)) v_18 s_17 o ho) (fun s_20 => ?_)
      refine m_aload_n C dX10_rest_108 rfl ?_
      refine m_iconst C dX10_rest_109 ci_0 ?_
      refine m_callVI C ml_X10_283 ⟨Nat.le_of_ble_eq_true rfl, Nat.le_of_ble_eq_true rfl⟩ rfl rfl [.int 0] [] rfl rfl (Nat.le_of_ble_eq_true rfl) dX10_rest_110 (fun o ho => kX10_load l D ct A 0 s_20 o ho) (fun r_21 s_22 => ?_)
      refine m_istore (L2 := [(10, .int r_21), (4, .int v_19), (9, .int v_18), (0, .ref (A 27)), (2, .int a2), (3, .int a3), (5, .int x5_13), (6, .int x6_14), (7, .int x7_15), (8, .int x8_16)]) C dX10_rest_113 (by decide) rfl ?_
      refine m_aload_n C dX10_rest_115 rfl ?_
      refine m_get (v := .ref (A 28)) C fl_X10_7_9 rfl (by decide) rfl dX10_rest_116 ?_
      refine m_iconst C dX10_rest_119 ci_1 ?_
      refine m_iald C rfl (by decide +kernel) dX10_rest_120 ?_
      refine m_iload C dX10_rest_121 rfl ?_
      refine m_imul C dX10_rest_123 ?_
      refine m_aload_n C dX10_rest_124 rfl ?_
      refine m_get (v := .ref (A 28)) C fl_X10_7_9 rfl (by decide) rfl dX10_rest_125 ?_
      refine m_iconst C dX10_rest_128 ci_2 ?_
      refine m_iald C rfl (by decide +kernel) dX10_rest_129 ?_
      refine m_aload_n C dX10_rest_130 rfl ?_
      refine m_iconst C dX10_rest_131 ci_1 ?_
      refine m_callVI C ml_X10_283 ⟨Nat.le_of_ble_eq_true rfl, Nat.le_of_ble_eq_true rfl⟩ rfl rfl [.int 1] [.int (gi s_22 28 (ix 2)), .int ((gi s_22 28 (ix 1)) * r_21)] rfl rfl (Nat.le_of_ble_eq_true rfl) dX10_rest_132 (fun o ho => kX10_load l D ct A 1 s_22 o ho) (fun r_23 s_24 => ?_)
      refine m_imul C dX10_rest_135 ?_
      refine m_isub C dX10_rest_136 ?_
      refine m_bipush C dX10_rest_137 cb_10 ?_
      refine m_iload C dX10_rest_139 rfl ?_
      refine m_imul C dX10_rest_141 ?_
      refine m_iadd C dX10_rest_142 ?_
      refine m_aload_n C dX10_rest_143 rfl ?_
      refine m_get (v := .ref (A 28)) C fl_X10_7_9 rfl (by decide) rfl dX10_rest_144 ?_
      refine m_iconst C dX10_rest_147 ci_3 ?_
      refine m_iald C rfl (by decide +kernel) dX10_rest_148 ?_
      refine m_callSI C ml_X10_293 ⟨Nat.le_of_ble_eq_true rfl, Nat.le_of_ble_eq_true rfl⟩ [.int ((((gi s_22 28 (ix 1)) * r_21) - ((gi s_22 28 (ix 2)) * r_23)) + (10 * v_18)), .int (gi s_24 28 (ix 3))] [] rfl rfl (Nat.le_of_ble_eq_true rfl) dX10_rest_149 (fun o ho => kX10_beamBy l D ct A ((((gi s_22 28 (ix 1)) * r_21) - ((gi s_22 28 (ix 2)) * r_23)) + (10 * v_18)) (gi s_24 28 (ix 3)) s_24 o ho) (fun r_25 s_26 => ?_)
      refine m_jn (P := fun (k_28 : Bool → Option (Int32 × Sg)) => ∀ (y_27 : Bool), Wm p l e (rmD 6) s m args below meth c D ct A 12 embI 160 [(0, .ref (A 27)), (2, .int a2), (3, .int a3), (4, .int v_19), (5, .int x5_13), (6, .int x6_14), (7, .int x7_15), (8, .int x8_16)] [.int (b2i y_27)] s_26 (k_28 y_27)) ?_ (fun k_28 hk_28 => ?_)
      · intro y_27
        refine m_istore (L2 := [(11, .int (b2i y_27)), (0, .ref (A 27)), (2, .int a2), (3, .int a3), (4, .int v_19), (5, .int x5_13), (6, .int x6_14), (7, .int x7_15), (8, .int x8_16)]) C dX10_rest_160 (by decide) rfl ?_
        refine m_iload C dX10_rest_162 rfl ?_
        refine m_iload C dX10_rest_164 rfl ?_
        refine m_jn (P := fun (k_31 : Int32 → Bool → Option (Int32 × Sg)) => ∀ (y_29 : Int32) (y_30 : Bool), Wm p l e (rmD 6) s m args below meth c D ct A 12 embI 174 [(0, .ref (A 27)), (2, .int a2), (3, .int a3), (4, .int v_19), (6, .int x6_14), (7, .int x7_15), (8, .int x8_16), (11, .int (b2i y_27))] [.int (b2i y_30), .int y_29] s_26 (k_31 y_29 y_30)) ?_ (fun k_31 hk_31 => ?_)
        · intro y_29 y_30
          refine m_iadd C dX10_rest_174 ?_
          refine m_let (fun v_32 => ?_)
          refine m_istore (L2 := [(5, .int v_32), (0, .ref (A 27)), (2, .int a2), (3, .int a3), (4, .int v_19), (6, .int x6_14), (7, .int x7_15), (8, .int x8_16), (11, .int (b2i y_27))]) C dX10_rest_175 (by decide) rfl ?_
          refine m_iload C dX10_rest_177 rfl ?_
          refine m_jn (P := fun (k_34 : Int32 → Option (Int32 × Sg)) => ∀ (y_33 : Int32), Wm p l e (rmD 6) s m args below meth c D ct A 12 embI 190 [(0, .ref (A 27)), (2, .int a2), (3, .int a3), (4, .int v_19), (5, .int v_32), (7, .int x7_15), (8, .int x8_16)] [.int y_33] s_26 (k_34 y_33)) ?_ (fun k_34 hk_34 => ?_)
          · intro y_33
            refine m_istore (L2 := [(6, .int y_33), (0, .ref (A 27)), (2, .int a2), (3, .int a3), (4, .int v_19), (5, .int v_32), (7, .int x7_15), (8, .int x8_16)]) C dX10_rest_190 (by decide) rfl ?_
            refine m_iload C dX10_rest_192 rfl ?_
            refine m_iload C dX10_rest_194 rfl ?_
            refine m_jn (P := fun (k_36 : Int32 → Option (Int32 × Sg)) => ∀ (x7_35 : Int32), Wm p l e (rmD 6) s m args below meth c D ct A 12 embI 203 [(0, .ref (A 27)), (2, .int a2), (3, .int a3), (4, .int v_19), (5, .int v_32), (6, .int y_33), (7, .int x7_35), (8, .int x8_16)] [] s_26 (k_36 x7_35)) ?_ (fun k_36 hk_36 => ?_)
            · intro x7_35
              refine m_iincb (L2 := fun v_37 => [(8, .int v_37), (0, .ref (A 27)), (2, .int a2), (3, .int a3), (4, .int v_19), (5, .int v_32), (6, .int y_33), (7, .int x7_35)]) (q := 7) C dX10_rest_203 rfl ci_1 (by decide) (fun _ => rfl) (fun v_37 => ?_)
              refine m_goto (tgt := 53) C dX10_rest_206 rfl ?_
              refine m_loc (L2 := [(0, .ref (A 27)), (2, .int a2), (3, .int a3), (4, .int v_19), (5, .int v_32), (6, .int y_33), (7, .int x7_35), (8, .int v_37)]) [1, 2, 3, 4, 5, 6, 7, 0] rfl ?_
              exact hrec53 v_19 v_32 y_33 x7_35 v_37 s_26
            refine m_icmp_le (tgt := 203) C dX10_rest_196 rfl ?_ ?_
            · refine m_loc (L2 := [(0, .ref (A 27)), (2, .int a2), (3, .int a3), (4, .int v_19), (5, .int v_32), (6, .int y_33), (7, .int x7_15), (8, .int x8_16)]) [1, 2, 3, 4, 5, 0, 6, 7] rfl ?_
              exact hk_36 x7_15
            · refine m_iload C dX10_rest_199 rfl ?_
              refine m_istore (L2 := [(7, .int y_33), (6, .int y_33), (0, .ref (A 27)), (2, .int a2), (3, .int a3), (4, .int v_19), (5, .int v_32), (8, .int x8_16)]) C dX10_rest_201 (by decide) rfl ?_
              refine m_loc (L2 := [(0, .ref (A 27)), (2, .int a2), (3, .int a3), (4, .int v_19), (5, .int v_32), (6, .int y_33), (7, .int y_33), (8, .int x8_16)]) [2, 3, 4, 5, 6, 1, 0, 7] rfl ?_
              exact hk_36 y_33
          refine m_if_eq (tgt := 189) C dX10_rest_179 rfl ?_ ?_
          · refine m_iconst C dX10_rest_189 ci_0 ?_
            refine m_loc (L2 := [(0, .ref (A 27)), (2, .int a2), (3, .int a3), (4, .int v_19), (5, .int v_32), (7, .int x7_15), (8, .int x8_16)]) [1, 2, 3, 4, 0, 6, 7] rfl ?_
            exact hk_34 0
          · refine m_iload C dX10_rest_182 rfl ?_
            refine m_iconst C dX10_rest_184 ci_1 ?_
            refine m_iadd C dX10_rest_185 ?_
            refine m_goto (tgt := 190) C dX10_rest_186 rfl ?_
            refine m_loc (L2 := [(0, .ref (A 27)), (2, .int a2), (3, .int a3), (4, .int v_19), (5, .int v_32), (7, .int x7_15), (8, .int x8_16)]) [1, 2, 3, 4, 0, 6, 7] rfl ?_
            exact hk_34 (x6_14 + 1)
        refine m_if_eq (tgt := 173) C dX10_rest_166 rfl ?_ ?_
        · refine m_iconst C dX10_rest_173 ci_0 ?_
          refine m_loc (L2 := [(0, .ref (A 27)), (2, .int a2), (3, .int a3), (4, .int v_19), (6, .int x6_14), (7, .int x7_15), (8, .int x8_16), (11, .int (b2i y_27))]) [1, 2, 3, 4, 6, 7, 8, 0] rfl ?_
          exact hk_31 x5_13 false
        · refine m_iconst C dX10_rest_169 ci_1 ?_
          refine m_goto (tgt := 174) C dX10_rest_170 rfl ?_
          refine m_loc (L2 := [(0, .ref (A 27)), (2, .int a2), (3, .int a3), (4, .int v_19), (6, .int x6_14), (7, .int x7_15), (8, .int x8_16), (11, .int (b2i y_27))]) [1, 2, 3, 4, 6, 7, 8, 0] rfl ?_
          exact hk_31 x5_13 true
      refine m_if_ne (tgt := 159) C dX10_rest_152 rfl ?_ ?_
      · refine m_iconst C dX10_rest_159 ci_0 ?_
        refine m_loc (L2 := [(0, .ref (A 27)), (2, .int a2), (3, .int a3), (4, .int v_19), (5, .int x5_13), (6, .int x6_14), (7, .int x7_15), (8, .int x8_16)]) [3, 4, 5, 1, 6, 7, 8, 9] rfl ?_
        exact hk_28 false
      · refine m_iconst C dX10_rest_155 ci_1 ?_
        refine m_goto (tgt := 160) C dX10_rest_156 rfl ?_
        refine m_loc (L2 := [(0, .ref (A 27)), (2, .int a2), (3, .int a3), (4, .int v_19), (5, .int x5_13), (6, .int x6_14), (7, .int x7_15), (8, .int x8_16)]) [3, 4, 5, 1, 6, 7, 8, 9] rfl ?_
        exact hk_28 true
theorem kX10_rest (l : Launch) (D : va_G) (ct : Nat → ClassId) (A : Nat → Nat) (a1 : Int32) (a2 : Int32) (a3 : Int32) (s0 : Sg) (o : Int32 × Sg) (ho : fX10_rest a1 a2 a3 s0 = some o) : Con l yX10_rest cX10_rest 12 (some .int) 6 D ct A [.ref (A 27), .int a1, .int a2, .int a3] s0 (embI o) := by
  refine con_start (by decide +kernel) (Nat.le_of_ble_eq_true rfl) ho (fun p e s m args below meth c C => ?_)
  refine m_loc (L2 := [(0, .ref (A 27)), (1, .int a1), (2, .int a2), (3, .int a3)]) [0, 1, 2, 3] rfl ?_
  unfold fX10_rest
  refine m_iload_n C dX10_rest_0 rfl ?_
  refine m_iconst C dX10_rest_1 ci_0 ?_
  refine m_sipush C dX10_rest_2 cs_9999 ?_
  refine m_callSZ C ml_X10_83 ⟨Nat.le_of_ble_eq_true rfl, Nat.le_of_ble_eq_true rfl⟩ [.int a1, .int 0, .int 9999] [] rfl rfl (Nat.le_of_ble_eq_true rfl) dX10_rest_5 (fun o ho => kX10_isIn l D ct A a1 0 9999 s0 o ho) (fun r_1 s_2 => ?_)
  refine m_if_eq (tgt := 30) C dX10_rest_8 rfl ?_ ?_
  · refine m_iconst C dX10_rest_30 ci_m1 ?_
    exact m_iret C dX10_rest_31
  · refine m_iload_n C dX10_rest_11 rfl ?_
    refine m_iconst C dX10_rest_12 ci_1 ?_
    refine m_bipush C dX10_rest_13 cb_99 ?_
    refine m_callSZ C ml_X10_83 ⟨Nat.le_of_ble_eq_true rfl, Nat.le_of_ble_eq_true rfl⟩ [.int a2, .int 1, .int 99] [] rfl rfl (Nat.le_of_ble_eq_true rfl) dX10_rest_15 (fun o ho => kX10_isIn l D ct A a2 1 99 s_2 o ho) (fun r_3 s_4 => ?_)
    refine m_if_eq (tgt := 30) C dX10_rest_18 rfl ?_ ?_
    · refine m_iconst C dX10_rest_30 ci_m1 ?_
      exact m_iret C dX10_rest_31
    · refine m_iload_n C dX10_rest_21 rfl ?_
      refine m_iconst C dX10_rest_22 ci_0 ?_
      refine m_iconst C dX10_rest_23 ci_1 ?_
      refine m_callSZ C ml_X10_83 ⟨Nat.le_of_ble_eq_true rfl, Nat.le_of_ble_eq_true rfl⟩ [.int a3, .int 0, .int 1] [] rfl rfl (Nat.le_of_ble_eq_true rfl) dX10_rest_24 (fun o ho => kX10_isIn l D ct A a3 0 1 s_4 o ho) (fun r_5 s_6 => ?_)
      refine m_if_ne (tgt := 32) C dX10_rest_27 rfl ?_ ?_
      · refine m_iload_n C dX10_rest_32 rfl ?_
        refine m_bipush C dX10_rest_33 cb_7 ?_
        refine m_imul C dX10_rest_35 ?_
        refine m_bipush C dX10_rest_36 cb_17 ?_
        refine m_iadd C dX10_rest_38 ?_
        refine m_let (fun v_7 => ?_)
        refine m_istore (L2 := [(4, .int v_7), (0, .ref (A 27)), (1, .int a1), (2, .int a2), (3, .int a3)]) C dX10_rest_39 (by decide) rfl ?_
        refine m_iconst C dX10_rest_41 ci_0 ?_
        refine m_istore (L2 := [(5, .int 0), (4, .int v_7), (0, .ref (A 27)), (1, .int a1), (2, .int a2), (3, .int a3)]) C dX10_rest_42 (by decide) rfl ?_
        refine m_iconst C dX10_rest_44 ci_0 ?_
        refine m_istore (L2 := [(6, .int 0), (5, .int 0), (4, .int v_7), (0, .ref (A 27)), (1, .int a1), (2, .int a2), (3, .int a3)]) C dX10_rest_45 (by decide) rfl ?_
        refine m_iconst C dX10_rest_47 ci_0 ?_
        refine m_istore (L2 := [(7, .int 0), (6, .int 0), (5, .int 0), (4, .int v_7), (0, .ref (A 27)), (1, .int a1), (2, .int a2), (3, .int a3)]) C dX10_rest_48 (by decide) rfl ?_
        refine m_iconst C dX10_rest_50 ci_0 ?_
        refine m_istore (L2 := [(8, .int 0), (7, .int 0), (6, .int 0), (5, .int 0), (4, .int v_7), (0, .ref (A 27)), (1, .int a1), (2, .int a2), (3, .int a3)]) C dX10_rest_51 (by decide) rfl ?_
        refine m_jn (P := fun (k_11 : Int32 → Int32 → Sg → Option (Int32 × Sg)) => ∀ (x5_8 : Int32) (x7_9 : Int32) (s_10 : Sg), Wm p l e (rmD 6) s m args below meth c D ct A 12 embI 209 [(3, .int a3), (5, .int x5_8), (7, .int x7_9)] [] s_10 (k_11 x5_8 x7_9 s_10)) ?_ (fun k_11 hk_11 => ?_)
        · intro x5_8 x7_9 s_10
          refine m_iload_n C dX10_rest_209 rfl ?_
          refine m_if_ne (tgt := 218) C dX10_rest_210 rfl ?_ ?_
          · refine m_iload C dX10_rest_218 rfl ?_
            exact m_iret C dX10_rest_220
          · refine m_iload C dX10_rest_213 rfl ?_
            refine m_goto (tgt := 220) C dX10_rest_215 rfl ?_
            exact m_iret C dX10_rest_220
        refine m_loc (L2 := [(0, .ref (A 27)), (2, .int a2), (3, .int a3), (4, .int v_7), (5, .int 0), (6, .int 0), (7, .int 0), (8, .int 0)]) [5, 7, 8, 4, 3, 2, 1, 0] rfl ?_
        exact wX10_rest_53 C a2 a3 k_11 hk_11 FU v_7 0 0 0 0 s_6
      · refine m_iconst C dX10_rest_30 ci_m1 ?_
        exact m_iret C dX10_rest_31
def fX10_image (s0 : Sg) : Option (Int32 × Sg) :=
  bnv (fX10_copy_i s0) fun s_1 =>
  some (gi s_1 28 (ix 0), s_1)
theorem kX10_image (l : Launch) (D : va_G) (ct : Nat → ClassId) (A : Nat → Nat) (s0 : Sg) (o : Int32 × Sg) (ho : fX10_image s0 = some o) : Con l yX10_image cX10_image 1 (some .int) 1 D ct A [.ref (A 27)] s0 (embI o) := by
  refine con_start (by decide +kernel) (Nat.le_of_ble_eq_true rfl) ho (fun p e s m args below meth c C => ?_)
  refine m_loc (L2 := [(0, .ref (A 27))]) [0] rfl ?_
  unfold fX10_image
  refine m_aload_n C dX10_image_0 rfl ?_
  refine m_get (v := .ref (A 28)) C fl_X10_7_9 rfl (by decide) rfl dX10_image_1 ?_
  refine m_aload_n C dX10_image_4 rfl ?_
  refine m_get (v := .ref (A 29)) C fl_X10_13_9 rfl (by decide) rfl dX10_image_5 ?_
  refine m_callSV C ml_X10_79 ⟨Nat.le_of_ble_eq_true rfl, Nat.le_of_ble_eq_true rfl⟩ [.ref (A 28), .ref (A 29)] [] rfl rfl (Nat.le_of_ble_eq_true rfl) dX10_image_8 (fun o ho => kX10_copy_i l D ct A s0 o ho) (fun s_1 => ?_)
  refine m_aload_n C dX10_image_11 rfl ?_
  refine m_get (v := .ref (A 28)) C fl_X10_7_9 rfl (by decide) rfl dX10_image_12 ?_
  refine m_iconst C dX10_image_15 ci_0 ?_
  refine m_iald C rfl (by decide +kernel) dX10_image_16 ?_
  exact m_iret C dX10_image_17
def fX10_back (s0 : Sg) : Option (Int32 × Sg) :=
  bnv (fX10_copy_b s0) fun s_1 =>
  some (gi s_1 28 (ix 0), s_1)
theorem kX10_back (l : Launch) (D : va_G) (ct : Nat → ClassId) (A : Nat → Nat) (s0 : Sg) (o : Int32 × Sg) (ho : fX10_back s0 = some o) : Con l yX10_back cX10_back 1 (some .int) 1 D ct A [.ref (A 27)] s0 (embI o) := by
  refine con_start (by decide +kernel) (Nat.le_of_ble_eq_true rfl) ho (fun p e s m args below meth c C => ?_)
  refine m_loc (L2 := [(0, .ref (A 27))]) [0] rfl ?_
  unfold fX10_back
  refine m_aload_n C dX10_back_0 rfl ?_
  refine m_get (v := .ref (A 29)) C fl_X10_13_9 rfl (by decide) rfl dX10_back_1 ?_
  refine m_aload_n C dX10_back_4 rfl ?_
  refine m_get (v := .ref (A 28)) C fl_X10_7_9 rfl (by decide) rfl dX10_back_5 ?_
  refine m_callSV C ml_X10_79 ⟨Nat.le_of_ble_eq_true rfl, Nat.le_of_ble_eq_true rfl⟩ [.ref (A 29), .ref (A 28)] [] rfl rfl (Nat.le_of_ble_eq_true rfl) dX10_back_8 (fun o ho => kX10_copy_b l D ct A s0 o ho) (fun s_1 => ?_)
  refine m_aload_n C dX10_back_11 rfl ?_
  refine m_get (v := .ref (A 28)) C fl_X10_7_9 rfl (by decide) rfl dX10_back_12 ?_
  refine m_iconst C dX10_back_15 ci_0 ?_
  refine m_iald C rfl (by decide +kernel) dX10_back_16 ?_
  exact m_iret C dX10_back_17
def fX10_lying_4_b (a1 : Int32) (rec4 : Int32 → Int32 → Sg → Option (Int32 × Sg)) (x2_1 : Int32) (x3_2 : Int32) (s_3 : Sg) : Option (Int32 × Sg) :=
  if (gi s_3 28 (ix 0)) ≤ x3_2 then
    some (x2_1, s_3)
  else
    bnd (fX10_panOf x3_2 s_3) fun r_4 s_5 =>
    bv (fun (y_6 : Int32) (y_7 : Int32) => 
      bv (y_6 ||| y_7) fun v_9 =>
      bv (x3_2 + 1) fun v_10 =>
      rec4 v_9 v_10 s_5)
    fun k_8 =>
    if r_4 = a1 then
      k_8 x2_1 (1 <<< (x3_2 &&& 31))
    else
      k_8 x2_1 0
def fX10_lying (a1 : Int32) (s0 : Sg) : Option (Int32 × Sg) :=
  lo3 (fX10_lying_4_b a1) FU 0 0 s0
theorem wX10_lying_4 {p : Program} {l : Launch} {e : Env} {s : State} {m : MethodId} {args : Array Value} {below : List Frame} {meth : Method} {c : Code} {D : va_G} {ct : Nat → ClassId} {A : Nat → Nat} (C : Cx p m c cX10_lying 4 s args yX10_lying.cls meth (some .int) D ct A) (a1 : Int32) : ∀ (n : Nat) (x2_1 : Int32) (x3_2 : Int32) (s_3 : Sg), Wm p l e (rmD 2) s m args below meth c D ct A 4 embI 4 [(0, .ref (A 27)), (1, .int a1), (2, .int x2_1), (3, .int x3_2)] [] s_3 (lo3 (fX10_lying_4_b a1) n x2_1 x3_2 s_3) := by
  intro n
  induction n with
  | zero => intro x2_1 x3_2 s_3; exact m_none
  | succ n hrec4 =>
    intro x2_1 x3_2 s_3
    refine (show Wm p l e (rmD 2) s m args below meth c D ct A 4 embI 4 [(0, .ref (A 27)), (1, .int a1), (2, .int x2_1), (3, .int x3_2)] [] s_3 (fX10_lying_4_b a1 (lo3 (fX10_lying_4_b a1) n) x2_1 x3_2 s_3) from ?_)
    generalize lo3 (fX10_lying_4_b a1) n = rec4 at hrec4 ⊢
    unfold fX10_lying_4_b
    refine m_iload_n C dX10_lying_4 rfl ?_
    refine m_aload_n C dX10_lying_5 rfl ?_
    refine m_get (v := .ref (A 28)) C fl_X10_7_9 rfl (by decide) rfl dX10_lying_6 ?_
    refine m_iconst C dX10_lying_9 ci_0 ?_
    refine m_iald C rfl (by decide +kernel) dX10_lying_10 ?_
    refine m_icmp_ge (tgt := 39) C dX10_lying_11 rfl ?_ ?_
    · refine m_iload_n C dX10_lying_39 rfl ?_
      exact m_iret C dX10_lying_40
    · refine m_iload_n C dX10_lying_14 rfl ?_
      refine m_aload_n C dX10_lying_15 rfl ?_
      refine m_iload_n C dX10_lying_16 rfl ?_
      refine m_callVI C ml_X10_268 ⟨Nat.le_of_ble_eq_true rfl, Nat.le_of_ble_eq_true rfl⟩ rfl rfl [.int x3_2] [.int x2_1] rfl rfl (Nat.le_of_ble_eq_true rfl) dX10_lying_17 (fun o ho => kX10_panOf l D ct A x3_2 s_3 o ho) (fun r_4 s_5 => ?_)
      refine m_iload_n C dX10_lying_20 rfl ?_
      refine m_jn (P := fun (k_8 : Int32 → Int32 → Option (Int32 × Sg)) => ∀ (y_6 : Int32) (y_7 : Int32), Wm p l e (rmD 2) s m args below meth c D ct A 4 embI 31 [(0, .ref (A 27)), (1, .int a1), (3, .int x3_2)] [.int y_7, .int y_6] s_5 (k_8 y_6 y_7)) ?_ (fun k_8 hk_8 => ?_)
      · intro y_6 y_7
        refine m_ior C dX10_lying_31 ?_
        refine m_let (fun v_9 => ?_)
        refine m_istore_n (L2 := [(2, .int v_9), (0, .ref (A 27)), (1, .int a1), (3, .int x3_2)]) C dX10_lying_32 rfl (by decide) rfl ?_
        refine m_iincb (L2 := fun v_10 => [(3, .int v_10), (2, .int v_9), (0, .ref (A 27)), (1, .int a1)]) (q := 3) C dX10_lying_33 rfl ci_1 (by decide) (fun _ => rfl) (fun v_10 => ?_)
        refine m_goto (tgt := 4) C dX10_lying_36 rfl ?_
        refine m_loc (L2 := [(0, .ref (A 27)), (1, .int a1), (2, .int v_9), (3, .int v_10)]) [2, 3, 1, 0] rfl ?_
        exact hrec4 v_9 v_10 s_5
      refine m_icmp_ne (tgt := 30) C dX10_lying_21 rfl ?_ ?_
      · refine m_iconst C dX10_lying_30 ci_0 ?_
        refine m_loc (L2 := [(0, .ref (A 27)), (1, .int a1), (3, .int x3_2)]) [0, 1, 3] rfl ?_
        exact hk_8 x2_1 0
      · refine m_iconst C dX10_lying_24 ci_1 ?_
        refine m_iload_n C dX10_lying_25 rfl ?_
        refine m_ishl C dX10_lying_26 ?_
        refine m_goto (tgt := 31) C dX10_lying_27 rfl ?_
        refine m_loc (L2 := [(0, .ref (A 27)), (1, .int a1), (3, .int x3_2)]) [0, 1, 3] rfl ?_
        exact hk_8 x2_1 (1 <<< (x3_2 &&& 31))
theorem kX10_lying (l : Launch) (D : va_G) (ct : Nat → ClassId) (A : Nat → Nat) (a1 : Int32) (s0 : Sg) (o : Int32 × Sg) (ho : fX10_lying a1 s0 = some o) : Con l yX10_lying cX10_lying 4 (some .int) 2 D ct A [.ref (A 27), .int a1] s0 (embI o) := by
  refine con_start (by decide +kernel) (Nat.le_of_ble_eq_true rfl) ho (fun p e s m args below meth c C => ?_)
  refine m_loc (L2 := [(0, .ref (A 27)), (1, .int a1)]) [0, 1] rfl ?_
  unfold fX10_lying
  refine m_iconst C dX10_lying_0 ci_0 ?_
  refine m_istore_n (L2 := [(2, .int 0), (0, .ref (A 27)), (1, .int a1)]) C dX10_lying_1 rfl (by decide) rfl ?_
  refine m_iconst C dX10_lying_2 ci_0 ?_
  refine m_istore_n (L2 := [(3, .int 0), (2, .int 0), (0, .ref (A 27)), (1, .int a1)]) C dX10_lying_3 rfl (by decide) rfl ?_
  refine m_loc (L2 := [(0, .ref (A 27)), (1, .int a1), (2, .int 0), (3, .int 0)]) [2, 3, 1, 0] rfl ?_
  exact wX10_lying_4 C a1 FU 0 0 s0
def fX10_about (a1 : Int32) (s0 : Sg) : Option (Int32 × Sg) :=
  bnd (fX10_isIn a1 0 10 s0) fun r_1 s_2 =>
  if (b2i r_1) = 0 then
    if a1 = 11 then
      some (gi s_2 27 4, s_2)
    else
      bv (
        bnd (fX10_lying (a1 - 12) s_2) fun r_4 s_5 =>
        some (r_4, s_5))
      fun k_3 =>
      if a1 = 12 then
        k_3
      else
        if a1 = 13 then
          k_3
        else
          some ((-100), s_2)
  else
    chk (inb 720 a1) <|
    some (gi s_2 28 (ix a1), s_2)
theorem kX10_about (l : Launch) (D : va_G) (ct : Nat → ClassId) (A : Nat → Nat) (a1 : Int32) (s0 : Sg) (o : Int32 × Sg) (ho : fX10_about a1 s0 = some o) : Con l yX10_about cX10_about 2 (some .int) 3 D ct A [.ref (A 27), .int a1] s0 (embI o) := by
  refine con_start (by decide +kernel) (Nat.le_of_ble_eq_true rfl) ho (fun p e s m args below meth c C => ?_)
  refine m_loc (L2 := [(0, .ref (A 27)), (1, .int a1)]) [0, 1] rfl ?_
  unfold fX10_about
  refine m_iload_n C dX10_about_0 rfl ?_
  refine m_iconst C dX10_about_1 ci_0 ?_
  refine m_bipush C dX10_about_2 cb_10 ?_
  refine m_callSZ C ml_X10_83 ⟨Nat.le_of_ble_eq_true rfl, Nat.le_of_ble_eq_true rfl⟩ [.int a1, .int 0, .int 10] [] rfl rfl (Nat.le_of_ble_eq_true rfl) dX10_about_4 (fun o ho => kX10_isIn l D ct A a1 0 10 s0 o ho) (fun r_1 s_2 => ?_)
  refine m_if_eq (tgt := 17) C dX10_about_7 rfl ?_ ?_
  · refine m_iload_n C dX10_about_17 rfl ?_
    refine m_bipush C dX10_about_18 cb_11 ?_
    refine m_icmp_ne (tgt := 30) C dX10_about_20 rfl ?_ ?_
    · refine m_iload_n C dX10_about_30 rfl ?_
      refine m_bipush C dX10_about_31 cb_12 ?_
      refine m_jn (P := fun (k_3 : Option (Int32 × Sg)) => Wm p l e (rmD 3) s m args below meth c D ct A 2 embI 42 [(0, .ref (A 27)), (1, .int a1)] [] s_2 (k_3)) ?_ (fun k_3 hk_3 => ?_)
      · refine m_aload_n C dX10_about_42 rfl ?_
        refine m_iload_n C dX10_about_43 rfl ?_
        refine m_bipush C dX10_about_44 cb_12 ?_
        refine m_isub C dX10_about_46 ?_
        refine m_callVI C ml_X10_364 ⟨Nat.le_of_ble_eq_true rfl, Nat.le_of_ble_eq_true rfl⟩ rfl rfl [.int (a1 - 12)] [] rfl rfl (Nat.le_of_ble_eq_true rfl) dX10_about_47 (fun o ho => kX10_lying l D ct A (a1 - 12) s_2 o ho) (fun r_4 s_5 => ?_)
        refine m_goto (tgt := 55) C dX10_about_50 rfl ?_
        exact m_iret C dX10_about_55
      refine m_icmp_eq (tgt := 42) C dX10_about_33 rfl ?_ ?_
      · refine m_loc (L2 := [(0, .ref (A 27)), (1, .int a1)]) [0, 1] rfl ?_
        exact hk_3
      · refine m_iload_n C dX10_about_36 rfl ?_
        refine m_bipush C dX10_about_37 cb_13 ?_
        refine m_icmp_ne (tgt := 53) C dX10_about_39 rfl ?_ ?_
        · refine m_bipush C dX10_about_53 cb_m100 ?_
          exact m_iret C dX10_about_55
        · refine m_loc (L2 := [(0, .ref (A 27)), (1, .int a1)]) [0, 1] rfl ?_
          exact hk_3
    · refine m_aload_n C dX10_about_23 rfl ?_
      refine m_get (v := .int (gi s_2 27 4)) C fl_X10_91_9 rfl (by decide) rfl dX10_about_24 ?_
      refine m_goto (tgt := 55) C dX10_about_27 rfl ?_
      exact m_iret C dX10_about_55
  · refine m_aload_n C dX10_about_10 rfl ?_
    refine m_get (v := .ref (A 28)) C fl_X10_7_9 rfl (by decide) rfl dX10_about_11 ?_
    refine m_iload_n C dX10_about_14 rfl ?_
    refine m_chk (fun h_6 => ?_)
    refine m_iald C rfl h_6 dX10_about_15 ?_
    exact m_iret C dX10_about_16
def fJ6_bitCount_0f7a4 (a1 : Int32) (s0 : Sg) : Option (Int32 × Sg) :=
  bv (a1 - (((Int32.toUInt32 a1 >>> (Int32.toUInt32 1 &&& Int32.toUInt32 31)).toInt32) &&& 1431655765)) fun v_1 =>
  bv ((v_1 &&& 858993459) + (((Int32.toUInt32 v_1 >>> (Int32.toUInt32 2 &&& Int32.toUInt32 31)).toInt32) &&& 858993459)) fun v_2 =>
  bv ((v_2 + ((Int32.toUInt32 v_2 >>> (Int32.toUInt32 4 &&& Int32.toUInt32 31)).toInt32)) &&& 252645135) fun v_3 =>
  bv (v_3 + ((Int32.toUInt32 v_3 >>> (Int32.toUInt32 8 &&& Int32.toUInt32 31)).toInt32)) fun v_4 =>
  bv (v_4 + ((Int32.toUInt32 v_4 >>> (Int32.toUInt32 16 &&& Int32.toUInt32 31)).toInt32)) fun v_5 =>
  some (v_5 &&& 63, s0)
theorem kJ6_bitCount_0f7a4 (l : Launch) (D : va_G) (ct : Nat → ClassId) (A : Nat → Nat) (a1 : Int32) (s0 : Sg) (o : Int32 × Sg) (ho : fJ6_bitCount_0f7a4 a1 s0 = some o) : Con l yJ6_bitCount_0f7a4 cJ6_bitCount_0f7a4 1 (some .int) 0 D ct A [.int a1] s0 (embI o) := by
  refine con_start (by decide +kernel) (Nat.le_of_ble_eq_true rfl) ho (fun p e s m args below meth c C => ?_)
  refine m_loc (L2 := [(0, .int a1)]) [0] rfl ?_
  unfold fJ6_bitCount_0f7a4
  refine m_iload_n C dJ6_bitCount_0f7a4_0 rfl ?_
  refine m_iload_n C dJ6_bitCount_0f7a4_1 rfl ?_
  refine m_iconst C dJ6_bitCount_0f7a4_2 ci_1 ?_
  refine m_iushr C dJ6_bitCount_0f7a4_3 ?_
  refine m_ldcw C wd_743 dJ6_bitCount_0f7a4_4 ?_
  refine m_iand C dJ6_bitCount_0f7a4_7 ?_
  refine m_isub C dJ6_bitCount_0f7a4_8 ?_
  refine m_let (fun v_1 => ?_)
  refine m_istore_n (L2 := [(0, .int v_1)]) C dJ6_bitCount_0f7a4_9 rfl (by decide) rfl ?_
  refine m_iload_n C dJ6_bitCount_0f7a4_10 rfl ?_
  refine m_ldcw C wd_744 dJ6_bitCount_0f7a4_11 ?_
  refine m_iand C dJ6_bitCount_0f7a4_14 ?_
  refine m_iload_n C dJ6_bitCount_0f7a4_15 rfl ?_
  refine m_iconst C dJ6_bitCount_0f7a4_16 ci_2 ?_
  refine m_iushr C dJ6_bitCount_0f7a4_17 ?_
  refine m_ldcw C wd_744 dJ6_bitCount_0f7a4_18 ?_
  refine m_iand C dJ6_bitCount_0f7a4_21 ?_
  refine m_iadd C dJ6_bitCount_0f7a4_22 ?_
  refine m_let (fun v_2 => ?_)
  refine m_istore_n (L2 := [(0, .int v_2)]) C dJ6_bitCount_0f7a4_23 rfl (by decide) rfl ?_
  refine m_iload_n C dJ6_bitCount_0f7a4_24 rfl ?_
  refine m_iload_n C dJ6_bitCount_0f7a4_25 rfl ?_
  refine m_iconst C dJ6_bitCount_0f7a4_26 ci_4 ?_
  refine m_iushr C dJ6_bitCount_0f7a4_27 ?_
  refine m_iadd C dJ6_bitCount_0f7a4_28 ?_
  refine m_ldcw C wd_745 dJ6_bitCount_0f7a4_29 ?_
  refine m_iand C dJ6_bitCount_0f7a4_32 ?_
  refine m_let (fun v_3 => ?_)
  refine m_istore_n (L2 := [(0, .int v_3)]) C dJ6_bitCount_0f7a4_33 rfl (by decide) rfl ?_
  refine m_iload_n C dJ6_bitCount_0f7a4_34 rfl ?_
  refine m_iload_n C dJ6_bitCount_0f7a4_35 rfl ?_
  refine m_bipush C dJ6_bitCount_0f7a4_36 cb_8 ?_
  refine m_iushr C dJ6_bitCount_0f7a4_38 ?_
  refine m_iadd C dJ6_bitCount_0f7a4_39 ?_
  refine m_let (fun v_4 => ?_)
  refine m_istore_n (L2 := [(0, .int v_4)]) C dJ6_bitCount_0f7a4_40 rfl (by decide) rfl ?_
  refine m_iload_n C dJ6_bitCount_0f7a4_41 rfl ?_
  refine m_iload_n C dJ6_bitCount_0f7a4_42 rfl ?_
  refine m_bipush C dJ6_bitCount_0f7a4_43 cb_16 ?_
  refine m_iushr C dJ6_bitCount_0f7a4_45 ?_
  refine m_iadd C dJ6_bitCount_0f7a4_46 ?_
  refine m_let (fun v_5 => ?_)
  refine m_istore_n (L2 := [(0, .int v_5)]) C dJ6_bitCount_0f7a4_47 rfl (by decide) rfl ?_
  refine m_iload_n C dJ6_bitCount_0f7a4_48 rfl ?_
  refine m_bipush C dJ6_bitCount_0f7a4_49 cb_63 ?_
  refine m_iand C dJ6_bitCount_0f7a4_51 ?_
  exact m_iret C dJ6_bitCount_0f7a4_52
def fJ0_coder_7d493 (q0 : Nat) (s0 : Sg) : Option (Int32 × Sg) :=
  if (1 : Int32) = 0 then
    some (1, s0)
  else
    some (0, s0)
theorem kJ0_coder_7d493 (l : Launch) (D : va_G) (ct : Nat → ClassId) (A : Nat → Nat) (q0 : Nat) (h_q0 : isStr q0 = true) (s0 : Sg) (o : Int32 × Sg) (ho : fJ0_coder_7d493 q0 s0 = some o) : Con l yJ0_coder_7d493 cJ0_coder_7d493 1 (some .byte) 0 D ct A [.ref (A q0)] s0 (embI o) := by
  refine con_start (by decide +kernel) (Nat.le_of_ble_eq_true rfl) ho (fun p e s m args below meth c C => ?_)
  refine m_loc (L2 := [(0, .ref (A q0))]) [0] rfl ?_
  unfold fJ0_coder_7d493
  refine m_getsC C wd_465 dJ0_coder_7d493_0 ?_
  refine m_if_eq (tgt := 13) C dJ0_coder_7d493_3 rfl ?_ ?_
  · refine m_iconst C dJ0_coder_7d493_13 ci_1 ?_
    exact m_bret C rfl dJ0_coder_7d493_14
  · refine m_aload_n C dJ0_coder_7d493_6 rfl ?_
    refine m_getSc C h_q0 wd_1376 dJ0_coder_7d493_7 ?_
    refine m_goto (tgt := 14) C dJ0_coder_7d493_10 rfl ?_
    exact m_bret C rfl dJ0_coder_7d493_14
def fJ0_isLatin1_aae02 (q0 : Nat) (s0 : Sg) : Option (Bool × Sg) :=
  if (1 : Int32) = 0 then
    some (false, s0)
  else
    if (0 : Int32) = 0 then
      some (true, s0)
    else
      some (false, s0)
theorem kJ0_isLatin1_aae02 (l : Launch) (D : va_G) (ct : Nat → ClassId) (A : Nat → Nat) (q0 : Nat) (h_q0 : isStr q0 = true) (s0 : Sg) (o : Bool × Sg) (ho : fJ0_isLatin1_aae02 q0 s0 = some o) : Con l yJ0_isLatin1_aae02 cJ0_isLatin1_aae02 1 (some .boolean) 0 D ct A [.ref (A q0)] s0 (embZ o) := by
  refine con_start (by decide +kernel) (Nat.le_of_ble_eq_true rfl) ho (fun p e s m args below meth c C => ?_)
  refine m_loc (L2 := [(0, .ref (A q0))]) [0] rfl ?_
  unfold fJ0_isLatin1_aae02
  refine m_getsC C wd_465 dJ0_isLatin1_aae02_0 ?_
  refine m_if_eq (tgt := 17) C dJ0_isLatin1_aae02_3 rfl ?_ ?_
  · refine m_iconst C dJ0_isLatin1_aae02_17 ci_0 ?_
    exact m_zret C false rfl dJ0_isLatin1_aae02_18
  · refine m_aload_n C dJ0_isLatin1_aae02_6 rfl ?_
    refine m_getSc C h_q0 wd_1376 dJ0_isLatin1_aae02_7 ?_
    refine m_if_ne (tgt := 17) C dJ0_isLatin1_aae02_10 rfl ?_ ?_
    · refine m_iconst C dJ0_isLatin1_aae02_17 ci_0 ?_
      exact m_zret C false rfl dJ0_isLatin1_aae02_18
    · refine m_iconst C dJ0_isLatin1_aae02_13 ci_1 ?_
      refine m_goto (tgt := 18) C dJ0_isLatin1_aae02_14 rfl ?_
      exact m_zret C true rfl dJ0_isLatin1_aae02_18
def fJ1_charAt_3b067 (a1 : Nat) (a2 : Int32) (s0 : Sg) : Option (Int32 × Sg) :=
  bnv (fJ0_checkIndex_df160 a2 (Int32.ofNat (sLv a1)) s0) fun s_1 =>
  chk (inb (sLv a1) a2) <|
  chk (decide (narrow .char (.int ((Int32.toUInt32 ((sBv a1 (ix a2)) &&& 255) % 65536).toInt32)) = .int ((Int32.toUInt32 ((sBv a1 (ix a2)) &&& 255) % 65536).toInt32))) <|
  some ((Int32.toUInt32 ((sBv a1 (ix a2)) &&& 255) % 65536).toInt32, s_1)
theorem kJ1_charAt_3b067 (l : Launch) (D : va_G) (ct : Nat → ClassId) (A : Nat → Nat) (a1 : Nat) (a2 : Int32) (h_a1 : isSb a1 = true) (s0 : Sg) (o : Int32 × Sg) (ho : fJ1_charAt_3b067 a1 a2 s0 = some o) : Con l yJ1_charAt_3b067 cJ1_charAt_3b067 2 (some .char) 2 D ct A [.ref (A a1), .int a2] s0 (embI o) := by
  refine con_start (by decide +kernel) (Nat.le_of_ble_eq_true rfl) ho (fun p e s m args below meth c C => ?_)
  refine m_loc (L2 := [(0, .ref (A a1)), (1, .int a2)]) [0, 1] rfl ?_
  unfold fJ1_charAt_3b067
  refine m_iload_n C dJ1_charAt_3b067_0 rfl ?_
  refine m_aload_n C dJ1_charAt_3b067_1 rfl ?_
  refine m_salen C h_a1 dJ1_charAt_3b067_2 ?_
  refine m_callSV C ml_J1_9 ⟨Nat.le_of_ble_eq_true rfl, Nat.le_of_ble_eq_true rfl⟩ [.int a2, .int (Int32.ofNat (sLv a1))] [] rfl rfl (Nat.le_of_ble_eq_true rfl) dJ1_charAt_3b067_3 (fun o ho => kJ0_checkIndex_df160 l D ct A a2 (Int32.ofNat (sLv a1)) s0 o ho) (fun s_1 => ?_)
  refine m_aload_n C dJ1_charAt_3b067_6 rfl ?_
  refine m_iload_n C dJ1_charAt_3b067_7 rfl ?_
  refine m_chk (fun h_2 => ?_)
  refine m_sbald C h_a1 h_2 dJ1_charAt_3b067_8 ?_
  refine m_sipush C dJ1_charAt_3b067_9 cs_255 ?_
  refine m_iand C dJ1_charAt_3b067_12 ?_
  refine m_i2c C dJ1_charAt_3b067_13 ?_
  refine m_chk (fun h_3 => ?_)
  exact m_cret C (of_decide_eq_true h_3) dJ1_charAt_3b067_14
def fX0_find_11_b (a2 : Int32) (k_4 : Int32 → Sg → Option (Bool × Sg)) (rec11 : Int32 → Int32 → Sg → Option (Bool × Sg)) (x3_5 : Int32) (x4_6 : Int32) (s_7 : Sg) : Option (Bool × Sg) :=
  if (1 <<< ((gi s_7 1 6) &&& 31)) ≤ x4_6 then
    k_4 x3_5 s_7
  else
    bnd (fJ6_bitCount_0f7a4 x4_6 s_7) fun r_8 s_9 =>
    bv (fun (y_10 : Int32) (s_11 : Sg) => 
      bv (fun (x3_13 : Int32) (s_14 : Sg) => 
        bv (x4_6 + 1) fun v_16 =>
        rec11 x3_13 v_16 s_14)
      fun k_15 =>
      if y_10 = (-1) then
        k_15 x3_5 s_11
      else
        bv (si s_11 8 1 x4_6) fun s_17 =>
        bv (si s_17 8 2 y_10) fun s_18 =>
        k_15 r_8 s_18)
    fun k_12 =>
    if x3_5 ≤ r_8 then
      k_12 (-1) s_9
    else
      bnd (fX0_partBeside x4_6 a2 s_9) fun r_19 s_20 =>
      k_12 r_19 s_20
def fX0_find (a2 : Int32) (s0 : Sg) : Option (Bool × Sg) :=
  bnv (fX0_addSums s0) fun s_1 =>
  bv (fun (x3_2 : Int32) (s_3 : Sg) => 
    if 12 < x3_2 then
      some (false, s_3)
    else
      some (true, s_3))
  fun k_4 =>
  lo3 (fX0_find_11_b a2 k_4) FU 13 1 s_1
theorem wX0_find_11 {p : Program} {l : Launch} {e : Env} {s : State} {m : MethodId} {args : Array Value} {below : List Frame} {meth : Method} {c : Code} {D : va_G} {ct : Nat → ClassId} {A : Nat → Nat} (C : Cx p m c cX0_find 7 s args yX0_find.cls meth (some .boolean) D ct A) (a2 : Int32) (k_4 : Int32 → Sg → Option (Bool × Sg)) (hk_4 : ∀ (x3_2 : Int32) (s_3 : Sg), Wm p l e (rmD 1) s m args below meth c D ct A 7 embZ 75 [(3, .int x3_2)] [] s_3 (k_4 x3_2 s_3)) : ∀ (n : Nat) (x3_5 : Int32) (x4_6 : Int32) (s_7 : Sg), Wm p l e (rmD 1) s m args below meth c D ct A 7 embZ 11 [(0, .ref (A 8)), (1, .ref (A 1)), (2, .int a2), (3, .int x3_5), (4, .int x4_6)] [] s_7 (lo3 (fX0_find_11_b a2 k_4) n x3_5 x4_6 s_7) := by
  intro n
  induction n with
  | zero => intro x3_5 x4_6 s_7; exact m_none
  | succ n hrec11 =>
    intro x3_5 x4_6 s_7
    refine (show Wm p l e (rmD 1) s m args below meth c D ct A 7 embZ 11 [(0, .ref (A 8)), (1, .ref (A 1)), (2, .int a2), (3, .int x3_5), (4, .int x4_6)] [] s_7 (fX0_find_11_b a2 k_4 (lo3 (fX0_find_11_b a2 k_4) n) x3_5 x4_6 s_7) from ?_)
    generalize lo3 (fX0_find_11_b a2 k_4) n = rec11 at hrec11 ⊢
    unfold fX0_find_11_b
    refine m_iload C dX0_find_11 rfl ?_
    refine m_iconst C dX0_find_13 ci_1 ?_
    refine m_aload_n C dX0_find_14 rfl ?_
    refine m_get (v := .int (gi s_7 1 6)) C fl_X0_19_6 rfl (by decide) rfl dX0_find_15 ?_
    refine m_ishl C dX0_find_18 ?_
    refine m_icmp_ge (tgt := 75) C dX0_find_19 rfl ?_ ?_
    · refine m_loc (L2 := [(3, .int x3_5)]) [3] rfl ?_
      exact hk_4 x3_5 s_7
    · refine m_iload C dX0_find_22 rfl ?_
      refine m_callSI C ml_X0_25 ⟨Nat.le_of_ble_eq_true rfl, Nat.le_of_ble_eq_true rfl⟩ [.int x4_6] [] rfl rfl (Nat.le_of_ble_eq_true rfl) dX0_find_24 (fun o ho => kJ6_bitCount_0f7a4 l D ct A x4_6 s_7 o ho) (fun r_8 s_9 => ?_)
      refine m_istore (L2 := [(5, .int r_8), (0, .ref (A 8)), (1, .ref (A 1)), (2, .int a2), (3, .int x3_5), (4, .int x4_6)]) C dX0_find_27 (by decide) rfl ?_
      refine m_iload C dX0_find_29 rfl ?_
      refine m_iload_n C dX0_find_31 rfl ?_
      refine m_jn (P := fun (k_12 : Int32 → Sg → Option (Bool × Sg)) => ∀ (y_10 : Int32) (s_11 : Sg), Wm p l e (rmD 1) s m args below meth c D ct A 7 embZ 46 [(0, .ref (A 8)), (1, .ref (A 1)), (2, .int a2), (3, .int x3_5), (4, .int x4_6), (5, .int r_8)] [.int y_10] s_11 (k_12 y_10 s_11)) ?_ (fun k_12 hk_12 => ?_)
      · intro y_10 s_11
        refine m_istore (L2 := [(6, .int y_10), (0, .ref (A 8)), (1, .ref (A 1)), (2, .int a2), (3, .int x3_5), (4, .int x4_6), (5, .int r_8)]) C dX0_find_46 (by decide) rfl ?_
        refine m_iload C dX0_find_48 rfl ?_
        refine m_iconst C dX0_find_50 ci_m1 ?_
        refine m_jn (P := fun (k_15 : Int32 → Sg → Option (Bool × Sg)) => ∀ (x3_13 : Int32) (s_14 : Sg), Wm p l e (rmD 1) s m args below meth c D ct A 7 embZ 69 [(0, .ref (A 8)), (1, .ref (A 1)), (2, .int a2), (3, .int x3_13), (4, .int x4_6)] [] s_14 (k_15 x3_13 s_14)) ?_ (fun k_15 hk_15 => ?_)
        · intro x3_13 s_14
          refine m_iincb (L2 := fun v_16 => [(4, .int v_16), (0, .ref (A 8)), (1, .ref (A 1)), (2, .int a2), (3, .int x3_13)]) (q := 4) C dX0_find_69 rfl ci_1 (by decide) (fun _ => rfl) (fun v_16 => ?_)
          refine m_goto (tgt := 11) C dX0_find_72 rfl ?_
          refine m_loc (L2 := [(0, .ref (A 8)), (1, .ref (A 1)), (2, .int a2), (3, .int x3_13), (4, .int v_16)]) [1, 2, 3, 4, 0] rfl ?_
          exact hrec11 x3_13 v_16 s_14
        refine m_icmp_eq (tgt := 69) C dX0_find_51 rfl ?_ ?_
        · refine m_loc (L2 := [(0, .ref (A 8)), (1, .ref (A 1)), (2, .int a2), (3, .int x3_5), (4, .int x4_6)]) [1, 2, 3, 4, 5] rfl ?_
          exact hk_15 x3_5 s_11
        · refine m_iload C dX0_find_54 rfl ?_
          refine m_istore_n (L2 := [(3, .int r_8), (6, .int y_10), (0, .ref (A 8)), (1, .ref (A 1)), (2, .int a2), (4, .int x4_6), (5, .int r_8)]) C dX0_find_56 rfl (by decide) rfl ?_
          refine m_aload_n C dX0_find_57 rfl ?_
          refine m_iload C dX0_find_58 rfl ?_
          refine m_puti C fl_X0_35_0 fw_0_1 rfl (by decide) rfl dX0_find_60 (fun s_17 => ?_)
          refine m_aload_n C dX0_find_63 rfl ?_
          refine m_iload C dX0_find_64 rfl ?_
          refine m_puti C fl_X0_38_0 fw_0_2 rfl (by decide) rfl dX0_find_66 (fun s_18 => ?_)
          refine m_loc (L2 := [(0, .ref (A 8)), (1, .ref (A 1)), (2, .int a2), (3, .int r_8), (4, .int x4_6)]) [2, 3, 4, 0, 5] rfl ?_
          exact hk_15 r_8 s_18
      refine m_icmp_ge (tgt := 45) C dX0_find_32 rfl ?_ ?_
      · refine m_iconst C dX0_find_45 ci_m1 ?_
        refine m_loc (L2 := [(0, .ref (A 8)), (1, .ref (A 1)), (2, .int a2), (3, .int x3_5), (4, .int x4_6), (5, .int r_8)]) [1, 2, 3, 4, 5, 0] rfl ?_
        exact hk_12 (-1) s_9
      · refine m_aload_n C dX0_find_35 rfl ?_
        refine m_iload C dX0_find_36 rfl ?_
        refine m_iload_n C dX0_find_38 rfl ?_
        refine m_callVI C ml_X0_31 ⟨Nat.le_of_ble_eq_true rfl, Nat.le_of_ble_eq_true rfl⟩ rfl rfl [.int x4_6, .int a2] [] rfl rfl (Nat.le_of_ble_eq_true rfl) dX0_find_39 (fun o ho => kX0_partBeside l D ct A x4_6 a2 s_9 o ho) (fun r_19 s_20 => ?_)
        refine m_goto (tgt := 46) C dX0_find_42 rfl ?_
        refine m_loc (L2 := [(0, .ref (A 8)), (1, .ref (A 1)), (2, .int a2), (3, .int x3_5), (4, .int x4_6), (5, .int r_8)]) [1, 2, 3, 4, 5, 0] rfl ?_
        exact hk_12 r_19 s_20
theorem kX0_find (l : Launch) (D : va_G) (ct : Nat → ClassId) (A : Nat → Nat) (a2 : Int32) (s0 : Sg) (o : Bool × Sg) (ho : fX0_find a2 s0 = some o) : Con l yX0_find cX0_find 7 (some .boolean) 1 D ct A [.ref (A 8), .ref (A 1), .int a2] s0 (embZ o) := by
  refine con_start (by decide +kernel) (Nat.le_of_ble_eq_true rfl) ho (fun p e s m args below meth c C => ?_)
  refine m_loc (L2 := [(0, .ref (A 8)), (1, .ref (A 1)), (2, .int a2)]) [0, 1, 2] rfl ?_
  unfold fX0_find
  refine m_aload_n C dX0_find_0 rfl ?_
  refine m_aload_n C dX0_find_1 rfl ?_
  refine m_callVV C ml_X0_15 ⟨Nat.le_of_ble_eq_true rfl, Nat.le_of_ble_eq_true rfl⟩ rfl rfl [.ref (A 1)] [] rfl rfl (Nat.le_of_ble_eq_true rfl) dX0_find_2 (fun o ho => kX0_addSums l D ct A s0 o ho) (fun s_1 => ?_)
  refine m_bipush C dX0_find_5 cb_13 ?_
  refine m_istore_n (L2 := [(3, .int 13), (0, .ref (A 8)), (1, .ref (A 1)), (2, .int a2)]) C dX0_find_7 rfl (by decide) rfl ?_
  refine m_iconst C dX0_find_8 ci_1 ?_
  refine m_istore (L2 := [(4, .int 1), (3, .int 13), (0, .ref (A 8)), (1, .ref (A 1)), (2, .int a2)]) C dX0_find_9 (by decide) rfl ?_
  refine m_jn (P := fun (k_4 : Int32 → Sg → Option (Bool × Sg)) => ∀ (x3_2 : Int32) (s_3 : Sg), Wm p l e (rmD 1) s m args below meth c D ct A 7 embZ 75 [(3, .int x3_2)] [] s_3 (k_4 x3_2 s_3)) ?_ (fun k_4 hk_4 => ?_)
  · intro x3_2 s_3
    refine m_iload_n C dX0_find_75 rfl ?_
    refine m_bipush C dX0_find_76 cb_12 ?_
    refine m_icmp_gt (tgt := 85) C dX0_find_78 rfl ?_ ?_
    · refine m_iconst C dX0_find_85 ci_0 ?_
      exact m_zret C false rfl dX0_find_86
    · refine m_iconst C dX0_find_81 ci_1 ?_
      refine m_goto (tgt := 86) C dX0_find_82 rfl ?_
      exact m_zret C true rfl dX0_find_86
  refine m_loc (L2 := [(0, .ref (A 8)), (1, .ref (A 1)), (2, .int a2), (3, .int 13), (4, .int 1)]) [2, 3, 4, 1, 0] rfl ?_
  exact wX0_find_11 C a2 k_4 hk_4 FU 13 1 s_1
def fX1_leastTurn_30_b (x2_7 : Int32) (k_11 : Int32 → Sg → Option (Int32 × Sg)) (rec30 : Int32 → Int32 → Sg → Option (Int32 × Sg)) (x3_15 : Int32) (x4_16 : Int32) (s_17 : Sg) : Option (Int32 × Sg) :=
  if (gi s_17 7 1) ≤ x4_16 then
    k_11 x3_15 s_17
  else
    bv (fun (x3_18 : Int32) (s_19 : Sg) => 
      bv (x4_16 + 1) fun v_21 =>
      rec30 x3_18 v_21 s_19)
    fun k_20 =>
    if ((x2_7 >>> (x4_16 &&& 31)) &&& 1) = 0 then
      bnd (fX1_turnFrom (x2_7 + (1 <<< (x4_16 &&& 31))) s_17) fun r_22 s_23 =>
      bv (imin x3_15 r_22) fun v_24 =>
      k_20 v_24 s_23
    else
      k_20 x3_15 s_17
def fX1_leastTurn_20_b (k_6 : Sg → Option (Int32 × Sg)) (rec20 : Int32 → Sg → Option (Int32 × Sg)) (x2_7 : Int32) (s_8 : Sg) : Option (Int32 × Sg) :=
  if x2_7 < 0 then
    k_6 s_8
  else
    bv (fun (x3_9 : Int32) (s_10 : Sg) => 
      chk (inb 1024 x2_7) <|
      bv (si s_10 25 (ix x2_7) x3_9) fun s_13 =>
      bv (x2_7 + (-1)) fun v_14 =>
      rec20 v_14 s_13)
    fun k_11 =>
    lo3 (fX1_leastTurn_30_b x2_7 k_11) FU 1000000000 0 s_8
def fX1_leastTurn (s0 : Sg) : Option (Int32 × Sg) :=
  bv ((1 <<< ((gi s0 7 1) &&& 31)) - 1) fun v_1 =>
  chk (inb 1024 v_1) <|
  bv (si s0 25 (ix v_1) 0) fun s_3 =>
  bv (v_1 - 1) fun v_4 =>
  bv (fun (s_5 : Sg) => 
    if (gi s_5 25 (ix 0)) = 1000000000 then
      some ((-1), s_5)
    else
      some (gi s_5 25 (ix 0), s_5))
  fun k_6 =>
  lo2 (fX1_leastTurn_20_b k_6) FU v_4 s_3
theorem wX1_leastTurn_30 {p : Program} {l : Launch} {e : Env} {s : State} {m : MethodId} {args : Array Value} {below : List Frame} {meth : Method} {c : Code} {D : va_G} {ct : Nat → ClassId} {A : Nat → Nat} (C : Cx p m c cX1_leastTurn 5 s args yX1_leastTurn.cls meth (some .int) D ct A) (x2_7 : Int32) (k_11 : Int32 → Sg → Option (Int32 × Sg)) (hk_11 : ∀ (x3_9 : Int32) (s_10 : Sg), Wm p l e (rmD 2) s m args below meth c D ct A 5 embI 69 [(0, .ref (A 7)), (2, .int x2_7), (3, .int x3_9)] [] s_10 (k_11 x3_9 s_10)) : ∀ (n : Nat) (x3_15 : Int32) (x4_16 : Int32) (s_17 : Sg), Wm p l e (rmD 2) s m args below meth c D ct A 5 embI 30 [(0, .ref (A 7)), (2, .int x2_7), (3, .int x3_15), (4, .int x4_16)] [] s_17 (lo3 (fX1_leastTurn_30_b x2_7 k_11) n x3_15 x4_16 s_17) := by
  intro n
  induction n with
  | zero => intro x3_15 x4_16 s_17; exact m_none
  | succ n hrec30 =>
    intro x3_15 x4_16 s_17
    refine (show Wm p l e (rmD 2) s m args below meth c D ct A 5 embI 30 [(0, .ref (A 7)), (2, .int x2_7), (3, .int x3_15), (4, .int x4_16)] [] s_17 (fX1_leastTurn_30_b x2_7 k_11 (lo3 (fX1_leastTurn_30_b x2_7 k_11) n) x3_15 x4_16 s_17) from ?_)
    generalize lo3 (fX1_leastTurn_30_b x2_7 k_11) n = rec30 at hrec30 ⊢
    unfold fX1_leastTurn_30_b
    refine m_iload C dX1_leastTurn_30 rfl ?_
    refine m_aload_n C dX1_leastTurn_32 rfl ?_
    refine m_get (v := .int (gi s_17 7 1)) C fl_X1_34_1 rfl (by decide) rfl dX1_leastTurn_33 ?_
    refine m_icmp_ge (tgt := 69) C dX1_leastTurn_36 rfl ?_ ?_
    · refine m_loc (L2 := [(0, .ref (A 7)), (2, .int x2_7), (3, .int x3_15)]) [0, 1, 2] rfl ?_
      exact hk_11 x3_15 s_17
    · refine m_iload_n C dX1_leastTurn_39 rfl ?_
      refine m_iload C dX1_leastTurn_40 rfl ?_
      refine m_ishr C dX1_leastTurn_42 ?_
      refine m_iconst C dX1_leastTurn_43 ci_1 ?_
      refine m_iand C dX1_leastTurn_44 ?_
      refine m_jn (P := fun (k_20 : Int32 → Sg → Option (Int32 × Sg)) => ∀ (x3_18 : Int32) (s_19 : Sg), Wm p l e (rmD 2) s m args below meth c D ct A 5 embI 63 [(0, .ref (A 7)), (2, .int x2_7), (3, .int x3_18), (4, .int x4_16)] [] s_19 (k_20 x3_18 s_19)) ?_ (fun k_20 hk_20 => ?_)
      · intro x3_18 s_19
        refine m_iincb (L2 := fun v_21 => [(4, .int v_21), (0, .ref (A 7)), (2, .int x2_7), (3, .int x3_18)]) (q := 3) C dX1_leastTurn_63 rfl ci_1 (by decide) (fun _ => rfl) (fun v_21 => ?_)
        refine m_goto (tgt := 30) C dX1_leastTurn_66 rfl ?_
        refine m_loc (L2 := [(0, .ref (A 7)), (2, .int x2_7), (3, .int x3_18), (4, .int v_21)]) [1, 2, 3, 0] rfl ?_
        exact hrec30 x3_18 v_21 s_19
      refine m_if_ne (tgt := 63) C dX1_leastTurn_45 rfl ?_ ?_
      · refine m_loc (L2 := [(0, .ref (A 7)), (2, .int x2_7), (3, .int x3_15), (4, .int x4_16)]) [0, 1, 2, 3] rfl ?_
        exact hk_20 x3_15 s_17
      · refine m_iload_n C dX1_leastTurn_48 rfl ?_
        refine m_aload_n C dX1_leastTurn_49 rfl ?_
        refine m_iload_n C dX1_leastTurn_50 rfl ?_
        refine m_iconst C dX1_leastTurn_51 ci_1 ?_
        refine m_iload C dX1_leastTurn_52 rfl ?_
        refine m_ishl C dX1_leastTurn_54 ?_
        refine m_iadd C dX1_leastTurn_55 ?_
        refine m_callVI C ml_X1_72 ⟨Nat.le_of_ble_eq_true rfl, Nat.le_of_ble_eq_true rfl⟩ rfl rfl [.int (x2_7 + (1 <<< (x4_16 &&& 31)))] [.int x3_15] rfl rfl (Nat.le_of_ble_eq_true rfl) dX1_leastTurn_56 (fun o ho => kX1_turnFrom l D ct A (x2_7 + (1 <<< (x4_16 &&& 31))) s_17 o ho) (fun r_22 s_23 => ?_)
        refine m_mmin C wd_779 ⟨by decide, Nat.le_of_ble_eq_true rfl⟩ dX1_leastTurn_59 ?_
        refine m_let (fun v_24 => ?_)
        refine m_istore_n (L2 := [(3, .int v_24), (0, .ref (A 7)), (2, .int x2_7), (4, .int x4_16)]) C dX1_leastTurn_62 rfl (by decide) rfl ?_
        refine m_loc (L2 := [(0, .ref (A 7)), (2, .int x2_7), (3, .int v_24), (4, .int x4_16)]) [1, 2, 0, 3] rfl ?_
        exact hk_20 v_24 s_23
theorem wX1_leastTurn_20 {p : Program} {l : Launch} {e : Env} {s : State} {m : MethodId} {args : Array Value} {below : List Frame} {meth : Method} {c : Code} {D : va_G} {ct : Nat → ClassId} {A : Nat → Nat} (C : Cx p m c cX1_leastTurn 5 s args yX1_leastTurn.cls meth (some .int) D ct A) (k_6 : Sg → Option (Int32 × Sg)) (hk_6 : ∀ (s_5 : Sg), Wm p l e (rmD 2) s m args below meth c D ct A 5 embI 82 [(0, .ref (A 7))] [] s_5 (k_6 s_5)) : ∀ (n : Nat) (x2_7 : Int32) (s_8 : Sg), Wm p l e (rmD 2) s m args below meth c D ct A 5 embI 20 [(0, .ref (A 7)), (2, .int x2_7)] [] s_8 (lo2 (fX1_leastTurn_20_b k_6) n x2_7 s_8) := by
  intro n
  induction n with
  | zero => intro x2_7 s_8; exact m_none
  | succ n hrec20 =>
    intro x2_7 s_8
    refine (show Wm p l e (rmD 2) s m args below meth c D ct A 5 embI 20 [(0, .ref (A 7)), (2, .int x2_7)] [] s_8 (fX1_leastTurn_20_b k_6 (lo2 (fX1_leastTurn_20_b k_6) n) x2_7 s_8) from ?_)
    generalize lo2 (fX1_leastTurn_20_b k_6) n = rec20 at hrec20 ⊢
    unfold fX1_leastTurn_20_b
    refine m_iload_n C dX1_leastTurn_20 rfl ?_
    refine m_if_lt (tgt := 82) C dX1_leastTurn_21 rfl ?_ ?_
    · refine m_loc (L2 := [(0, .ref (A 7))]) [0] rfl ?_
      exact hk_6 s_8
    · refine m_ldc C wd_759 dX1_leastTurn_24 ?_
      refine m_istore_n (L2 := [(3, .int 1000000000), (0, .ref (A 7)), (2, .int x2_7)]) C dX1_leastTurn_26 rfl (by decide) rfl ?_
      refine m_iconst C dX1_leastTurn_27 ci_0 ?_
      refine m_istore (L2 := [(4, .int 0), (3, .int 1000000000), (0, .ref (A 7)), (2, .int x2_7)]) C dX1_leastTurn_28 (by decide) rfl ?_
      refine m_jn (P := fun (k_11 : Int32 → Sg → Option (Int32 × Sg)) => ∀ (x3_9 : Int32) (s_10 : Sg), Wm p l e (rmD 2) s m args below meth c D ct A 5 embI 69 [(0, .ref (A 7)), (2, .int x2_7), (3, .int x3_9)] [] s_10 (k_11 x3_9 s_10)) ?_ (fun k_11 hk_11 => ?_)
      · intro x3_9 s_10
        refine m_aload_n C dX1_leastTurn_69 rfl ?_
        refine m_get (v := .ref (A 25)) C fl_X1_24_1 rfl (by decide) rfl dX1_leastTurn_70 ?_
        refine m_iload_n C dX1_leastTurn_73 rfl ?_
        refine m_iload_n C dX1_leastTurn_74 rfl ?_
        refine m_chk (fun h_12 => ?_)
        refine m_iast C rfl h_12 dX1_leastTurn_75 (fun s_13 => ?_)
        refine m_iincb (L2 := fun v_14 => [(2, .int v_14), (0, .ref (A 7)), (3, .int x3_9)]) (q := 1) C dX1_leastTurn_76 rfl ci_m1 (by decide) (fun _ => rfl) (fun v_14 => ?_)
        refine m_goto (tgt := 20) C dX1_leastTurn_79 rfl ?_
        refine m_loc (L2 := [(0, .ref (A 7)), (2, .int v_14)]) [1, 0] rfl ?_
        exact hrec20 v_14 s_13
      refine m_loc (L2 := [(0, .ref (A 7)), (2, .int x2_7), (3, .int 1000000000), (4, .int 0)]) [2, 3, 1, 0] rfl ?_
      exact wX1_leastTurn_30 C x2_7 k_11 hk_11 FU 1000000000 0 s_8
theorem kX1_leastTurn (l : Launch) (D : va_G) (ct : Nat → ClassId) (A : Nat → Nat) (s0 : Sg) (o : Int32 × Sg) (ho : fX1_leastTurn s0 = some o) : Con l yX1_leastTurn cX1_leastTurn 5 (some .int) 2 D ct A [.ref (A 7)] s0 (embI o) := by
  refine con_start (by decide +kernel) (Nat.le_of_ble_eq_true rfl) ho (fun p e s m args below meth c C => ?_)
  refine m_loc (L2 := [(0, .ref (A 7))]) [0] rfl ?_
  unfold fX1_leastTurn
  refine m_iconst C dX1_leastTurn_0 ci_1 ?_
  refine m_aload_n C dX1_leastTurn_1 rfl ?_
  refine m_get (v := .int (gi s0 7 1)) C fl_X1_34_1 rfl (by decide) rfl dX1_leastTurn_2 ?_
  refine m_ishl C dX1_leastTurn_5 ?_
  refine m_iconst C dX1_leastTurn_6 ci_1 ?_
  refine m_isub C dX1_leastTurn_7 ?_
  refine m_let (fun v_1 => ?_)
  refine m_istore_n (L2 := [(1, .int v_1), (0, .ref (A 7))]) C dX1_leastTurn_8 rfl (by decide) rfl ?_
  refine m_aload_n C dX1_leastTurn_9 rfl ?_
  refine m_get (v := .ref (A 25)) C fl_X1_24_1 rfl (by decide) rfl dX1_leastTurn_10 ?_
  refine m_iload_n C dX1_leastTurn_13 rfl ?_
  refine m_iconst C dX1_leastTurn_14 ci_0 ?_
  refine m_chk (fun h_2 => ?_)
  refine m_iast C rfl h_2 dX1_leastTurn_15 (fun s_3 => ?_)
  refine m_iload_n C dX1_leastTurn_16 rfl ?_
  refine m_iconst C dX1_leastTurn_17 ci_1 ?_
  refine m_isub C dX1_leastTurn_18 ?_
  refine m_let (fun v_4 => ?_)
  refine m_istore_n (L2 := [(2, .int v_4), (1, .int v_1), (0, .ref (A 7))]) C dX1_leastTurn_19 rfl (by decide) rfl ?_
  refine m_jn (P := fun (k_6 : Sg → Option (Int32 × Sg)) => ∀ (s_5 : Sg), Wm p l e (rmD 2) s m args below meth c D ct A 5 embI 82 [(0, .ref (A 7))] [] s_5 (k_6 s_5)) ?_ (fun k_6 hk_6 => ?_)
  · intro s_5
    refine m_aload_n C dX1_leastTurn_82 rfl ?_
    refine m_get (v := .ref (A 25)) C fl_X1_24_1 rfl (by decide) rfl dX1_leastTurn_83 ?_
    refine m_iconst C dX1_leastTurn_86 ci_0 ?_
    refine m_iald C rfl (by decide +kernel) dX1_leastTurn_87 ?_
    refine m_ldc C wd_759 dX1_leastTurn_88 ?_
    refine m_icmp_ne (tgt := 97) C dX1_leastTurn_90 rfl ?_ ?_
    · refine m_aload_n C dX1_leastTurn_97 rfl ?_
      refine m_get (v := .ref (A 25)) C fl_X1_24_1 rfl (by decide) rfl dX1_leastTurn_98 ?_
      refine m_iconst C dX1_leastTurn_101 ci_0 ?_
      refine m_iald C rfl (by decide +kernel) dX1_leastTurn_102 ?_
      exact m_iret C dX1_leastTurn_103
    · refine m_iconst C dX1_leastTurn_93 ci_m1 ?_
      refine m_goto (tgt := 103) C dX1_leastTurn_94 rfl ?_
      exact m_iret C dX1_leastTurn_103
  refine m_loc (L2 := [(0, .ref (A 7)), (2, .int v_4)]) [2, 0] rfl ?_
  exact wX1_leastTurn_20 C k_6 hk_6 FU v_4 s_3
def fX1_gentleThing_8_b (a1 : Int32) (a2 : Int32) (rec8 : Int32 → Int32 → Int32 → Sg → Option (Int32 × Sg)) (x3_1 : Int32) (x4_2 : Int32) (x5_3 : Int32) (s_4 : Sg) : Option (Int32 × Sg) :=
  if a1 < x5_3 then
    some (x4_2, s_4)
  else
    bnd (fX1_nextMember x3_1 a2 s_4) fun r_5 s_6 =>
    if r_5 = (-1) then
      some ((-1), s_6)
    else
      chk (inb 10 r_5) <|
      bv (gi s_6 21 (ix r_5)) fun v_8 =>
      bv (x3_1 + (1 <<< (r_5 &&& 31))) fun v_9 =>
      bv (x5_3 + 1) fun v_10 =>
      rec8 v_9 v_8 v_10 s_6
def fX1_gentleThing (a1 : Int32) (a2 : Int32) (s0 : Sg) : Option (Int32 × Sg) :=
  lo4 (fX1_gentleThing_8_b a1 a2) FU 0 (-1) 0 s0
theorem wX1_gentleThing_8 {p : Program} {l : Launch} {e : Env} {s : State} {m : MethodId} {args : Array Value} {below : List Frame} {meth : Method} {c : Code} {D : va_G} {ct : Nat → ClassId} {A : Nat → Nat} (C : Cx p m c cX1_gentleThing 7 s args yX1_gentleThing.cls meth (some .int) D ct A) (a1 : Int32) (a2 : Int32) : ∀ (n : Nat) (x3_1 : Int32) (x4_2 : Int32) (x5_3 : Int32) (s_4 : Sg), Wm p l e (rmD 3) s m args below meth c D ct A 7 embI 8 [(0, .ref (A 7)), (1, .int a1), (2, .int a2), (3, .int x3_1), (4, .int x4_2), (5, .int x5_3)] [] s_4 (lo4 (fX1_gentleThing_8_b a1 a2) n x3_1 x4_2 x5_3 s_4) := by
  intro n
  induction n with
  | zero => intro x3_1 x4_2 x5_3 s_4; exact m_none
  | succ n hrec8 =>
    intro x3_1 x4_2 x5_3 s_4
    refine (show Wm p l e (rmD 3) s m args below meth c D ct A 7 embI 8 [(0, .ref (A 7)), (1, .int a1), (2, .int a2), (3, .int x3_1), (4, .int x4_2), (5, .int x5_3)] [] s_4 (fX1_gentleThing_8_b a1 a2 (lo4 (fX1_gentleThing_8_b a1 a2) n) x3_1 x4_2 x5_3 s_4) from ?_)
    generalize lo4 (fX1_gentleThing_8_b a1 a2) n = rec8 at hrec8 ⊢
    unfold fX1_gentleThing_8_b
    refine m_iload C dX1_gentleThing_8 rfl ?_
    refine m_iload_n C dX1_gentleThing_10 rfl ?_
    refine m_icmp_gt (tgt := 52) C dX1_gentleThing_11 rfl ?_ ?_
    · refine m_iload C dX1_gentleThing_52 rfl ?_
      exact m_iret C dX1_gentleThing_54
    · refine m_aload_n C dX1_gentleThing_14 rfl ?_
      refine m_iload_n C dX1_gentleThing_15 rfl ?_
      refine m_iload_n C dX1_gentleThing_16 rfl ?_
      refine m_callVI C ml_X1_82 ⟨Nat.le_of_ble_eq_true rfl, Nat.le_of_ble_eq_true rfl⟩ rfl rfl [.int x3_1, .int a2] [] rfl rfl (Nat.le_of_ble_eq_true rfl) dX1_gentleThing_17 (fun o ho => kX1_nextMember l D ct A x3_1 a2 s_4 o ho) (fun r_5 s_6 => ?_)
      refine m_istore (L2 := [(6, .int r_5), (0, .ref (A 7)), (1, .int a1), (2, .int a2), (3, .int x3_1), (4, .int x4_2), (5, .int x5_3)]) C dX1_gentleThing_20 (by decide) rfl ?_
      refine m_iload C dX1_gentleThing_22 rfl ?_
      refine m_iconst C dX1_gentleThing_24 ci_m1 ?_
      refine m_icmp_ne (tgt := 30) C dX1_gentleThing_25 rfl ?_ ?_
      · refine m_aload_n C dX1_gentleThing_30 rfl ?_
        refine m_get (v := .ref (A 21)) C fl_X1_9_1 rfl (by decide) rfl dX1_gentleThing_31 ?_
        refine m_iload C dX1_gentleThing_34 rfl ?_
        refine m_chk (fun h_7 => ?_)
        refine m_iald C rfl h_7 dX1_gentleThing_36 ?_
        refine m_let (fun v_8 => ?_)
        refine m_istore (L2 := [(4, .int v_8), (6, .int r_5), (0, .ref (A 7)), (1, .int a1), (2, .int a2), (3, .int x3_1), (5, .int x5_3)]) C dX1_gentleThing_37 (by decide) rfl ?_
        refine m_iload_n C dX1_gentleThing_39 rfl ?_
        refine m_iconst C dX1_gentleThing_40 ci_1 ?_
        refine m_iload C dX1_gentleThing_41 rfl ?_
        refine m_ishl C dX1_gentleThing_43 ?_
        refine m_iadd C dX1_gentleThing_44 ?_
        refine m_let (fun v_9 => ?_)
        refine m_istore_n (L2 := [(3, .int v_9), (4, .int v_8), (6, .int r_5), (0, .ref (A 7)), (1, .int a1), (2, .int a2), (5, .int x5_3)]) C dX1_gentleThing_45 rfl (by decide) rfl ?_
        refine m_iincb (L2 := fun v_10 => [(5, .int v_10), (3, .int v_9), (4, .int v_8), (6, .int r_5), (0, .ref (A 7)), (1, .int a1), (2, .int a2)]) (q := 6) C dX1_gentleThing_46 rfl ci_1 (by decide) (fun _ => rfl) (fun v_10 => ?_)
        refine m_goto (tgt := 8) C dX1_gentleThing_49 rfl ?_
        refine m_loc (L2 := [(0, .ref (A 7)), (1, .int a1), (2, .int a2), (3, .int v_9), (4, .int v_8), (5, .int v_10)]) [4, 5, 6, 1, 2, 0] rfl ?_
        exact hrec8 v_9 v_8 v_10 s_6
      · refine m_iconst C dX1_gentleThing_28 ci_m1 ?_
        exact m_iret C dX1_gentleThing_29
theorem kX1_gentleThing (l : Launch) (D : va_G) (ct : Nat → ClassId) (A : Nat → Nat) (a1 : Int32) (a2 : Int32) (s0 : Sg) (o : Int32 × Sg) (ho : fX1_gentleThing a1 a2 s0 = some o) : Con l yX1_gentleThing cX1_gentleThing 7 (some .int) 3 D ct A [.ref (A 7), .int a1, .int a2] s0 (embI o) := by
  refine con_start (by decide +kernel) (Nat.le_of_ble_eq_true rfl) ho (fun p e s m args below meth c C => ?_)
  refine m_loc (L2 := [(0, .ref (A 7)), (1, .int a1), (2, .int a2)]) [0, 1, 2] rfl ?_
  unfold fX1_gentleThing
  refine m_iconst C dX1_gentleThing_0 ci_0 ?_
  refine m_istore_n (L2 := [(3, .int 0), (0, .ref (A 7)), (1, .int a1), (2, .int a2)]) C dX1_gentleThing_1 rfl (by decide) rfl ?_
  refine m_iconst C dX1_gentleThing_2 ci_m1 ?_
  refine m_istore (L2 := [(4, .int (-1)), (3, .int 0), (0, .ref (A 7)), (1, .int a1), (2, .int a2)]) C dX1_gentleThing_3 (by decide) rfl ?_
  refine m_iconst C dX1_gentleThing_5 ci_0 ?_
  refine m_istore (L2 := [(5, .int 0), (4, .int (-1)), (3, .int 0), (0, .ref (A 7)), (1, .int a1), (2, .int a2)]) C dX1_gentleThing_6 (by decide) rfl ?_
  refine m_loc (L2 := [(0, .ref (A 7)), (1, .int a1), (2, .int a2), (3, .int 0), (4, .int (-1)), (5, .int 0)]) [3, 4, 5, 2, 1, 0] rfl ?_
  exact wX1_gentleThing_8 C a1 a2 FU 0 (-1) 0 s0
def fX2_openOne (a1 : Int32) (s0 : Sg) : Option (Sg) :=
  if (gi s0 4 6) < 8 then
    bv (si s0 4 6 ((gi s0 4 6) + 1)) fun s_1 =>
    bv (fun (y_2 : Int32) (y_3 : Bool) => 
      bv (si s_1 4 7 (y_2 + (b2i y_3))) fun s_5 =>
      bv (fun (y_6 : Bool) => 
        bv (si s_5 4 10 (b2i y_6)) fun s_8 =>
        bnv (fX2_keepWaiting a1 s_8) fun s_9 =>
        some s_9)
      fun k_7 =>
      if a1 = 3 then
        k_7 true
      else
        k_7 false)
    fun k_4 =>
    if a1 = 0 then
      k_4 (gi s_1 4 7) true
    else
      k_4 (gi s_1 4 7) false
  else
    bnv (fX2_fail 3 s0) fun s_10 =>
    some s_10
theorem kX2_openOne (l : Launch) (D : va_G) (ct : Nat → ClassId) (A : Nat → Nat) (a1 : Int32) (s0 : Sg) (o : Sg) (ho : fX2_openOne a1 s0 = some o) : Con l yX2_openOne cX2_openOne 2 none 1 D ct A [.ref (A 4), .int a1] s0 (embV o) := by
  refine con_start (by decide +kernel) (Nat.le_of_ble_eq_true rfl) ho (fun p e s m args below meth c C => ?_)
  refine m_loc (L2 := [(0, .ref (A 4)), (1, .int a1)]) [0, 1] rfl ?_
  unfold fX2_openOne
  refine m_aload_n C dX2_openOne_0 rfl ?_
  refine m_get (v := .int (gi s0 4 6)) C fl_X2_95_2 rfl (by decide) rfl dX2_openOne_1 ?_
  refine m_bipush C dX2_openOne_4 cb_8 ?_
  refine m_icmp_lt (tgt := 15) C dX2_openOne_6 rfl ?_ ?_
  · refine m_aload_n C dX2_openOne_15 rfl ?_
    refine m_dup C dX2_openOne_16 rfl ?_
    refine m_get (v := .int (gi s0 4 6)) C fl_X2_95_2 rfl (by decide) rfl dX2_openOne_17 ?_
    refine m_iconst C dX2_openOne_20 ci_1 ?_
    refine m_iadd C dX2_openOne_21 ?_
    refine m_puti C fl_X2_95_2 fw_2_6 rfl (by decide) rfl dX2_openOne_22 (fun s_1 => ?_)
    refine m_aload_n C dX2_openOne_25 rfl ?_
    refine m_dup C dX2_openOne_26 rfl ?_
    refine m_get (v := .int (gi s_1 4 7)) C fl_X2_98_2 rfl (by decide) rfl dX2_openOne_27 ?_
    refine m_iload_n C dX2_openOne_30 rfl ?_
    refine m_jn (P := fun (k_4 : Int32 → Bool → Option (Sg)) => ∀ (y_2 : Int32) (y_3 : Bool), Wm p l e (rmD 1) s m args below meth c D ct A 2 embV 39 [(0, .ref (A 4)), (1, .int a1)] [.int (b2i y_3), .int y_2, .ref (A 4)] s_1 (k_4 y_2 y_3)) ?_ (fun k_4 hk_4 => ?_)
    · intro y_2 y_3
      refine m_iadd C dX2_openOne_39 ?_
      refine m_puti C fl_X2_98_2 fw_2_7 rfl (by decide) rfl dX2_openOne_40 (fun s_5 => ?_)
      refine m_aload_n C dX2_openOne_43 rfl ?_
      refine m_iload_n C dX2_openOne_44 rfl ?_
      refine m_iconst C dX2_openOne_45 ci_3 ?_
      refine m_jn (P := fun (k_7 : Bool → Option (Sg)) => ∀ (y_6 : Bool), Wm p l e (rmD 1) s m args below meth c D ct A 2 embV 54 [(0, .ref (A 4)), (1, .int a1)] [.int (b2i y_6), .ref (A 4)] s_5 (k_7 y_6)) ?_ (fun k_7 hk_7 => ?_)
      · intro y_6
        refine m_putz C fl_X2_104_2 fw_2_10 rfl (by decide) rfl y_6 rfl dX2_openOne_54 (fun s_8 => ?_)
        refine m_aload_n C dX2_openOne_57 rfl ?_
        refine m_iload_n C dX2_openOne_58 rfl ?_
        refine m_callVV C ml_X2_134 ⟨Nat.le_of_ble_eq_true rfl, Nat.le_of_ble_eq_true rfl⟩ rfl rfl [.int a1] [] rfl rfl (Nat.le_of_ble_eq_true rfl) dX2_openOne_59 (fun o ho => kX2_keepWaiting l D ct A a1 s_8 o ho) (fun s_9 => ?_)
        exact m_vret C dX2_openOne_62
      refine m_icmp_ne (tgt := 53) C dX2_openOne_46 rfl ?_ ?_
      · refine m_iconst C dX2_openOne_53 ci_0 ?_
        refine m_loc (L2 := [(0, .ref (A 4)), (1, .int a1)]) [0, 1] rfl ?_
        exact hk_7 false
      · refine m_iconst C dX2_openOne_49 ci_1 ?_
        refine m_goto (tgt := 54) C dX2_openOne_50 rfl ?_
        refine m_loc (L2 := [(0, .ref (A 4)), (1, .int a1)]) [0, 1] rfl ?_
        exact hk_7 true
    refine m_if_ne (tgt := 38) C dX2_openOne_31 rfl ?_ ?_
    · refine m_iconst C dX2_openOne_38 ci_0 ?_
      refine m_loc (L2 := [(0, .ref (A 4)), (1, .int a1)]) [0, 1] rfl ?_
      exact hk_4 (gi s_1 4 7) false
    · refine m_iconst C dX2_openOne_34 ci_1 ?_
      refine m_goto (tgt := 39) C dX2_openOne_35 rfl ?_
      refine m_loc (L2 := [(0, .ref (A 4)), (1, .int a1)]) [0, 1] rfl ?_
      exact hk_4 (gi s_1 4 7) true
  · refine m_aload_n C dX2_openOne_9 rfl ?_
    refine m_iconst C dX2_openOne_10 ci_3 ?_
    refine m_callVV C ml_X2_47 ⟨Nat.le_of_ble_eq_true rfl, Nat.le_of_ble_eq_true rfl⟩ rfl rfl [.int 3] [] rfl rfl (Nat.le_of_ble_eq_true rfl) dX2_openOne_11 (fun o ho => kX2_fail l D ct A 3 s0 o ho) (fun s_10 => ?_)
    exact m_vret C dX2_openOne_14
def fX2_takeOperand (a1 : Int32) (s0 : Sg) : Option (Sg) :=
  bv (gr s0 4 3) fun q_1 =>
  chk (isScr q_1) <|
  bnv (fX5_emit q_1 a1 s0) fun s_3 =>
  bv (si s_3 4 10 (b2i false)) fun s_4 =>
  bv (si s_4 4 9 (b2i false)) fun s_5 =>
  some s_5
theorem kX2_takeOperand (l : Launch) (D : va_G) (ct : Nat → ClassId) (A : Nat → Nat) (a1 : Int32) (s0 : Sg) (o : Sg) (ho : fX2_takeOperand a1 s0 = some o) : Con l yX2_takeOperand cX2_takeOperand 2 none 1 D ct A [.ref (A 4), .int a1] s0 (embV o) := by
  refine con_start (by decide +kernel) (Nat.le_of_ble_eq_true rfl) ho (fun p e s m args below meth c C => ?_)
  refine m_loc (L2 := [(0, .ref (A 4)), (1, .int a1)]) [0, 1] rfl ?_
  unfold fX2_takeOperand
  refine m_aload_n C dX2_takeOperand_0 rfl ?_
  refine m_get (v := rfv A (gr s0 4 3)) C fl_X2_26_2 rfl (by decide) rfl dX2_takeOperand_1 ?_
  refine m_letn (fun q_1 => ?_)
  refine m_chk (fun h_2 => ?_)
  refine m_rf (isScr_ne h_2) ?_
  refine m_iload_n C dX2_takeOperand_4 rfl ?_
  refine m_callVV C ml_X2_137 ⟨Nat.le_of_ble_eq_true rfl, Nat.le_of_ble_eq_true rfl⟩ (lay_scr h_2) rfl [.int a1] [] rfl rfl (Nat.le_of_ble_eq_true rfl) dX2_takeOperand_5 (fun o ho => kX5_emit l D ct A q_1 a1 h_2 s0 o ho) (fun s_3 => ?_)
  refine m_aload_n C dX2_takeOperand_8 rfl ?_
  refine m_iconst C dX2_takeOperand_9 ci_0 ?_
  refine m_putz C fl_X2_104_2 fw_2_10 rfl (by decide) rfl false rfl dX2_takeOperand_10 (fun s_4 => ?_)
  refine m_aload_n C dX2_takeOperand_13 rfl ?_
  refine m_iconst C dX2_takeOperand_14 ci_0 ?_
  refine m_putz C fl_X2_101_2 fw_2_9 rfl (by decide) rfl false rfl dX2_takeOperand_15 (fun s_5 => ?_)
  exact m_vret C dX2_takeOperand_18
def fX2_settle_0_b (a1 : Int32) (rec0 : Sg → Option (Sg)) (s_1 : Sg) : Option (Sg) :=
  if (gi s_1 4 2) ≤ 0 then
    some s_1
  else
    chk (inb 29 ((gi s_1 4 2) - 1)) <|
    chk (inb 15 (gi s_1 18 (ix ((gi s_1 4 2) - 1)))) <|
    if (tB.getD (ix (gi s_1 18 (ix ((gi s_1 4 2) - 1)))) 0) < a1 then
      some s_1
    else
      bv (si s_1 4 2 ((gi s_1 4 2) - 1)) fun s_4 =>
      chk (inb 29 (gi s_4 4 2)) <|
      bv (gi s_4 18 (ix (gi s_4 4 2))) fun v_6 =>
      bv (gr s_4 4 3) fun q_7 =>
      chk (isScr q_7) <|
      bnv (fX5_emit q_7 (20000 + v_6) s_4) fun s_9 =>
      bv (fun (y_10 : Int32) (y_11 : Bool) => 
        bv (si s_9 4 6 (y_10 - (b2i y_11))) fun s_13 =>
        rec0 s_13)
      fun k_12 =>
      bv (fun (y_14 : Int32) => 
        k_12 y_14 true)
      fun k_15 =>
      if v_6 = 14 then
        k_15 (gi s_9 4 6)
      else
        if v_6 = 3 then
          k_15 (gi s_9 4 6)
        else
          k_12 (gi s_9 4 6) false
def fX2_settle (a1 : Int32) (s0 : Sg) : Option (Sg) :=
  lo1 (fX2_settle_0_b a1) FU s0
theorem wX2_settle_0 {p : Program} {l : Launch} {e : Env} {s : State} {m : MethodId} {args : Array Value} {below : List Frame} {meth : Method} {c : Code} {D : va_G} {ct : Nat → ClassId} {A : Nat → Nat} (C : Cx p m c cX2_settle 3 s args yX2_settle.cls meth none D ct A) (a1 : Int32) : ∀ (n : Nat) (s_1 : Sg), Wm p l e (rmD 1) s m args below meth c D ct A 3 embV 0 [(0, .ref (A 4)), (1, .int a1)] [] s_1 (lo1 (fX2_settle_0_b a1) n s_1) := by
  intro n
  induction n with
  | zero => intro s_1; exact m_none
  | succ n hrec0 =>
    intro s_1
    refine (show Wm p l e (rmD 1) s m args below meth c D ct A 3 embV 0 [(0, .ref (A 4)), (1, .int a1)] [] s_1 (fX2_settle_0_b a1 (lo1 (fX2_settle_0_b a1) n) s_1) from ?_)
    generalize lo1 (fX2_settle_0_b a1) n = rec0 at hrec0 ⊢
    unfold fX2_settle_0_b
    refine m_aload_n C dX2_settle_0 rfl ?_
    refine m_get (v := .int (gi s_1 4 2)) C fl_X2_92_2 rfl (by decide) rfl dX2_settle_1 ?_
    refine m_if_le (tgt := 86) C dX2_settle_4 rfl ?_ ?_
    · exact m_vret C dX2_settle_86
    · refine m_getsB C (by decide +kernel) dX2_settle_7 ?_
      refine m_aload_n C dX2_settle_10 rfl ?_
      refine m_get (v := .ref (A 18)) C fl_X2_11_2 rfl (by decide) rfl dX2_settle_11 ?_
      refine m_aload_n C dX2_settle_14 rfl ?_
      refine m_get (v := .int (gi s_1 4 2)) C fl_X2_92_2 rfl (by decide) rfl dX2_settle_15 ?_
      refine m_iconst C dX2_settle_18 ci_1 ?_
      refine m_isub C dX2_settle_19 ?_
      refine m_chk (fun h_2 => ?_)
      refine m_iald C rfl h_2 dX2_settle_20 ?_
      refine m_chk (fun h_3 => ?_)
      refine m_saldB C h_3 dX2_settle_21 ?_
      refine m_iload_n C dX2_settle_22 rfl ?_
      refine m_icmp_lt (tgt := 86) C dX2_settle_23 rfl ?_ ?_
      · exact m_vret C dX2_settle_86
      · refine m_aload_n C dX2_settle_26 rfl ?_
        refine m_dup C dX2_settle_27 rfl ?_
        refine m_get (v := .int (gi s_1 4 2)) C fl_X2_92_2 rfl (by decide) rfl dX2_settle_28 ?_
        refine m_iconst C dX2_settle_31 ci_1 ?_
        refine m_isub C dX2_settle_32 ?_
        refine m_puti C fl_X2_92_2 fw_2_2 rfl (by decide) rfl dX2_settle_33 (fun s_4 => ?_)
        refine m_aload_n C dX2_settle_36 rfl ?_
        refine m_get (v := .ref (A 18)) C fl_X2_11_2 rfl (by decide) rfl dX2_settle_37 ?_
        refine m_aload_n C dX2_settle_40 rfl ?_
        refine m_get (v := .int (gi s_4 4 2)) C fl_X2_92_2 rfl (by decide) rfl dX2_settle_41 ?_
        refine m_chk (fun h_5 => ?_)
        refine m_iald C rfl h_5 dX2_settle_44 ?_
        refine m_let (fun v_6 => ?_)
        refine m_istore_n (L2 := [(2, .int v_6), (0, .ref (A 4)), (1, .int a1)]) C dX2_settle_45 rfl (by decide) rfl ?_
        refine m_aload_n C dX2_settle_46 rfl ?_
        refine m_get (v := rfv A (gr s_4 4 3)) C fl_X2_26_2 rfl (by decide) rfl dX2_settle_47 ?_
        refine m_letn (fun q_7 => ?_)
        refine m_chk (fun h_8 => ?_)
        refine m_rf (isScr_ne h_8) ?_
        refine m_sipush C dX2_settle_50 cs_20000 ?_
        refine m_iload_n C dX2_settle_53 rfl ?_
        refine m_iadd C dX2_settle_54 ?_
        refine m_callVV C ml_X2_137 ⟨Nat.le_of_ble_eq_true rfl, Nat.le_of_ble_eq_true rfl⟩ (lay_scr h_8) rfl [.int (20000 + v_6)] [] rfl rfl (Nat.le_of_ble_eq_true rfl) dX2_settle_55 (fun o ho => kX5_emit l D ct A q_7 (20000 + v_6) h_8 s_4 o ho) (fun s_9 => ?_)
        refine m_aload_n C dX2_settle_58 rfl ?_
        refine m_dup C dX2_settle_59 rfl ?_
        refine m_get (v := .int (gi s_9 4 6)) C fl_X2_95_2 rfl (by decide) rfl dX2_settle_60 ?_
        refine m_iload_n C dX2_settle_63 rfl ?_
        refine m_bipush C dX2_settle_64 cb_14 ?_
        refine m_jn (P := fun (k_12 : Int32 → Bool → Option (Sg)) => ∀ (y_10 : Int32) (y_11 : Bool), Wm p l e (rmD 1) s m args below meth c D ct A 3 embV 79 [(0, .ref (A 4)), (1, .int a1)] [.int (b2i y_11), .int y_10, .ref (A 4)] s_9 (k_12 y_10 y_11)) ?_ (fun k_12 hk_12 => ?_)
        · intro y_10 y_11
          refine m_isub C dX2_settle_79 ?_
          refine m_puti C fl_X2_95_2 fw_2_6 rfl (by decide) rfl dX2_settle_80 (fun s_13 => ?_)
          refine m_goto (tgt := 0) C dX2_settle_83 rfl ?_
          refine m_loc (L2 := [(0, .ref (A 4)), (1, .int a1)]) [0, 1] rfl ?_
          exact hrec0 s_13
        refine m_jn (P := fun (k_15 : Int32 → Option (Sg)) => ∀ (y_14 : Int32), Wm p l e (rmD 1) s m args below meth c D ct A 3 embV 74 [(0, .ref (A 4)), (1, .int a1)] [.int y_14, .ref (A 4)] s_9 (k_15 y_14)) ?_ (fun k_15 hk_15 => ?_)
        · intro y_14
          refine m_iconst C dX2_settle_74 ci_1 ?_
          refine m_goto (tgt := 79) C dX2_settle_75 rfl ?_
          refine m_loc (L2 := [(0, .ref (A 4)), (1, .int a1)]) [0, 1] rfl ?_
          exact hk_12 y_14 true
        refine m_icmp_eq (tgt := 74) C dX2_settle_66 rfl ?_ ?_
        · refine m_loc (L2 := [(0, .ref (A 4)), (1, .int a1)]) [1, 2] rfl ?_
          exact hk_15 (gi s_9 4 6)
        · refine m_iload_n C dX2_settle_69 rfl ?_
          refine m_iconst C dX2_settle_70 ci_3 ?_
          refine m_icmp_ne (tgt := 78) C dX2_settle_71 rfl ?_ ?_
          · refine m_iconst C dX2_settle_78 ci_0 ?_
            refine m_loc (L2 := [(0, .ref (A 4)), (1, .int a1)]) [1, 2] rfl ?_
            exact hk_12 (gi s_9 4 6) false
          · refine m_loc (L2 := [(0, .ref (A 4)), (1, .int a1)]) [1, 2] rfl ?_
            exact hk_15 (gi s_9 4 6)
theorem kX2_settle (l : Launch) (D : va_G) (ct : Nat → ClassId) (A : Nat → Nat) (a1 : Int32) (s0 : Sg) (o : Sg) (ho : fX2_settle a1 s0 = some o) : Con l yX2_settle cX2_settle 3 none 1 D ct A [.ref (A 4), .int a1] s0 (embV o) := by
  refine con_start (by decide +kernel) (Nat.le_of_ble_eq_true rfl) ho (fun p e s m args below meth c C => ?_)
  refine m_loc (L2 := [(0, .ref (A 4)), (1, .int a1)]) [0, 1] rfl ?_
  unfold fX2_settle
  refine m_loc (L2 := [(0, .ref (A 4)), (1, .int a1)]) [0, 1] rfl ?_
  exact wX2_settle_0 C a1 FU s0
def fX3_copyFrom (q0 : Nat) (a1 : Nat) (s0 : Sg) : Option (Sg) :=
  bnv (fX8_copyWorld_q q0 a1 s0) fun s_1 =>
  bv (si s_1 q0 6 (gi s_1 a1 6)) fun s_2 =>
  bv (si s_2 q0 7 (gi s_2 a1 7)) fun s_3 =>
  bv (si s_3 q0 8 (gi s_3 a1 8)) fun s_4 =>
  bv (si s_4 q0 9 (gi s_4 a1 9)) fun s_5 =>
  some s_5
theorem kX3_copyFrom (l : Launch) (D : va_G) (ct : Nat → ClassId) (A : Nat → Nat) (q0 : Nat) (a1 : Nat) (h_q0 : isRd q0 = true) (h_a1 : isRd a1 = true) (s0 : Sg) (o : Sg) (ho : fX3_copyFrom q0 a1 s0 = some o) : Con l yX3_copyFrom cX3_copyFrom 2 none 1 D ct A [.ref (A q0), .ref (A a1)] s0 (embV o) := by
  refine con_start (by decide +kernel) (Nat.le_of_ble_eq_true rfl) ho (fun p e s m args below meth c C => ?_)
  refine m_loc (L2 := [(0, .ref (A q0)), (1, .ref (A a1))]) [0, 1] rfl ?_
  unfold fX3_copyFrom
  refine m_aload_n C dX3_copyFrom_0 rfl ?_
  refine m_aload_n C dX3_copyFrom_1 rfl ?_
  refine m_callUV C ml_X3_9 ⟨Nat.le_of_ble_eq_true rfl, Nat.le_of_ble_eq_true rfl⟩ (lay_rd h_q0) rfl [.ref (A a1)] [] rfl rfl (Nat.le_of_ble_eq_true rfl) dX3_copyFrom_2 (fun o ho => kX8_copyWorld_q l D ct A q0 a1 h_q0 h_a1 s0 o ho) (fun s_1 => ?_)
  refine m_aload_n C dX3_copyFrom_5 rfl ?_
  refine m_aload_n C dX3_copyFrom_6 rfl ?_
  refine m_get (v := .int (gi s_1 a1 6)) C fl_X3_15_3 (lay_rd h_a1) (by decide) (fv_rd h_a1 6) dX3_copyFrom_7 ?_
  refine m_puti C fl_X3_15_3 fw_3_6 (lay_rd h_q0) (by decide) (fk_rd h_q0 6) dX3_copyFrom_10 (fun s_2 => ?_)
  refine m_aload_n C dX3_copyFrom_13 rfl ?_
  refine m_aload_n C dX3_copyFrom_14 rfl ?_
  refine m_get (v := .int (gi s_2 a1 7)) C fl_X3_19_3 (lay_rd h_a1) (by decide) (fv_rd h_a1 7) dX3_copyFrom_15 ?_
  refine m_puti C fl_X3_19_3 fw_3_7 (lay_rd h_q0) (by decide) (fk_rd h_q0 7) dX3_copyFrom_18 (fun s_3 => ?_)
  refine m_aload_n C dX3_copyFrom_21 rfl ?_
  refine m_aload_n C dX3_copyFrom_22 rfl ?_
  refine m_get (v := .int (gi s_3 a1 8)) C fl_X3_22_3 (lay_rd h_a1) (by decide) (fv_rd h_a1 8) dX3_copyFrom_23 ?_
  refine m_puti C fl_X3_22_3 fw_3_8 (lay_rd h_q0) (by decide) (fk_rd h_q0 8) dX3_copyFrom_26 (fun s_4 => ?_)
  refine m_aload_n C dX3_copyFrom_29 rfl ?_
  refine m_aload_n C dX3_copyFrom_30 rfl ?_
  refine m_get (v := .int (gi s_4 a1 9)) C fl_X3_25_3 (lay_rd h_a1) (by decide) (fv_rd h_a1 9) dX3_copyFrom_31 ?_
  refine m_puti C fl_X3_25_3 fw_3_9 (lay_rd h_q0) (by decide) (fk_rd h_q0 9) dX3_copyFrom_34 (fun s_5 => ?_)
  exact m_vret C dX3_copyFrom_37
def fX3_agrees (q0 : Nat) (a1 : Int32) (a2 : Int32) (s0 : Sg) : Option (Bool × Sg) :=
  bv (fun (y_1 : Int32) => 
    bv (fun (y_3 : Int32) => 
      bv (((a1 * y_1) - (a2 * y_3)) + ((gi s0 q0 5) * 10)) fun v_5 =>
      bnd (fX9_leaning v_5 (gi s0 q0 2) s0) fun r_6 s_7 =>
      if r_6 = (gi s_7 q0 7) then
        some (true, s_7)
      else
        some (false, s_7))
    fun k_4 =>
    if (gi s0 q0 6) = 1 then
      k_4 ((gi s0 q0 9) + (gi s0 q0 10))
    else
      k_4 (gi s0 q0 9))
  fun k_2 =>
  if (gi s0 q0 6) = 0 then
    k_2 ((gi s0 q0 8) + (gi s0 q0 10))
  else
    k_2 (gi s0 q0 8)
theorem kX3_agrees (l : Launch) (D : va_G) (ct : Nat → ClassId) (A : Nat → Nat) (q0 : Nat) (a1 : Int32) (a2 : Int32) (h_q0 : isRd q0 = true) (s0 : Sg) (o : Bool × Sg) (ho : fX3_agrees q0 a1 a2 s0 = some o) : Con l yX3_agrees cX3_agrees 6 (some .boolean) 1 D ct A [.ref (A q0), .int a1, .int a2] s0 (embZ o) := by
  refine con_start (by decide +kernel) (Nat.le_of_ble_eq_true rfl) ho (fun p e s m args below meth c C => ?_)
  refine m_loc (L2 := [(0, .ref (A q0)), (1, .int a1), (2, .int a2)]) [0, 1, 2] rfl ?_
  unfold fX3_agrees
  refine m_aload_n C dX3_agrees_0 rfl ?_
  refine m_get (v := .int (gi s0 q0 6)) C fl_X3_15_3 (lay_rd h_q0) (by decide) (fv_rd h_q0 6) dX3_agrees_1 ?_
  refine m_jn (P := fun (k_2 : Int32 → Option (Bool × Sg)) => ∀ (y_1 : Int32), Wm p l e (rmD 1) s m args below meth c D ct A 6 embZ 23 [(0, .ref (A q0)), (1, .int a1), (2, .int a2)] [.int y_1] s0 (k_2 y_1)) ?_ (fun k_2 hk_2 => ?_)
  · intro y_1
    refine m_istore_n (L2 := [(3, .int y_1), (0, .ref (A q0)), (1, .int a1), (2, .int a2)]) C dX3_agrees_23 rfl (by decide) rfl ?_
    refine m_aload_n C dX3_agrees_24 rfl ?_
    refine m_get (v := .int (gi s0 q0 6)) C fl_X3_15_3 (lay_rd h_q0) (by decide) (fv_rd h_q0 6) dX3_agrees_25 ?_
    refine m_iconst C dX3_agrees_28 ci_1 ?_
    refine m_jn (P := fun (k_4 : Int32 → Option (Bool × Sg)) => ∀ (y_3 : Int32), Wm p l e (rmD 1) s m args below meth c D ct A 6 embZ 48 [(0, .ref (A q0)), (1, .int a1), (2, .int a2), (3, .int y_1)] [.int y_3] s0 (k_4 y_3)) ?_ (fun k_4 hk_4 => ?_)
    · intro y_3
      refine m_istore (L2 := [(4, .int y_3), (0, .ref (A q0)), (1, .int a1), (2, .int a2), (3, .int y_1)]) C dX3_agrees_48 (by decide) rfl ?_
      refine m_iload_n C dX3_agrees_50 rfl ?_
      refine m_iload_n C dX3_agrees_51 rfl ?_
      refine m_imul C dX3_agrees_52 ?_
      refine m_iload_n C dX3_agrees_53 rfl ?_
      refine m_iload C dX3_agrees_54 rfl ?_
      refine m_imul C dX3_agrees_56 ?_
      refine m_isub C dX3_agrees_57 ?_
      refine m_aload_n C dX3_agrees_58 rfl ?_
      refine m_get (v := .int (gi s0 q0 5)) C fl_X3_31_3 (lay_rd h_q0) (by decide) (fv_rd h_q0 5) dX3_agrees_59 ?_
      refine m_bipush C dX3_agrees_62 cb_10 ?_
      refine m_imul C dX3_agrees_64 ?_
      refine m_iadd C dX3_agrees_65 ?_
      refine m_let (fun v_5 => ?_)
      refine m_istore (L2 := [(5, .int v_5), (4, .int y_3), (0, .ref (A q0)), (1, .int a1), (2, .int a2), (3, .int y_1)]) C dX3_agrees_66 (by decide) rfl ?_
      refine m_iload C dX3_agrees_68 rfl ?_
      refine m_aload_n C dX3_agrees_70 rfl ?_
      refine m_get (v := .int (gi s0 q0 2)) C fl_X3_34_3 (lay_rd h_q0) (by decide) (fv_rd h_q0 2) dX3_agrees_71 ?_
      refine m_callNI C ml_X3_37 ⟨Nat.le_of_ble_eq_true rfl, Nat.le_of_ble_eq_true rfl⟩ [.int v_5, .int (gi s0 q0 2)] [] rfl rfl (Nat.le_of_ble_eq_true rfl) dX3_agrees_74 (fun o ho => kX9_leaning l D ct A v_5 (gi s0 q0 2) s0 o ho) (fun r_6 s_7 => ?_)
      refine m_aload_n C dX3_agrees_77 rfl ?_
      refine m_get (v := .int (gi s_7 q0 7)) C fl_X3_19_3 (lay_rd h_q0) (by decide) (fv_rd h_q0 7) dX3_agrees_78 ?_
      refine m_icmp_ne (tgt := 88) C dX3_agrees_81 rfl ?_ ?_
      · refine m_iconst C dX3_agrees_88 ci_0 ?_
        exact m_zret C false rfl dX3_agrees_89
      · refine m_iconst C dX3_agrees_84 ci_1 ?_
        refine m_goto (tgt := 89) C dX3_agrees_85 rfl ?_
        exact m_zret C true rfl dX3_agrees_89
    refine m_icmp_ne (tgt := 44) C dX3_agrees_29 rfl ?_ ?_
    · refine m_aload_n C dX3_agrees_44 rfl ?_
      refine m_get (v := .int (gi s0 q0 9)) C fl_X3_25_3 (lay_rd h_q0) (by decide) (fv_rd h_q0 9) dX3_agrees_45 ?_
      refine m_loc (L2 := [(0, .ref (A q0)), (1, .int a1), (2, .int a2), (3, .int y_1)]) [1, 2, 3, 0] rfl ?_
      exact hk_4 (gi s0 q0 9)
    · refine m_aload_n C dX3_agrees_32 rfl ?_
      refine m_get (v := .int (gi s0 q0 9)) C fl_X3_25_3 (lay_rd h_q0) (by decide) (fv_rd h_q0 9) dX3_agrees_33 ?_
      refine m_aload_n C dX3_agrees_36 rfl ?_
      refine m_get (v := .int (gi s0 q0 10)) C fl_X3_28_3 (lay_rd h_q0) (by decide) (fv_rd h_q0 10) dX3_agrees_37 ?_
      refine m_iadd C dX3_agrees_40 ?_
      refine m_goto (tgt := 48) C dX3_agrees_41 rfl ?_
      refine m_loc (L2 := [(0, .ref (A q0)), (1, .int a1), (2, .int a2), (3, .int y_1)]) [1, 2, 3, 0] rfl ?_
      exact hk_4 ((gi s0 q0 9) + (gi s0 q0 10))
  refine m_if_ne (tgt := 19) C dX3_agrees_4 rfl ?_ ?_
  · refine m_aload_n C dX3_agrees_19 rfl ?_
    refine m_get (v := .int (gi s0 q0 8)) C fl_X3_22_3 (lay_rd h_q0) (by decide) (fv_rd h_q0 8) dX3_agrees_20 ?_
    refine m_loc (L2 := [(0, .ref (A q0)), (1, .int a1), (2, .int a2)]) [0, 1, 2] rfl ?_
    exact hk_2 (gi s0 q0 8)
  · refine m_aload_n C dX3_agrees_7 rfl ?_
    refine m_get (v := .int (gi s0 q0 8)) C fl_X3_22_3 (lay_rd h_q0) (by decide) (fv_rd h_q0 8) dX3_agrees_8 ?_
    refine m_aload_n C dX3_agrees_11 rfl ?_
    refine m_get (v := .int (gi s0 q0 10)) C fl_X3_28_3 (lay_rd h_q0) (by decide) (fv_rd h_q0 10) dX3_agrees_12 ?_
    refine m_iadd C dX3_agrees_15 ?_
    refine m_goto (tgt := 23) C dX3_agrees_16 rfl ?_
    refine m_loc (L2 := [(0, .ref (A q0)), (1, .int a1), (2, .int a2)]) [0, 1, 2] rfl ?_
    exact hk_2 ((gi s0 q0 8) + (gi s0 q0 10))
def fX4_valueOf_6_b (a1 : Nat) (a3 : Int32) (k_3 : Int32 → Sg → Option (Int32 × Sg)) (rec6 : Int32 → Int32 → Sg → Option (Int32 × Sg)) (x4_4 : Int32) (x5_5 : Int32) (s_6 : Sg) : Option (Int32 × Sg) :=
  if a3 ≤ x5_5 then
    k_3 x4_4 s_6
  else
    chk (inb 300 x5_5) <|
    bv (gi s_6 a1 (ix x5_5)) fun v_8 =>
    bv (v_8 - 20000) fun v_9 =>
    bv (fun (x4_10 : Int32) (s_11 : Sg) => 
      bv (x5_5 + 1) fun v_13 =>
      rec6 x4_10 v_13 s_11)
    fun k_12 =>
    bv (
      bv (
        bv (
          if x4_4 < 1 then
            k_12 x4_4 s_6
          else
            bv (x4_4 + (-1)) fun v_17 =>
            chk (inb 22 v_17) <|
            chk (inb 22 (v_17 + 1)) <|
            bnd (fX4_joined v_9 (Int32.toInt64 (gi s_6 20 (ix v_17))) (Int32.toInt64 (gi s_6 20 (ix (v_17 + 1)))) s_6) fun r_20 s_21 =>
            bnd (fX4_held r_20 s_21) fun r_22 s_23 =>
            bv (si s_23 20 (ix v_17) r_22) fun s_24 =>
            k_12 v_17 s_24)
        fun k_16 =>
        if v_9 = 3 then
          if x4_4 < 0 then
            k_16
          else
            chk (inb 22 x4_4) <|
            bv (si s_6 20 (ix x4_4) (1 - (gi s_6 20 (ix x4_4)))) fun s_26 =>
            k_12 x4_4 s_26
        else
          k_16)
      fun k_15 =>
      if v_9 = 14 then
        if x4_4 < 0 then
          k_15
        else
          chk (inb 22 x4_4) <|
          bv (si s_6 20 (ix x4_4) (-(gi s_6 20 (ix x4_4)))) fun s_28 =>
          k_12 x4_4 s_28
      else
        k_15)
    fun k_14 =>
    if 20000 ≤ v_8 then
      k_14
    else
      if 22 ≤ (x4_4 + 1) then
        k_14
      else
        bv (x4_4 + 1) fun v_29 =>
        bv (fun (y_30 : Int32) (y_31 : Int32) => 
          chk (inb 22 y_30) <|
          bv (si s_6 20 (ix y_30) y_31) fun s_34 =>
          k_12 v_29 s_34)
        fun k_32 =>
        if 10000 ≤ v_8 then
          chk (inb 11 (v_8 - 10000)) <|
          k_32 v_29 (gi s_6 19 (ix (v_8 - 10000)))
        else
          k_32 v_29 v_8
def fX4_valueOf (a1 : Nat) (a2 : Int32) (a3 : Int32) (s0 : Sg) : Option (Int32 × Sg) :=
  bv (fun (x4_1 : Int32) (s_2 : Sg) => 
    if x4_1 = 0 then
      some (gi s_2 20 (ix 0), s_2)
    else
      some (0, s_2))
  fun k_3 =>
  lo3 (fX4_valueOf_6_b a1 a3 k_3) FU (-1) a2 s0
theorem wX4_valueOf_6 {p : Program} {l : Launch} {e : Env} {s : State} {m : MethodId} {args : Array Value} {below : List Frame} {meth : Method} {c : Code} {D : va_G} {ct : Nat → ClassId} {A : Nat → Nat} (C : Cx p m c cX4_valueOf 8 s args yX4_valueOf.cls meth (some .int) D ct A) (a1 : Nat) (h_a1 : isCd a1 = true) (a3 : Int32) (k_3 : Int32 → Sg → Option (Int32 × Sg)) (hk_3 : ∀ (x4_1 : Int32) (s_2 : Sg), Wm p l e (rmD 1) s m args below meth c D ct A 8 embI 191 [(0, .ref (A 6)), (4, .int x4_1)] [] s_2 (k_3 x4_1 s_2)) : ∀ (n : Nat) (x4_4 : Int32) (x5_5 : Int32) (s_6 : Sg), Wm p l e (rmD 1) s m args below meth c D ct A 8 embI 6 [(0, .ref (A 6)), (1, .ref (A a1)), (3, .int a3), (4, .int x4_4), (5, .int x5_5)] [] s_6 (lo3 (fX4_valueOf_6_b a1 a3 k_3) n x4_4 x5_5 s_6) := by
  intro n
  induction n with
  | zero => intro x4_4 x5_5 s_6; exact m_none
  | succ n hrec6 =>
    intro x4_4 x5_5 s_6
    refine (show Wm p l e (rmD 1) s m args below meth c D ct A 8 embI 6 [(0, .ref (A 6)), (1, .ref (A a1)), (3, .int a3), (4, .int x4_4), (5, .int x5_5)] [] s_6 (fX4_valueOf_6_b a1 a3 k_3 (lo3 (fX4_valueOf_6_b a1 a3 k_3) n) x4_4 x5_5 s_6) from ?_)
    generalize lo3 (fX4_valueOf_6_b a1 a3 k_3) n = rec6 at hrec6 ⊢
    unfold fX4_valueOf_6_b
    refine m_iload C dX4_valueOf_6 rfl ?_
    refine m_iload_n C dX4_valueOf_8 rfl ?_
    refine m_icmp_ge (tgt := 191) C dX4_valueOf_9 rfl ?_ ?_
    · refine m_loc (L2 := [(0, .ref (A 6)), (4, .int x4_4)]) [0, 3] rfl ?_
      exact hk_3 x4_4 s_6
    · refine m_aload_n C dX4_valueOf_12 rfl ?_
      refine m_iload C dX4_valueOf_13 rfl ?_
      refine m_chk (fun h_7 => ?_)
      refine m_iald C (lay_cd h_a1) h_7 dX4_valueOf_15 ?_
      refine m_let (fun v_8 => ?_)
      refine m_istore (L2 := [(6, .int v_8), (0, .ref (A 6)), (1, .ref (A a1)), (3, .int a3), (4, .int x4_4), (5, .int x5_5)]) C dX4_valueOf_16 (by decide) rfl ?_
      refine m_iload C dX4_valueOf_18 rfl ?_
      refine m_sipush C dX4_valueOf_20 cs_20000 ?_
      refine m_isub C dX4_valueOf_23 ?_
      refine m_let (fun v_9 => ?_)
      refine m_istore (L2 := [(7, .int v_9), (6, .int v_8), (0, .ref (A 6)), (1, .ref (A a1)), (3, .int a3), (4, .int x4_4), (5, .int x5_5)]) C dX4_valueOf_24 (by decide) rfl ?_
      refine m_iload C dX4_valueOf_26 rfl ?_
      refine m_sipush C dX4_valueOf_28 cs_20000 ?_
      refine m_jn (P := fun (k_12 : Int32 → Sg → Option (Int32 × Sg)) => ∀ (x4_10 : Int32) (s_11 : Sg), Wm p l e (rmD 1) s m args below meth c D ct A 8 embI 185 [(0, .ref (A 6)), (1, .ref (A a1)), (3, .int a3), (4, .int x4_10), (5, .int x5_5)] [] s_11 (k_12 x4_10 s_11)) ?_ (fun k_12 hk_12 => ?_)
      · intro x4_10 s_11
        refine m_iincb (L2 := fun v_13 => [(5, .int v_13), (0, .ref (A 6)), (1, .ref (A a1)), (3, .int a3), (4, .int x4_10)]) (q := 4) C dX4_valueOf_185 rfl ci_1 (by decide) (fun _ => rfl) (fun v_13 => ?_)
        refine m_goto (tgt := 6) C dX4_valueOf_188 rfl ?_
        refine m_loc (L2 := [(0, .ref (A 6)), (1, .ref (A a1)), (3, .int a3), (4, .int x4_10), (5, .int v_13)]) [1, 2, 3, 4, 0] rfl ?_
        exact hrec6 x4_10 v_13 s_11
      refine m_jn (P := fun (k_14 : Option (Int32 × Sg)) => Wm p l e (rmD 1) s m args below meth c D ct A 8 embI 83 [(0, .ref (A 6)), (1, .ref (A a1)), (3, .int a3), (4, .int x4_4), (5, .int x5_5), (7, .int v_9)] [] s_6 (k_14)) ?_ (fun k_14 hk_14 => ?_)
      · refine m_iload C dX4_valueOf_83 rfl ?_
        refine m_bipush C dX4_valueOf_85 cb_14 ?_
        refine m_jn (P := fun (k_15 : Option (Int32 × Sg)) => Wm p l e (rmD 1) s m args below meth c D ct A 8 embI 113 [(0, .ref (A 6)), (1, .ref (A a1)), (3, .int a3), (4, .int x4_4), (5, .int x5_5), (7, .int v_9)] [] s_6 (k_15)) ?_ (fun k_15 hk_15 => ?_)
        · refine m_iload C dX4_valueOf_113 rfl ?_
          refine m_iconst C dX4_valueOf_115 ci_3 ?_
          refine m_jn (P := fun (k_16 : Option (Int32 × Sg)) => Wm p l e (rmD 1) s m args below meth c D ct A 8 embI 143 [(0, .ref (A 6)), (1, .ref (A a1)), (3, .int a3), (4, .int x4_4), (5, .int x5_5), (7, .int v_9)] [] s_6 (k_16)) ?_ (fun k_16 hk_16 => ?_)
          · refine m_iload C dX4_valueOf_143 rfl ?_
            refine m_iconst C dX4_valueOf_145 ci_1 ?_
            refine m_icmp_lt (tgt := 185) C dX4_valueOf_146 rfl ?_ ?_
            · refine m_loc (L2 := [(0, .ref (A 6)), (1, .ref (A a1)), (3, .int a3), (4, .int x4_4), (5, .int x5_5)]) [0, 1, 2, 3, 4] rfl ?_
              exact hk_12 x4_4 s_6
            · refine m_iincb (L2 := fun v_17 => [(4, .int v_17), (0, .ref (A 6)), (1, .ref (A a1)), (3, .int a3), (5, .int x5_5), (7, .int v_9)]) (q := 3) C dX4_valueOf_149 rfl ci_m1 (by decide) (fun _ => rfl) (fun v_17 => ?_)
              refine m_aload_n C dX4_valueOf_152 rfl ?_
              refine m_get (v := .ref (A 20)) C fl_X4_15_4 rfl (by decide) rfl dX4_valueOf_153 ?_
              refine m_iload C dX4_valueOf_156 rfl ?_
              refine m_iload C dX4_valueOf_158 rfl ?_
              refine m_aload_n C dX4_valueOf_160 rfl ?_
              refine m_get (v := .ref (A 20)) C fl_X4_15_4 rfl (by decide) rfl dX4_valueOf_161 ?_
              refine m_iload C dX4_valueOf_164 rfl ?_
              refine m_chk (fun h_18 => ?_)
              refine m_iald C rfl h_18 dX4_valueOf_166 ?_
              refine m_i2l C dX4_valueOf_167 ?_
              refine m_aload_n C dX4_valueOf_168 rfl ?_
              refine m_get (v := .ref (A 20)) C fl_X4_15_4 rfl (by decide) rfl dX4_valueOf_169 ?_
              refine m_iload C dX4_valueOf_172 rfl ?_
              refine m_iconst C dX4_valueOf_174 ci_1 ?_
              refine m_iadd C dX4_valueOf_175 ?_
              refine m_chk (fun h_19 => ?_)
              refine m_iald C rfl h_19 dX4_valueOf_176 ?_
              refine m_i2l C dX4_valueOf_177 ?_
              refine m_callSL C ml_X4_88 ⟨Nat.le_of_ble_eq_true rfl, Nat.le_of_ble_eq_true rfl⟩ [.int v_9, .long (Int32.toInt64 (gi s_6 20 (ix v_17))), .long (Int32.toInt64 (gi s_6 20 (ix (v_17 + 1))))] [.int v_17, .ref (A 20)] rfl rfl (Nat.le_of_ble_eq_true rfl) dX4_valueOf_178 (fun o ho => kX4_joined l D ct A v_9 (Int32.toInt64 (gi s_6 20 (ix v_17))) (Int32.toInt64 (gi s_6 20 (ix (v_17 + 1)))) s_6 o ho) (fun r_20 s_21 => ?_)
              refine m_callSI C ml_X4_75 ⟨Nat.le_of_ble_eq_true rfl, Nat.le_of_ble_eq_true rfl⟩ [.long r_20] [.int v_17, .ref (A 20)] rfl rfl (Nat.le_of_ble_eq_true rfl) dX4_valueOf_181 (fun o ho => kX4_held l D ct A r_20 s_21 o ho) (fun r_22 s_23 => ?_)
              refine m_iast C rfl h_18 dX4_valueOf_184 (fun s_24 => ?_)
              refine m_loc (L2 := [(0, .ref (A 6)), (1, .ref (A a1)), (3, .int a3), (4, .int v_17), (5, .int x5_5)]) [1, 2, 3, 0, 4] rfl ?_
              exact hk_12 v_17 s_24
          refine m_icmp_ne (tgt := 143) C dX4_valueOf_116 rfl ?_ ?_
          · refine m_loc (L2 := [(0, .ref (A 6)), (1, .ref (A a1)), (3, .int a3), (4, .int x4_4), (5, .int x5_5), (7, .int v_9)]) [0, 1, 2, 3, 4, 5] rfl ?_
            exact hk_16
          · refine m_iload C dX4_valueOf_119 rfl ?_
            refine m_if_lt (tgt := 143) C dX4_valueOf_121 rfl ?_ ?_
            · refine m_loc (L2 := [(0, .ref (A 6)), (1, .ref (A a1)), (3, .int a3), (4, .int x4_4), (5, .int x5_5), (7, .int v_9)]) [0, 1, 2, 3, 4, 5] rfl ?_
              exact hk_16
            · refine m_aload_n C dX4_valueOf_124 rfl ?_
              refine m_get (v := .ref (A 20)) C fl_X4_15_4 rfl (by decide) rfl dX4_valueOf_125 ?_
              refine m_iload C dX4_valueOf_128 rfl ?_
              refine m_iconst C dX4_valueOf_130 ci_1 ?_
              refine m_aload_n C dX4_valueOf_131 rfl ?_
              refine m_get (v := .ref (A 20)) C fl_X4_15_4 rfl (by decide) rfl dX4_valueOf_132 ?_
              refine m_iload C dX4_valueOf_135 rfl ?_
              refine m_chk (fun h_25 => ?_)
              refine m_iald C rfl h_25 dX4_valueOf_137 ?_
              refine m_isub C dX4_valueOf_138 ?_
              refine m_iast C rfl h_25 dX4_valueOf_139 (fun s_26 => ?_)
              refine m_goto (tgt := 185) C dX4_valueOf_140 rfl ?_
              refine m_loc (L2 := [(0, .ref (A 6)), (1, .ref (A a1)), (3, .int a3), (4, .int x4_4), (5, .int x5_5)]) [0, 1, 2, 3, 4] rfl ?_
              exact hk_12 x4_4 s_26
        refine m_icmp_ne (tgt := 113) C dX4_valueOf_87 rfl ?_ ?_
        · refine m_loc (L2 := [(0, .ref (A 6)), (1, .ref (A a1)), (3, .int a3), (4, .int x4_4), (5, .int x5_5), (7, .int v_9)]) [0, 1, 2, 3, 4, 5] rfl ?_
          exact hk_15
        · refine m_iload C dX4_valueOf_90 rfl ?_
          refine m_if_lt (tgt := 113) C dX4_valueOf_92 rfl ?_ ?_
          · refine m_loc (L2 := [(0, .ref (A 6)), (1, .ref (A a1)), (3, .int a3), (4, .int x4_4), (5, .int x5_5), (7, .int v_9)]) [0, 1, 2, 3, 4, 5] rfl ?_
            exact hk_15
          · refine m_aload_n C dX4_valueOf_95 rfl ?_
            refine m_get (v := .ref (A 20)) C fl_X4_15_4 rfl (by decide) rfl dX4_valueOf_96 ?_
            refine m_iload C dX4_valueOf_99 rfl ?_
            refine m_aload_n C dX4_valueOf_101 rfl ?_
            refine m_get (v := .ref (A 20)) C fl_X4_15_4 rfl (by decide) rfl dX4_valueOf_102 ?_
            refine m_iload C dX4_valueOf_105 rfl ?_
            refine m_chk (fun h_27 => ?_)
            refine m_iald C rfl h_27 dX4_valueOf_107 ?_
            refine m_ineg C dX4_valueOf_108 ?_
            refine m_iast C rfl h_27 dX4_valueOf_109 (fun s_28 => ?_)
            refine m_goto (tgt := 185) C dX4_valueOf_110 rfl ?_
            refine m_loc (L2 := [(0, .ref (A 6)), (1, .ref (A a1)), (3, .int a3), (4, .int x4_4), (5, .int x5_5)]) [0, 1, 2, 3, 4] rfl ?_
            exact hk_12 x4_4 s_28
      refine m_icmp_ge (tgt := 83) C dX4_valueOf_31 rfl ?_ ?_
      · refine m_loc (L2 := [(0, .ref (A 6)), (1, .ref (A a1)), (3, .int a3), (4, .int x4_4), (5, .int x5_5), (7, .int v_9)]) [2, 3, 4, 5, 6, 0] rfl ?_
        exact hk_14
      · refine m_iload C dX4_valueOf_34 rfl ?_
        refine m_iconst C dX4_valueOf_36 ci_1 ?_
        refine m_iadd C dX4_valueOf_37 ?_
        refine m_aload_n C dX4_valueOf_38 rfl ?_
        refine m_get (v := .ref (A 20)) C fl_X4_15_4 rfl (by decide) rfl dX4_valueOf_39 ?_
        refine m_alen (v := 22) C rfl (by decide) rfl (by decide +kernel) dX4_valueOf_42 ?_
        refine m_icmp_ge (tgt := 83) C dX4_valueOf_43 rfl ?_ ?_
        · refine m_loc (L2 := [(0, .ref (A 6)), (1, .ref (A a1)), (3, .int a3), (4, .int x4_4), (5, .int x5_5), (7, .int v_9)]) [2, 3, 4, 5, 6, 0] rfl ?_
          exact hk_14
        · refine m_iincb (L2 := fun v_29 => [(4, .int v_29), (7, .int v_9), (6, .int v_8), (0, .ref (A 6)), (1, .ref (A a1)), (3, .int a3), (5, .int x5_5)]) (q := 5) C dX4_valueOf_46 rfl ci_1 (by decide) (fun _ => rfl) (fun v_29 => ?_)
          refine m_aload_n C dX4_valueOf_49 rfl ?_
          refine m_get (v := .ref (A 20)) C fl_X4_15_4 rfl (by decide) rfl dX4_valueOf_50 ?_
          refine m_iload C dX4_valueOf_53 rfl ?_
          refine m_iload C dX4_valueOf_55 rfl ?_
          refine m_sipush C dX4_valueOf_57 cs_10000 ?_
          refine m_jn (P := fun (k_32 : Int32 → Int32 → Option (Int32 × Sg)) => ∀ (y_30 : Int32) (y_31 : Int32), Wm p l e (rmD 1) s m args below meth c D ct A 8 embI 79 [(0, .ref (A 6)), (1, .ref (A a1)), (3, .int a3), (4, .int v_29), (5, .int x5_5)] [.int y_31, .int y_30, .ref (A 20)] s_6 (k_32 y_30 y_31)) ?_ (fun k_32 hk_32 => ?_)
          · intro y_30 y_31
            refine m_chk (fun h_33 => ?_)
            refine m_iast C rfl h_33 dX4_valueOf_79 (fun s_34 => ?_)
            refine m_goto (tgt := 185) C dX4_valueOf_80 rfl ?_
            refine m_loc (L2 := [(0, .ref (A 6)), (1, .ref (A a1)), (3, .int a3), (4, .int v_29), (5, .int x5_5)]) [0, 1, 2, 3, 4] rfl ?_
            exact hk_12 v_29 s_34
          refine m_icmp_ge (tgt := 68) C dX4_valueOf_60 rfl ?_ ?_
          · refine m_aload_n C dX4_valueOf_68 rfl ?_
            refine m_get (v := .ref (A 19)) C fl_X4_9_4 rfl (by decide) rfl dX4_valueOf_69 ?_
            refine m_iload C dX4_valueOf_72 rfl ?_
            refine m_sipush C dX4_valueOf_74 cs_10000 ?_
            refine m_isub C dX4_valueOf_77 ?_
            refine m_chk (fun h_35 => ?_)
            refine m_iald C rfl h_35 dX4_valueOf_78 ?_
            refine m_loc (L2 := [(0, .ref (A 6)), (1, .ref (A a1)), (3, .int a3), (4, .int v_29), (5, .int x5_5)]) [3, 4, 5, 0, 6] rfl ?_
            exact hk_32 v_29 (gi s_6 19 (ix (v_8 - 10000)))
          · refine m_iload C dX4_valueOf_63 rfl ?_
            refine m_goto (tgt := 79) C dX4_valueOf_65 rfl ?_
            refine m_loc (L2 := [(0, .ref (A 6)), (1, .ref (A a1)), (3, .int a3), (4, .int v_29), (5, .int x5_5)]) [3, 4, 5, 0, 6] rfl ?_
            exact hk_32 v_29 v_8
theorem kX4_valueOf (l : Launch) (D : va_G) (ct : Nat → ClassId) (A : Nat → Nat) (a1 : Nat) (a2 : Int32) (a3 : Int32) (h_a1 : isCd a1 = true) (s0 : Sg) (o : Int32 × Sg) (ho : fX4_valueOf a1 a2 a3 s0 = some o) : Con l yX4_valueOf cX4_valueOf 8 (some .int) 1 D ct A [.ref (A 6), .ref (A a1), .int a2, .int a3] s0 (embI o) := by
  refine con_start (by decide +kernel) (Nat.le_of_ble_eq_true rfl) ho (fun p e s m args below meth c C => ?_)
  refine m_loc (L2 := [(0, .ref (A 6)), (1, .ref (A a1)), (2, .int a2), (3, .int a3)]) [0, 1, 2, 3] rfl ?_
  unfold fX4_valueOf
  refine m_iconst C dX4_valueOf_0 ci_m1 ?_
  refine m_istore (L2 := [(4, .int (-1)), (0, .ref (A 6)), (1, .ref (A a1)), (2, .int a2), (3, .int a3)]) C dX4_valueOf_1 (by decide) rfl ?_
  refine m_iload_n C dX4_valueOf_3 rfl ?_
  refine m_istore (L2 := [(5, .int a2), (4, .int (-1)), (0, .ref (A 6)), (1, .ref (A a1)), (2, .int a2), (3, .int a3)]) C dX4_valueOf_4 (by decide) rfl ?_
  refine m_jn (P := fun (k_3 : Int32 → Sg → Option (Int32 × Sg)) => ∀ (x4_1 : Int32) (s_2 : Sg), Wm p l e (rmD 1) s m args below meth c D ct A 8 embI 191 [(0, .ref (A 6)), (4, .int x4_1)] [] s_2 (k_3 x4_1 s_2)) ?_ (fun k_3 hk_3 => ?_)
  · intro x4_1 s_2
    refine m_iload C dX4_valueOf_191 rfl ?_
    refine m_if_ne (tgt := 205) C dX4_valueOf_193 rfl ?_ ?_
    · refine m_iconst C dX4_valueOf_205 ci_0 ?_
      exact m_iret C dX4_valueOf_206
    · refine m_aload_n C dX4_valueOf_196 rfl ?_
      refine m_get (v := .ref (A 20)) C fl_X4_15_4 rfl (by decide) rfl dX4_valueOf_197 ?_
      refine m_iconst C dX4_valueOf_200 ci_0 ?_
      refine m_iald C rfl (by decide +kernel) dX4_valueOf_201 ?_
      refine m_goto (tgt := 206) C dX4_valueOf_202 rfl ?_
      exact m_iret C dX4_valueOf_206
  refine m_loc (L2 := [(0, .ref (A 6)), (1, .ref (A a1)), (3, .int a3), (4, .int (-1)), (5, .int a2)]) [2, 3, 5, 1, 0] rfl ?_
  exact wX4_valueOf_6 C a1 h_a1 a3 k_3 hk_3 FU (-1) a2 s0
