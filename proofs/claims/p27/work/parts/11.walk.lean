def fX9_forget (s0 : Sg) : Option (Int32 × Sg) :=
  bv (gi s0 1 17) fun v_1 =>
  bv (si s0 1 17 0) fun s_2 =>
  some (v_1, s_2)
theorem kX9_forget (l : Launch) (D : va_G) (ct : Nat → ClassId) (A : Nat → Nat) (s0 : Sg) (o : Int32 × Sg) (ho : fX9_forget s0 = some o) : Con l yX9_forget cX9_forget 2 (some .int) 0 D ct A [.ref (A 0)] s0 (embI o) := by
  refine con_start (by decide +kernel) (Nat.le_of_ble_eq_true rfl) ho (fun p e s m args below meth c C => ?_)
  refine m_loc (L2 := [(0, .ref (A 0))]) [0] rfl ?_
  unfold fX9_forget
  refine m_aload_n C dX9_forget_0 rfl ?_
  refine m_get (v := .ref (A 1)) C fl_X9_10_8 rfl (by decide) rfl dX9_forget_1 ?_
  refine m_get (v := .int (gi s0 1 17)) C fl_X9_215_6 rfl (by decide) rfl dX9_forget_4 ?_
  refine m_let (fun v_1 => ?_)
  refine m_istore_n (L2 := [(1, .int v_1), (0, .ref (A 0))]) C dX9_forget_7 rfl (by decide) rfl ?_
  refine m_aload_n C dX9_forget_8 rfl ?_
  refine m_get (v := .ref (A 1)) C fl_X9_10_8 rfl (by decide) rfl dX9_forget_9 ?_
  refine m_iconst C dX9_forget_12 ci_0 ?_
  refine m_puti C fl_X9_215_6 fw_6_17 rfl (by decide) rfl dX9_forget_13 (fun s_2 => ?_)
  refine m_iload_n C dX9_forget_16 rfl ?_
  exact m_iret C dX9_forget_17
def fX9_about (a1 : Int32) (s0 : Sg) : Option (Int32 × Sg) :=
  if a1 = 0 then
    some (gi s0 1 6, s0)
  else
    if a1 = 1 then
      some (gi s0 1 0, s0)
    else
      if a1 = 2 then
        some (gi s0 1 1, s0)
      else
        if a1 = 3 then
          some (gi s0 1 2, s0)
        else
          if a1 = 4 then
            some (gi s0 1 3, s0)
          else
            if a1 = 5 then
              some (gi s0 1 4, s0)
            else
              if a1 = 6 then
                some (gi s0 1 5, s0)
              else
                if a1 = 7 then
                  some (gi s0 1 11, s0)
                else
                  if a1 = 8 then
                    some (gi s0 1 12, s0)
                  else
                    if a1 = 9 then
                      some (gi s0 1 15, s0)
                    else
                      if a1 = 10 then
                        some (gi s0 1 17, s0)
                      else
                        if a1 = 11 then
                          some (gi s0 3 1, s0)
                        else
                          if a1 = 12 then
                            some (gi s0 1 9, s0)
                          else
                            if a1 = 13 then
                              some (gi s0 1 10, s0)
                            else
                              some ((-100), s0)
theorem kX9_about (l : Launch) (D : va_G) (ct : Nat → ClassId) (A : Nat → Nat) (a1 : Int32) (s0 : Sg) (o : Int32 × Sg) (ho : fX9_about a1 s0 = some o) : Con l yX9_about cX9_about 2 (some .int) 0 D ct A [.ref (A 0), .int a1] s0 (embI o) := by
  refine con_start (by decide +kernel) (Nat.le_of_ble_eq_true rfl) ho (fun p e s m args below meth c C => ?_)
  refine m_loc (L2 := [(0, .ref (A 0)), (1, .int a1)]) [0, 1] rfl ?_
  unfold fX9_about
  refine m_iload_n C dX9_about_0 rfl ?_
  refine m_tbl (n := 0) C dX9_about_1 0 71 72 (by decide +kernel) ?_ (fun h_1 => ?_)
  · refine m_aload_n C dX9_about_72 rfl ?_
    refine m_get (v := .ref (A 1)) C fl_X9_10_8 rfl (by decide) rfl dX9_about_73 ?_
    refine m_get (v := .int (gi s0 1 6)) C fl_X9_77_6 rfl (by decide) rfl dX9_about_76 ?_
    refine m_goto (tgt := 214) C dX9_about_79 rfl ?_
    exact m_iret C dX9_about_214
  · refine m_tbl (n := 0) C dX9_about_1 1 81 82 (by decide +kernel) ?_ (fun h_2 => ?_)
    · refine m_aload_n C dX9_about_82 rfl ?_
      refine m_get (v := .ref (A 1)) C fl_X9_10_8 rfl (by decide) rfl dX9_about_83 ?_
      refine m_get (v := .int (gi s0 1 0)) C fl_X9_67_6 rfl (by decide) rfl dX9_about_86 ?_
      refine m_goto (tgt := 214) C dX9_about_89 rfl ?_
      exact m_iret C dX9_about_214
    · refine m_tbl (n := 0) C dX9_about_1 2 91 92 (by decide +kernel) ?_ (fun h_3 => ?_)
      · refine m_aload_n C dX9_about_92 rfl ?_
        refine m_get (v := .ref (A 1)) C fl_X9_10_8 rfl (by decide) rfl dX9_about_93 ?_
        refine m_get (v := .int (gi s0 1 1)) C fl_X9_71_6 rfl (by decide) rfl dX9_about_96 ?_
        refine m_goto (tgt := 214) C dX9_about_99 rfl ?_
        exact m_iret C dX9_about_214
      · refine m_tbl (n := 0) C dX9_about_1 3 101 102 (by decide +kernel) ?_ (fun h_4 => ?_)
        · refine m_aload_n C dX9_about_102 rfl ?_
          refine m_get (v := .ref (A 1)) C fl_X9_10_8 rfl (by decide) rfl dX9_about_103 ?_
          refine m_get (v := .int (gi s0 1 2)) C fl_X9_74_6 rfl (by decide) rfl dX9_about_106 ?_
          refine m_goto (tgt := 214) C dX9_about_109 rfl ?_
          exact m_iret C dX9_about_214
        · refine m_tbl (n := 0) C dX9_about_1 4 111 112 (by decide +kernel) ?_ (fun h_5 => ?_)
          · refine m_aload_n C dX9_about_112 rfl ?_
            refine m_get (v := .ref (A 1)) C fl_X9_10_8 rfl (by decide) rfl dX9_about_113 ?_
            refine m_get (v := .int (gi s0 1 3)) C fl_X9_87_6 rfl (by decide) rfl dX9_about_116 ?_
            refine m_goto (tgt := 214) C dX9_about_119 rfl ?_
            exact m_iret C dX9_about_214
          · refine m_tbl (n := 0) C dX9_about_1 5 121 122 (by decide +kernel) ?_ (fun h_6 => ?_)
            · refine m_aload_n C dX9_about_122 rfl ?_
              refine m_get (v := .ref (A 1)) C fl_X9_10_8 rfl (by decide) rfl dX9_about_123 ?_
              refine m_get (v := .int (gi s0 1 4)) C fl_X9_90_6 rfl (by decide) rfl dX9_about_126 ?_
              refine m_goto (tgt := 214) C dX9_about_129 rfl ?_
              exact m_iret C dX9_about_214
            · refine m_tbl (n := 0) C dX9_about_1 6 131 132 (by decide +kernel) ?_ (fun h_7 => ?_)
              · refine m_aload_n C dX9_about_132 rfl ?_
                refine m_get (v := .ref (A 1)) C fl_X9_10_8 rfl (by decide) rfl dX9_about_133 ?_
                refine m_get (v := .int (gi s0 1 5)) C fl_X9_93_6 rfl (by decide) rfl dX9_about_136 ?_
                refine m_goto (tgt := 214) C dX9_about_139 rfl ?_
                exact m_iret C dX9_about_214
              · refine m_tbl (n := 0) C dX9_about_1 7 141 142 (by decide +kernel) ?_ (fun h_8 => ?_)
                · refine m_aload_n C dX9_about_142 rfl ?_
                  refine m_get (v := .ref (A 1)) C fl_X9_10_8 rfl (by decide) rfl dX9_about_143 ?_
                  refine m_get (v := .int (gi s0 1 11)) C fl_X9_103_6 rfl (by decide) rfl dX9_about_146 ?_
                  refine m_goto (tgt := 214) C dX9_about_149 rfl ?_
                  exact m_iret C dX9_about_214
                · refine m_tbl (n := 0) C dX9_about_1 8 151 152 (by decide +kernel) ?_ (fun h_9 => ?_)
                  · refine m_aload_n C dX9_about_152 rfl ?_
                    refine m_get (v := .ref (A 1)) C fl_X9_10_8 rfl (by decide) rfl dX9_about_153 ?_
                    refine m_get (v := .int (gi s0 1 12)) C fl_X9_120_6 rfl (by decide) rfl dX9_about_156 ?_
                    refine m_goto (tgt := 214) C dX9_about_159 rfl ?_
                    exact m_iret C dX9_about_214
                  · refine m_tbl (n := 0) C dX9_about_1 9 161 162 (by decide +kernel) ?_ (fun h_10 => ?_)
                    · refine m_aload_n C dX9_about_162 rfl ?_
                      refine m_get (v := .ref (A 1)) C fl_X9_10_8 rfl (by decide) rfl dX9_about_163 ?_
                      refine m_get (v := .int (gi s0 1 15)) C fl_X9_163_6 rfl (by decide) rfl dX9_about_166 ?_
                      refine m_goto (tgt := 214) C dX9_about_169 rfl ?_
                      exact m_iret C dX9_about_214
                    · refine m_tbl (n := 0) C dX9_about_1 10 171 172 (by decide +kernel) ?_ (fun h_11 => ?_)
                      · refine m_aload_n C dX9_about_172 rfl ?_
                        refine m_get (v := .ref (A 1)) C fl_X9_10_8 rfl (by decide) rfl dX9_about_173 ?_
                        refine m_get (v := .int (gi s0 1 17)) C fl_X9_215_6 rfl (by decide) rfl dX9_about_176 ?_
                        refine m_goto (tgt := 214) C dX9_about_179 rfl ?_
                        exact m_iret C dX9_about_214
                      · refine m_tbl (n := 0) C dX9_about_1 11 181 182 (by decide +kernel) ?_ (fun h_12 => ?_)
                        · refine m_aload_n C dX9_about_182 rfl ?_
                          refine m_get (v := .ref (A 3)) C fl_X9_22_8 rfl (by decide) rfl dX9_about_183 ?_
                          refine m_get (v := .int (gi s0 3 1)) C fl_X9_96_7 rfl (by decide) rfl dX9_about_186 ?_
                          refine m_goto (tgt := 214) C dX9_about_189 rfl ?_
                          exact m_iret C dX9_about_214
                        · refine m_tbl (n := 0) C dX9_about_1 12 191 192 (by decide +kernel) ?_ (fun h_13 => ?_)
                          · refine m_aload_n C dX9_about_192 rfl ?_
                            refine m_get (v := .ref (A 1)) C fl_X9_10_8 rfl (by decide) rfl dX9_about_193 ?_
                            refine m_get (v := .int (gi s0 1 9)) C fl_X9_258_6 rfl (by decide) rfl dX9_about_196 ?_
                            refine m_goto (tgt := 214) C dX9_about_199 rfl ?_
                            exact m_iret C dX9_about_214
                          · refine m_tbl (n := 0) C dX9_about_1 13 201 202 (by decide +kernel) ?_ (fun h_14 => ?_)
                            · refine m_aload_n C dX9_about_202 rfl ?_
                              refine m_get (v := .ref (A 1)) C fl_X9_10_8 rfl (by decide) rfl dX9_about_203 ?_
                              refine m_get (v := .int (gi s0 1 10)) C fl_X9_259_6 rfl (by decide) rfl dX9_about_206 ?_
                              refine m_goto (tgt := 214) C dX9_about_209 rfl ?_
                              exact m_iret C dX9_about_214
                            · refine m_tblD C dX9_about_1 212 rfl (tbl_dflt [0, 1, 2, 3, 4, 5, 6, 7, 8, 9, 10, 11, 12, 13] (fun w hw => by simp only [List.mem_cons, List.not_mem_nil, or_false] at hw; rcases hw with rfl | rfl | rfl | rfl | rfl | rfl | rfl | rfl | rfl | rfl | rfl | rfl | rfl | rfl <;> assumption) 13 (by decide) (by decide +kernel)) ?_
                              refine m_bipush C dX9_about_212 cb_m100 ?_
                              exact m_iret C dX9_about_214
def fX9_within (a1 : Int32) (a2 : Int32) (a3 : Int32) (s0 : Sg) : Option (Bool × Sg) :=
  if a1 < a2 then
    some (false, s0)
  else
    if a3 < a1 then
      some (false, s0)
    else
      some (true, s0)
theorem kX9_within (l : Launch) (D : va_G) (ct : Nat → ClassId) (A : Nat → Nat) (a1 : Int32) (a2 : Int32) (a3 : Int32) (s0 : Sg) (o : Bool × Sg) (ho : fX9_within a1 a2 a3 s0 = some o) : Con l yX9_within cX9_within 3 (some .boolean) 0 D ct A [.int a1, .int a2, .int a3] s0 (embZ o) := by
  refine con_start (by decide +kernel) (Nat.le_of_ble_eq_true rfl) ho (fun p e s m args below meth c C => ?_)
  refine m_loc (L2 := [(0, .int a1), (1, .int a2), (2, .int a3)]) [0, 1, 2] rfl ?_
  unfold fX9_within
  refine m_iload_n C dX9_within_0 rfl ?_
  refine m_iload_n C dX9_within_1 rfl ?_
  refine m_icmp_lt (tgt := 14) C dX9_within_2 rfl ?_ ?_
  · refine m_iconst C dX9_within_14 ci_0 ?_
    exact m_zret C false rfl dX9_within_15
  · refine m_iload_n C dX9_within_5 rfl ?_
    refine m_iload_n C dX9_within_6 rfl ?_
    refine m_icmp_gt (tgt := 14) C dX9_within_7 rfl ?_ ?_
    · refine m_iconst C dX9_within_14 ci_0 ?_
      exact m_zret C false rfl dX9_within_15
    · refine m_iconst C dX9_within_10 ci_1 ?_
      refine m_goto (tgt := 15) C dX9_within_11 rfl ?_
      exact m_zret C true rfl dX9_within_15
def fX9_isPan (a1 : Int32) (s0 : Sg) : Option (Bool × Sg) :=
  if a1 = 0 then
    some (true, s0)
  else
    if a1 = 1 then
      some (true, s0)
    else
      some (false, s0)
theorem kX9_isPan (l : Launch) (D : va_G) (ct : Nat → ClassId) (A : Nat → Nat) (a1 : Int32) (s0 : Sg) (o : Bool × Sg) (ho : fX9_isPan a1 s0 = some o) : Con l yX9_isPan cX9_isPan 1 (some .boolean) 0 D ct A [.int a1] s0 (embZ o) := by
  refine con_start (by decide +kernel) (Nat.le_of_ble_eq_true rfl) ho (fun p e s m args below meth c C => ?_)
  refine m_loc (L2 := [(0, .int a1)]) [0] rfl ?_
  unfold fX9_isPan
  refine m_iload_n C dX9_isPan_0 rfl ?_
  refine m_if_eq (tgt := 9) C dX9_isPan_1 rfl ?_ ?_
  · refine m_iconst C dX9_isPan_9 ci_1 ?_
    refine m_goto (tgt := 14) C dX9_isPan_10 rfl ?_
    exact m_zret C true rfl dX9_isPan_14
  · refine m_iload_n C dX9_isPan_4 rfl ?_
    refine m_iconst C dX9_isPan_5 ci_1 ?_
    refine m_icmp_ne (tgt := 13) C dX9_isPan_6 rfl ?_ ?_
    · refine m_iconst C dX9_isPan_13 ci_0 ?_
      exact m_zret C false rfl dX9_isPan_14
    · refine m_iconst C dX9_isPan_9 ci_1 ?_
      refine m_goto (tgt := 14) C dX9_isPan_10 rfl ?_
      exact m_zret C true rfl dX9_isPan_14
def fX9_isText (a1 : Int32) (s0 : Sg) : Option (Bool × Sg) :=
  bnd (fX9_within a1 0 ((gi s0 1 11) - 1) s0) fun r_1 s_2 =>
  some (r_1, s_2)
theorem kX9_isText (l : Launch) (D : va_G) (ct : Nat → ClassId) (A : Nat → Nat) (a1 : Int32) (s0 : Sg) (o : Bool × Sg) (ho : fX9_isText a1 s0 = some o) : Con l yX9_isText cX9_isText 2 (some .boolean) 1 D ct A [.ref (A 0), .int a1] s0 (embZ o) := by
  refine con_start (by decide +kernel) (Nat.le_of_ble_eq_true rfl) ho (fun p e s m args below meth c C => ?_)
  refine m_loc (L2 := [(0, .ref (A 0)), (1, .int a1)]) [0, 1] rfl ?_
  unfold fX9_isText
  refine m_iload_n C dX9_isText_0 rfl ?_
  refine m_iconst C dX9_isText_1 ci_0 ?_
  refine m_aload_n C dX9_isText_2 rfl ?_
  refine m_get (v := .ref (A 1)) C fl_X9_10_8 rfl (by decide) rfl dX9_isText_3 ?_
  refine m_get (v := .int (gi s0 1 11)) C fl_X9_103_6 rfl (by decide) rfl dX9_isText_6 ?_
  refine m_iconst C dX9_isText_9 ci_1 ?_
  refine m_isub C dX9_isText_10 ?_
  refine m_callSZ C ml_X9_63 ⟨Nat.le_of_ble_eq_true rfl, Nat.le_of_ble_eq_true rfl⟩ [.int a1, .int 0, .int ((gi s0 1 11) - 1)] [] rfl rfl (Nat.le_of_ble_eq_true rfl) dX9_isText_11 (fun o ho => kX9_within l D ct A a1 0 ((gi s0 1 11) - 1) s0 o ho) (fun r_1 s_2 => ?_)
  exact m_zret C r_1 rfl dX9_isText_14
def fX9_leaning (a1 : Int32) (a2 : Int32) (s0 : Sg) : Option (Int32 × Sg) :=
  if a1 ≤ a2 then
    if (-a2) ≤ a1 then
      some (0, s0)
    else
      some (2, s0)
  else
    some (1, s0)
theorem kX9_leaning (l : Launch) (D : va_G) (ct : Nat → ClassId) (A : Nat → Nat) (a1 : Int32) (a2 : Int32) (s0 : Sg) (o : Int32 × Sg) (ho : fX9_leaning a1 a2 s0 = some o) : Con l yX9_leaning cX9_leaning 2 (some .int) 0 D ct A [.int a1, .int a2] s0 (embI o) := by
  refine con_start (by decide +kernel) (Nat.le_of_ble_eq_true rfl) ho (fun p e s m args below meth c C => ?_)
  refine m_loc (L2 := [(0, .int a1), (1, .int a2)]) [0, 1] rfl ?_
  unfold fX9_leaning
  refine m_iload_n C dX9_leaning_0 rfl ?_
  refine m_iload_n C dX9_leaning_1 rfl ?_
  refine m_icmp_le (tgt := 7) C dX9_leaning_2 rfl ?_ ?_
  · refine m_iload_n C dX9_leaning_7 rfl ?_
    refine m_iload_n C dX9_leaning_8 rfl ?_
    refine m_ineg C dX9_leaning_9 ?_
    refine m_icmp_ge (tgt := 17) C dX9_leaning_10 rfl ?_ ?_
    · refine m_iconst C dX9_leaning_17 ci_0 ?_
      exact m_iret C dX9_leaning_18
    · refine m_iconst C dX9_leaning_13 ci_2 ?_
      refine m_goto (tgt := 18) C dX9_leaning_14 rfl ?_
      exact m_iret C dX9_leaning_18
  · refine m_iconst C dX9_leaning_5 ci_1 ?_
    exact m_iret C dX9_leaning_6
def fX9_passHours (a1 : Int32) (s0 : Sg) : Option (Bool × Sg) :=
  bnd (fX9_within a1 0 99 s0) fun r_1 s_2 =>
  if (b2i r_1) = 0 then
    some (false, s_2)
  else
    bnv (fX6_keepStep s_2) fun s_3 =>
    bv (si s_3 1 3 (((gi s_3 1 3) + a1) - ((gi s_3 1 3) + a1) / 24 * 24)) fun s_4 =>
    some (true, s_4)
theorem kX9_passHours (l : Launch) (D : va_G) (ct : Nat → ClassId) (A : Nat → Nat) (a1 : Int32) (s0 : Sg) (o : Bool × Sg) (ho : fX9_passHours a1 s0 = some o) : Con l yX9_passHours cX9_passHours 2 (some .boolean) 2 D ct A [.ref (A 0), .int a1] s0 (embZ o) := by
  refine con_start (by decide +kernel) (Nat.le_of_ble_eq_true rfl) ho (fun p e s m args below meth c C => ?_)
  refine m_loc (L2 := [(0, .ref (A 0)), (1, .int a1)]) [0, 1] rfl ?_
  unfold fX9_passHours
  refine m_iload_n C dX9_passHours_0 rfl ?_
  refine m_iconst C dX9_passHours_1 ci_0 ?_
  refine m_bipush C dX9_passHours_2 cb_99 ?_
  refine m_callSZ C ml_X9_63 ⟨Nat.le_of_ble_eq_true rfl, Nat.le_of_ble_eq_true rfl⟩ [.int a1, .int 0, .int 99] [] rfl rfl (Nat.le_of_ble_eq_true rfl) dX9_passHours_4 (fun o ho => kX9_within l D ct A a1 0 99 s0 o ho) (fun r_1 s_2 => ?_)
  refine m_if_ne (tgt := 12) C dX9_passHours_7 rfl ?_ ?_
  · refine m_aload_n C dX9_passHours_12 rfl ?_
    refine m_get (v := .ref (A 1)) C fl_X9_10_8 rfl (by decide) rfl dX9_passHours_13 ?_
    refine m_callVV C ml_X9_276 ⟨Nat.le_of_ble_eq_true rfl, Nat.le_of_ble_eq_true rfl⟩ rfl rfl [] [] rfl rfl (Nat.le_of_ble_eq_true rfl) dX9_passHours_16 (fun o ho => kX6_keepStep l D ct A s_2 o ho) (fun s_3 => ?_)
    refine m_aload_n C dX9_passHours_19 rfl ?_
    refine m_get (v := .ref (A 1)) C fl_X9_10_8 rfl (by decide) rfl dX9_passHours_20 ?_
    refine m_aload_n C dX9_passHours_23 rfl ?_
    refine m_get (v := .ref (A 1)) C fl_X9_10_8 rfl (by decide) rfl dX9_passHours_24 ?_
    refine m_get (v := .int (gi s_3 1 3)) C fl_X9_87_6 rfl (by decide) rfl dX9_passHours_27 ?_
    refine m_iload_n C dX9_passHours_30 rfl ?_
    refine m_iadd C dX9_passHours_31 ?_
    refine m_bipush C dX9_passHours_32 cb_24 ?_
    refine m_irem C dX9_passHours_34 (by decide +kernel) ?_
    refine m_puti C fl_X9_87_6 fw_6_3 rfl (by decide) rfl dX9_passHours_35 (fun s_4 => ?_)
    refine m_iconst C dX9_passHours_38 ci_1 ?_
    exact m_zret C true rfl dX9_passHours_39
  · refine m_iconst C dX9_passHours_10 ci_0 ?_
    exact m_zret C false rfl dX9_passHours_11
def fX10_copy_i_2_b (rec2 : Int32 → Sg → Option (Sg)) (x2_1 : Int32) (s_2 : Sg) : Option (Sg) :=
  if 720 ≤ x2_1 then
    some s_2
  else
    chk (inb 720 x2_1) <|
    bv (si s_2 29 (ix x2_1) (gi s_2 28 (ix x2_1))) fun s_4 =>
    bv (x2_1 + 1) fun v_5 =>
    rec2 v_5 s_4
def fX10_copy_i (s0 : Sg) : Option (Sg) :=
  lo2 (fX10_copy_i_2_b) FU 0 s0
theorem wX10_copy_i_2 {p : Program} {l : Launch} {e : Env} {s : State} {m : MethodId} {args : Array Value} {below : List Frame} {meth : Method} {c : Code} {D : va_G} {ct : Nat → ClassId} {A : Nat → Nat} (C : Cx p m c cX10_copy 3 s args yX10_copy.cls meth none D ct A) : ∀ (n : Nat) (x2_1 : Int32) (s_2 : Sg), Wm p l e (rmD 0) s m args below meth c D ct A 3 embV 2 [(0, .ref (A 28)), (1, .ref (A 29)), (2, .int x2_1)] [] s_2 (lo2 (fX10_copy_i_2_b) n x2_1 s_2) := by
  intro n
  induction n with
  | zero => intro x2_1 s_2; exact m_none
  | succ n hrec2 =>
    intro x2_1 s_2
    refine (show Wm p l e (rmD 0) s m args below meth c D ct A 3 embV 2 [(0, .ref (A 28)), (1, .ref (A 29)), (2, .int x2_1)] [] s_2 (fX10_copy_i_2_b (lo2 (fX10_copy_i_2_b) n) x2_1 s_2) from ?_)
    generalize lo2 (fX10_copy_i_2_b) n = rec2 at hrec2 ⊢
    unfold fX10_copy_i_2_b
    refine m_iload_n C dX10_copy_2 rfl ?_
    refine m_sipush C dX10_copy_3 cs_720 ?_
    refine m_icmp_ge (tgt := 21) C dX10_copy_6 rfl ?_ ?_
    · exact m_vret C dX10_copy_21
    · refine m_aload_n C dX10_copy_9 rfl ?_
      refine m_iload_n C dX10_copy_10 rfl ?_
      refine m_aload_n C dX10_copy_11 rfl ?_
      refine m_iload_n C dX10_copy_12 rfl ?_
      refine m_chk (fun h_3 => ?_)
      refine m_iald C rfl h_3 dX10_copy_13 ?_
      refine m_iast C rfl h_3 dX10_copy_14 (fun s_4 => ?_)
      refine m_iincb (L2 := fun v_5 => [(2, .int v_5), (0, .ref (A 28)), (1, .ref (A 29))]) (q := 2) C dX10_copy_15 rfl ci_1 (by decide) (fun _ => rfl) (fun v_5 => ?_)
      refine m_goto (tgt := 2) C dX10_copy_18 rfl ?_
      refine m_loc (L2 := [(0, .ref (A 28)), (1, .ref (A 29)), (2, .int v_5)]) [1, 2, 0] rfl ?_
      exact hrec2 v_5 s_4
theorem kX10_copy_i (l : Launch) (D : va_G) (ct : Nat → ClassId) (A : Nat → Nat) (s0 : Sg) (o : Sg) (ho : fX10_copy_i s0 = some o) : Con l yX10_copy cX10_copy 3 none 0 D ct A [.ref (A 28), .ref (A 29)] s0 (embV o) := by
  refine con_start (by decide +kernel) (Nat.le_of_ble_eq_true rfl) ho (fun p e s m args below meth c C => ?_)
  refine m_loc (L2 := [(0, .ref (A 28)), (1, .ref (A 29))]) [0, 1] rfl ?_
  unfold fX10_copy_i
  refine m_iconst C dX10_copy_0 ci_0 ?_
  refine m_istore_n (L2 := [(2, .int 0), (0, .ref (A 28)), (1, .ref (A 29))]) C dX10_copy_1 rfl (by decide) rfl ?_
  refine m_loc (L2 := [(0, .ref (A 28)), (1, .ref (A 29)), (2, .int 0)]) [1, 2, 0] rfl ?_
  exact wX10_copy_i_2 C FU 0 s0
def fX10_copy_b_2_b (rec2 : Int32 → Sg → Option (Sg)) (x2_1 : Int32) (s_2 : Sg) : Option (Sg) :=
  if 720 ≤ x2_1 then
    some s_2
  else
    chk (inb 720 x2_1) <|
    bv (si s_2 28 (ix x2_1) (gi s_2 29 (ix x2_1))) fun s_4 =>
    bv (x2_1 + 1) fun v_5 =>
    rec2 v_5 s_4
def fX10_copy_b (s0 : Sg) : Option (Sg) :=
  lo2 (fX10_copy_b_2_b) FU 0 s0
theorem wX10_copy_b_2 {p : Program} {l : Launch} {e : Env} {s : State} {m : MethodId} {args : Array Value} {below : List Frame} {meth : Method} {c : Code} {D : va_G} {ct : Nat → ClassId} {A : Nat → Nat} (C : Cx p m c cX10_copy 3 s args yX10_copy.cls meth none D ct A) : ∀ (n : Nat) (x2_1 : Int32) (s_2 : Sg), Wm p l e (rmD 0) s m args below meth c D ct A 3 embV 2 [(0, .ref (A 29)), (1, .ref (A 28)), (2, .int x2_1)] [] s_2 (lo2 (fX10_copy_b_2_b) n x2_1 s_2) := by
  intro n
  induction n with
  | zero => intro x2_1 s_2; exact m_none
  | succ n hrec2 =>
    intro x2_1 s_2
    refine (show Wm p l e (rmD 0) s m args below meth c D ct A 3 embV 2 [(0, .ref (A 29)), (1, .ref (A 28)), (2, .int x2_1)] [] s_2 (fX10_copy_b_2_b (lo2 (fX10_copy_b_2_b) n) x2_1 s_2) from ?_)
    generalize lo2 (fX10_copy_b_2_b) n = rec2 at hrec2 ⊢
    unfold fX10_copy_b_2_b
    refine m_iload_n C dX10_copy_2 rfl ?_
    refine m_sipush C dX10_copy_3 cs_720 ?_
    refine m_icmp_ge (tgt := 21) C dX10_copy_6 rfl ?_ ?_
    · exact m_vret C dX10_copy_21
    · refine m_aload_n C dX10_copy_9 rfl ?_
      refine m_iload_n C dX10_copy_10 rfl ?_
      refine m_aload_n C dX10_copy_11 rfl ?_
      refine m_iload_n C dX10_copy_12 rfl ?_
      refine m_chk (fun h_3 => ?_)
      refine m_iald C rfl h_3 dX10_copy_13 ?_
      refine m_iast C rfl h_3 dX10_copy_14 (fun s_4 => ?_)
      refine m_iincb (L2 := fun v_5 => [(2, .int v_5), (0, .ref (A 29)), (1, .ref (A 28))]) (q := 2) C dX10_copy_15 rfl ci_1 (by decide) (fun _ => rfl) (fun v_5 => ?_)
      refine m_goto (tgt := 2) C dX10_copy_18 rfl ?_
      refine m_loc (L2 := [(0, .ref (A 29)), (1, .ref (A 28)), (2, .int v_5)]) [1, 2, 0] rfl ?_
      exact hrec2 v_5 s_4
theorem kX10_copy_b (l : Launch) (D : va_G) (ct : Nat → ClassId) (A : Nat → Nat) (s0 : Sg) (o : Sg) (ho : fX10_copy_b s0 = some o) : Con l yX10_copy cX10_copy 3 none 0 D ct A [.ref (A 29), .ref (A 28)] s0 (embV o) := by
  refine con_start (by decide +kernel) (Nat.le_of_ble_eq_true rfl) ho (fun p e s m args below meth c C => ?_)
  refine m_loc (L2 := [(0, .ref (A 29)), (1, .ref (A 28))]) [0, 1] rfl ?_
  unfold fX10_copy_b
  refine m_iconst C dX10_copy_0 ci_0 ?_
  refine m_istore_n (L2 := [(2, .int 0), (0, .ref (A 29)), (1, .ref (A 28))]) C dX10_copy_1 rfl (by decide) rfl ?_
  refine m_loc (L2 := [(0, .ref (A 29)), (1, .ref (A 28)), (2, .int 0)]) [1, 2, 0] rfl ?_
  exact wX10_copy_b_2 C FU 0 s0
def fX10_isIn (a1 : Int32) (a2 : Int32) (a3 : Int32) (s0 : Sg) : Option (Bool × Sg) :=
  if a1 < a2 then
    some (false, s0)
  else
    if a3 < a1 then
      some (false, s0)
    else
      some (true, s0)
theorem kX10_isIn (l : Launch) (D : va_G) (ct : Nat → ClassId) (A : Nat → Nat) (a1 : Int32) (a2 : Int32) (a3 : Int32) (s0 : Sg) (o : Bool × Sg) (ho : fX10_isIn a1 a2 a3 s0 = some o) : Con l yX10_isIn cX10_isIn 3 (some .boolean) 0 D ct A [.int a1, .int a2, .int a3] s0 (embZ o) := by
  refine con_start (by decide +kernel) (Nat.le_of_ble_eq_true rfl) ho (fun p e s m args below meth c C => ?_)
  refine m_loc (L2 := [(0, .int a1), (1, .int a2), (2, .int a3)]) [0, 1, 2] rfl ?_
  unfold fX10_isIn
  refine m_iload_n C dX10_isIn_0 rfl ?_
  refine m_iload_n C dX10_isIn_1 rfl ?_
  refine m_icmp_lt (tgt := 14) C dX10_isIn_2 rfl ?_ ?_
  · refine m_iconst C dX10_isIn_14 ci_0 ?_
    exact m_zret C false rfl dX10_isIn_15
  · refine m_iload_n C dX10_isIn_5 rfl ?_
    refine m_iload_n C dX10_isIn_6 rfl ?_
    refine m_icmp_gt (tgt := 14) C dX10_isIn_7 rfl ?_ ?_
    · refine m_iconst C dX10_isIn_14 ci_0 ?_
      exact m_zret C false rfl dX10_isIn_15
    · refine m_iconst C dX10_isIn_10 ci_1 ?_
      refine m_goto (tgt := 15) C dX10_isIn_11 rfl ?_
      exact m_zret C true rfl dX10_isIn_15
def fX10_held (a1 : Int64) (a2 : Int32) (a3 : Int32) (s0 : Sg) : Option (Int32 × Sg) :=
  if 0 ≤ (lg_cmp a1 (Int32.toInt64 a2)) then
    if (lg_cmp a1 (Int32.toInt64 a3)) ≤ 0 then
      some (Int64.toInt32 a1, s0)
    else
      some (a3, s0)
  else
    some (a2, s0)
theorem kX10_held (l : Launch) (D : va_G) (ct : Nat → ClassId) (A : Nat → Nat) (a1 : Int64) (a2 : Int32) (a3 : Int32) (s0 : Sg) (o : Int32 × Sg) (ho : fX10_held a1 a2 a3 s0 = some o) : Con l yX10_held cX10_held 4 (some .int) 0 D ct A [.long a1, .int a2, .int a3] s0 (embI o) := by
  refine con_start (by decide +kernel) (Nat.le_of_ble_eq_true rfl) ho (fun p e s m args below meth c C => ?_)
  refine m_loc (L2 := [(0, .long a1), (2, .int a2), (3, .int a3)]) [0, 1, 2] rfl ?_
  unfold fX10_held
  refine m_lload_n C dX10_held_0 rfl ?_
  refine m_iload_n C dX10_held_1 rfl ?_
  refine m_i2l C dX10_held_2 ?_
  refine m_lcmp C dX10_held_3 ?_
  refine m_if_ge (tgt := 11) C dX10_held_4 rfl ?_ ?_
  · refine m_lload_n C dX10_held_11 rfl ?_
    refine m_iload_n C dX10_held_12 rfl ?_
    refine m_i2l C dX10_held_13 ?_
    refine m_lcmp C dX10_held_14 ?_
    refine m_if_le (tgt := 22) C dX10_held_15 rfl ?_ ?_
    · refine m_lload_n C dX10_held_22 rfl ?_
      refine m_l2i C dX10_held_23 ?_
      exact m_iret C dX10_held_24
    · refine m_iload_n C dX10_held_18 rfl ?_
      refine m_goto (tgt := 24) C dX10_held_19 rfl ?_
      exact m_iret C dX10_held_24
  · refine m_iload_n C dX10_held_7 rfl ?_
    refine m_goto (tgt := 24) C dX10_held_8 rfl ?_
    exact m_iret C dX10_held_24
def fX10_bits_4_b (a1 : Int32) (s0 : Sg) (rec4 : Int32 → Int32 → Option (Int32 × Sg)) (x1_1 : Int32) (x2_2 : Int32) : Option (Int32 × Sg) :=
  if 12 ≤ x2_2 then
    some (x1_1, s0)
  else
    bv (x1_1 + ((a1 >>> (x2_2 &&& 31)) &&& 1)) fun v_3 =>
    bv (x2_2 + 1) fun v_4 =>
    rec4 v_3 v_4
def fX10_bits (a1 : Int32) (s0 : Sg) : Option (Int32 × Sg) :=
  lo2 (fX10_bits_4_b a1 s0) FU 0 0
theorem wX10_bits_4 {p : Program} {l : Launch} {e : Env} {s : State} {m : MethodId} {args : Array Value} {below : List Frame} {meth : Method} {c : Code} {D : va_G} {ct : Nat → ClassId} {A : Nat → Nat} (C : Cx p m c cX10_bits 3 s args yX10_bits.cls meth (some .int) D ct A) (a1 : Int32) (s0 : Sg) : ∀ (n : Nat) (x1_1 : Int32) (x2_2 : Int32), Wm p l e (rmD 0) s m args below meth c D ct A 3 embI 4 [(0, .int a1), (1, .int x1_1), (2, .int x2_2)] [] s0 (lo2 (fX10_bits_4_b a1 s0) n x1_1 x2_2) := by
  intro n
  induction n with
  | zero => intro x1_1 x2_2; exact m_none
  | succ n hrec4 =>
    intro x1_1 x2_2
    refine (show Wm p l e (rmD 0) s m args below meth c D ct A 3 embI 4 [(0, .int a1), (1, .int x1_1), (2, .int x2_2)] [] s0 (fX10_bits_4_b a1 s0 (lo2 (fX10_bits_4_b a1 s0) n) x1_1 x2_2) from ?_)
    generalize lo2 (fX10_bits_4_b a1 s0) n = rec4 at hrec4 ⊢
    unfold fX10_bits_4_b
    refine m_iload_n C dX10_bits_4 rfl ?_
    refine m_bipush C dX10_bits_5 cb_12 ?_
    refine m_icmp_ge (tgt := 24) C dX10_bits_7 rfl ?_ ?_
    · refine m_iload_n C dX10_bits_24 rfl ?_
      exact m_iret C dX10_bits_25
    · refine m_iload_n C dX10_bits_10 rfl ?_
      refine m_iload_n C dX10_bits_11 rfl ?_
      refine m_iload_n C dX10_bits_12 rfl ?_
      refine m_ishr C dX10_bits_13 ?_
      refine m_iconst C dX10_bits_14 ci_1 ?_
      refine m_iand C dX10_bits_15 ?_
      refine m_iadd C dX10_bits_16 ?_
      refine m_let (fun v_3 => ?_)
      refine m_istore_n (L2 := [(1, .int v_3), (0, .int a1), (2, .int x2_2)]) C dX10_bits_17 rfl (by decide) rfl ?_
      refine m_iincb (L2 := fun v_4 => [(2, .int v_4), (1, .int v_3), (0, .int a1)]) (q := 2) C dX10_bits_18 rfl ci_1 (by decide) (fun _ => rfl) (fun v_4 => ?_)
      refine m_goto (tgt := 4) C dX10_bits_21 rfl ?_
      refine m_loc (L2 := [(0, .int a1), (1, .int v_3), (2, .int v_4)]) [2, 1, 0] rfl ?_
      exact hrec4 v_3 v_4
theorem kX10_bits (l : Launch) (D : va_G) (ct : Nat → ClassId) (A : Nat → Nat) (a1 : Int32) (s0 : Sg) (o : Int32 × Sg) (ho : fX10_bits a1 s0 = some o) : Con l yX10_bits cX10_bits 3 (some .int) 0 D ct A [.int a1] s0 (embI o) := by
  refine con_start (by decide +kernel) (Nat.le_of_ble_eq_true rfl) ho (fun p e s m args below meth c C => ?_)
  refine m_loc (L2 := [(0, .int a1)]) [0] rfl ?_
  unfold fX10_bits
  refine m_iconst C dX10_bits_0 ci_0 ?_
  refine m_istore_n (L2 := [(1, .int 0), (0, .int a1)]) C dX10_bits_1 rfl (by decide) rfl ?_
  refine m_iconst C dX10_bits_2 ci_0 ?_
  refine m_istore_n (L2 := [(2, .int 0), (1, .int 0), (0, .int a1)]) C dX10_bits_3 rfl (by decide) rfl ?_
  refine m_loc (L2 := [(0, .int a1), (1, .int 0), (2, .int 0)]) [2, 1, 0] rfl ?_
  exact wX10_bits_4 C a1 s0 FU 0 0
def fX10_has (a1 : Int32) (a2 : Int32) (s0 : Sg) : Option (Bool × Sg) :=
  if ((a1 >>> (a2 &&& 31)) &&& 1) = 1 then
    some (true, s0)
  else
    some (false, s0)
theorem kX10_has (l : Launch) (D : va_G) (ct : Nat → ClassId) (A : Nat → Nat) (a1 : Int32) (a2 : Int32) (s0 : Sg) (o : Bool × Sg) (ho : fX10_has a1 a2 s0 = some o) : Con l yX10_has cX10_has 2 (some .boolean) 0 D ct A [.int a1, .int a2] s0 (embZ o) := by
  refine con_start (by decide +kernel) (Nat.le_of_ble_eq_true rfl) ho (fun p e s m args below meth c C => ?_)
  refine m_loc (L2 := [(0, .int a1), (1, .int a2)]) [0, 1] rfl ?_
  unfold fX10_has
  refine m_iload_n C dX10_has_0 rfl ?_
  refine m_iload_n C dX10_has_1 rfl ?_
  refine m_ishr C dX10_has_2 ?_
  refine m_iconst C dX10_has_3 ci_1 ?_
  refine m_iand C dX10_has_4 ?_
  refine m_iconst C dX10_has_5 ci_1 ?_
  refine m_icmp_ne (tgt := 13) C dX10_has_6 rfl ?_ ?_
  · refine m_iconst C dX10_has_13 ci_0 ?_
    exact m_zret C false rfl dX10_has_14
  · refine m_iconst C dX10_has_9 ci_1 ?_
    refine m_goto (tgt := 14) C dX10_has_10 rfl ?_
    exact m_zret C true rfl dX10_has_14
def fX10_isThing (a1 : Int32) (s0 : Sg) : Option (Bool × Sg) :=
  bnd (fX10_isIn a1 0 ((gi s0 28 (ix 0)) - 1) s0) fun r_1 s_2 =>
  some (r_1, s_2)
theorem kX10_isThing (l : Launch) (D : va_G) (ct : Nat → ClassId) (A : Nat → Nat) (a1 : Int32) (s0 : Sg) (o : Bool × Sg) (ho : fX10_isThing a1 s0 = some o) : Con l yX10_isThing cX10_isThing 2 (some .boolean) 1 D ct A [.ref (A 27), .int a1] s0 (embZ o) := by
  refine con_start (by decide +kernel) (Nat.le_of_ble_eq_true rfl) ho (fun p e s m args below meth c C => ?_)
  refine m_loc (L2 := [(0, .ref (A 27)), (1, .int a1)]) [0, 1] rfl ?_
  unfold fX10_isThing
  refine m_iload_n C dX10_isThing_0 rfl ?_
  refine m_iconst C dX10_isThing_1 ci_0 ?_
  refine m_aload_n C dX10_isThing_2 rfl ?_
  refine m_get (v := .ref (A 28)) C fl_X10_7_9 rfl (by decide) rfl dX10_isThing_3 ?_
  refine m_iconst C dX10_isThing_6 ci_0 ?_
  refine m_iald C rfl (by decide +kernel) dX10_isThing_7 ?_
  refine m_iconst C dX10_isThing_8 ci_1 ?_
  refine m_isub C dX10_isThing_9 ?_
  refine m_callSZ C ml_X10_83 ⟨Nat.le_of_ble_eq_true rfl, Nat.le_of_ble_eq_true rfl⟩ [.int a1, .int 0, .int ((gi s0 28 (ix 0)) - 1)] [] rfl rfl (Nat.le_of_ble_eq_true rfl) dX10_isThing_10 (fun o ho => kX10_isIn l D ct A a1 0 ((gi s0 28 (ix 0)) - 1) s0 o ho) (fun r_1 s_2 => ?_)
  exact m_zret C r_1 rfl dX10_isThing_13
def fX10_thingAt (a1 : Int32) (s0 : Sg) : Option (Int32 × Sg) :=
  some (15 + (3 * a1), s0)
theorem kX10_thingAt (l : Launch) (D : va_G) (ct : Nat → ClassId) (A : Nat → Nat) (a1 : Int32) (s0 : Sg) (o : Int32 × Sg) (ho : fX10_thingAt a1 s0 = some o) : Con l yX10_thingAt cX10_thingAt 1 (some .int) 0 D ct A [.int a1] s0 (embI o) := by
  refine con_start (by decide +kernel) (Nat.le_of_ble_eq_true rfl) ho (fun p e s m args below meth c C => ?_)
  refine m_loc (L2 := [(0, .int a1)]) [0] rfl ?_
  unfold fX10_thingAt
  refine m_bipush C dX10_thingAt_0 cb_15 ?_
  refine m_iconst C dX10_thingAt_2 ci_3 ?_
  refine m_iload_n C dX10_thingAt_3 rfl ?_
  refine m_imul C dX10_thingAt_4 ?_
  refine m_iadd C dX10_thingAt_5 ?_
  exact m_iret C dX10_thingAt_6
def fX10_panOf (a1 : Int32) (s0 : Sg) : Option (Int32 × Sg) :=
  bnd (fX10_thingAt a1 s0) fun r_1 s_2 =>
  chk (inb 720 (r_1 + 2)) <|
  some (gi s_2 28 (ix (r_1 + 2)), s_2)
theorem kX10_panOf (l : Launch) (D : va_G) (ct : Nat → ClassId) (A : Nat → Nat) (a1 : Int32) (s0 : Sg) (o : Int32 × Sg) (ho : fX10_panOf a1 s0 = some o) : Con l yX10_panOf cX10_panOf 2 (some .int) 1 D ct A [.ref (A 27), .int a1] s0 (embI o) := by
  refine con_start (by decide +kernel) (Nat.le_of_ble_eq_true rfl) ho (fun p e s m args below meth c C => ?_)
  refine m_loc (L2 := [(0, .ref (A 27)), (1, .int a1)]) [0, 1] rfl ?_
  unfold fX10_panOf
  refine m_aload_n C dX10_panOf_0 rfl ?_
  refine m_get (v := .ref (A 28)) C fl_X10_7_9 rfl (by decide) rfl dX10_panOf_1 ?_
  refine m_iload_n C dX10_panOf_4 rfl ?_
  refine m_callSI C ml_X10_87 ⟨Nat.le_of_ble_eq_true rfl, Nat.le_of_ble_eq_true rfl⟩ [.int a1] [.ref (A 28)] rfl rfl (Nat.le_of_ble_eq_true rfl) dX10_panOf_5 (fun o ho => kX10_thingAt l D ct A a1 s0 o ho) (fun r_1 s_2 => ?_)
  refine m_iconst C dX10_panOf_8 ci_2 ?_
  refine m_iadd C dX10_panOf_9 ?_
  refine m_chk (fun h_3 => ?_)
  refine m_iald C rfl h_3 dX10_panOf_10 ?_
  exact m_iret C dX10_panOf_11
def fX10_beam (a1 : Int32) (a2 : Int32) (a3 : Int32) (s0 : Sg) : Option (Bool × Sg) :=
  bnd (fX10_isIn a1 1 99 s0) fun r_1 s_2 =>
  if (b2i r_1) = 0 then
    some (false, s_2)
  else
    bnd (fX10_isIn a2 1 99 s_2) fun r_3 s_4 =>
    if (b2i r_3) = 0 then
      some (false, s_4)
    else
      bnd (fX10_isIn a3 0 9999 s_4) fun r_5 s_6 =>
      if (b2i r_5) = 0 then
        some (false, s_6)
      else
        bv (si s_6 28 (ix 1) a1) fun s_7 =>
        bv (si s_7 28 (ix 2) a2) fun s_8 =>
        bv (si s_8 28 (ix 3) a3) fun s_9 =>
        some (true, s_9)
theorem kX10_beam (l : Launch) (D : va_G) (ct : Nat → ClassId) (A : Nat → Nat) (a1 : Int32) (a2 : Int32) (a3 : Int32) (s0 : Sg) (o : Bool × Sg) (ho : fX10_beam a1 a2 a3 s0 = some o) : Con l yX10_beam cX10_beam 4 (some .boolean) 1 D ct A [.ref (A 27), .int a1, .int a2, .int a3] s0 (embZ o) := by
  refine con_start (by decide +kernel) (Nat.le_of_ble_eq_true rfl) ho (fun p e s m args below meth c C => ?_)
  refine m_loc (L2 := [(0, .ref (A 27)), (1, .int a1), (2, .int a2), (3, .int a3)]) [0, 1, 2, 3] rfl ?_
  unfold fX10_beam
  refine m_iload_n C dX10_beam_0 rfl ?_
  refine m_iconst C dX10_beam_1 ci_1 ?_
  refine m_bipush C dX10_beam_2 cb_99 ?_
  refine m_callSZ C ml_X10_83 ⟨Nat.le_of_ble_eq_true rfl, Nat.le_of_ble_eq_true rfl⟩ [.int a1, .int 1, .int 99] [] rfl rfl (Nat.le_of_ble_eq_true rfl) dX10_beam_4 (fun o ho => kX10_isIn l D ct A a1 1 99 s0 o ho) (fun r_1 s_2 => ?_)
  refine m_if_eq (tgt := 31) C dX10_beam_7 rfl ?_ ?_
  · refine m_iconst C dX10_beam_31 ci_0 ?_
    exact m_zret C false rfl dX10_beam_32
  · refine m_iload_n C dX10_beam_10 rfl ?_
    refine m_iconst C dX10_beam_11 ci_1 ?_
    refine m_bipush C dX10_beam_12 cb_99 ?_
    refine m_callSZ C ml_X10_83 ⟨Nat.le_of_ble_eq_true rfl, Nat.le_of_ble_eq_true rfl⟩ [.int a2, .int 1, .int 99] [] rfl rfl (Nat.le_of_ble_eq_true rfl) dX10_beam_14 (fun o ho => kX10_isIn l D ct A a2 1 99 s_2 o ho) (fun r_3 s_4 => ?_)
    refine m_if_eq (tgt := 31) C dX10_beam_17 rfl ?_ ?_
    · refine m_iconst C dX10_beam_31 ci_0 ?_
      exact m_zret C false rfl dX10_beam_32
    · refine m_iload_n C dX10_beam_20 rfl ?_
      refine m_iconst C dX10_beam_21 ci_0 ?_
      refine m_sipush C dX10_beam_22 cs_9999 ?_
      refine m_callSZ C ml_X10_83 ⟨Nat.le_of_ble_eq_true rfl, Nat.le_of_ble_eq_true rfl⟩ [.int a3, .int 0, .int 9999] [] rfl rfl (Nat.le_of_ble_eq_true rfl) dX10_beam_25 (fun o ho => kX10_isIn l D ct A a3 0 9999 s_4 o ho) (fun r_5 s_6 => ?_)
      refine m_if_ne (tgt := 33) C dX10_beam_28 rfl ?_ ?_
      · refine m_aload_n C dX10_beam_33 rfl ?_
        refine m_get (v := .ref (A 28)) C fl_X10_7_9 rfl (by decide) rfl dX10_beam_34 ?_
        refine m_iconst C dX10_beam_37 ci_1 ?_
        refine m_iload_n C dX10_beam_38 rfl ?_
        refine m_iast C rfl (by decide +kernel) dX10_beam_39 (fun s_7 => ?_)
        refine m_aload_n C dX10_beam_40 rfl ?_
        refine m_get (v := .ref (A 28)) C fl_X10_7_9 rfl (by decide) rfl dX10_beam_41 ?_
        refine m_iconst C dX10_beam_44 ci_2 ?_
        refine m_iload_n C dX10_beam_45 rfl ?_
        refine m_iast C rfl (by decide +kernel) dX10_beam_46 (fun s_8 => ?_)
        refine m_aload_n C dX10_beam_47 rfl ?_
        refine m_get (v := .ref (A 28)) C fl_X10_7_9 rfl (by decide) rfl dX10_beam_48 ?_
        refine m_iconst C dX10_beam_51 ci_3 ?_
        refine m_iload_n C dX10_beam_52 rfl ?_
        refine m_iast C rfl (by decide +kernel) dX10_beam_53 (fun s_9 => ?_)
        refine m_iconst C dX10_beam_54 ci_1 ?_
        exact m_zret C true rfl dX10_beam_55
      · refine m_iconst C dX10_beam_31 ci_0 ?_
        exact m_zret C false rfl dX10_beam_32
def fX10_thing (a1 : Int32) (a2 : Int32) (s0 : Sg) : Option (Int32 × Sg) :=
  bnd (fX10_isIn a1 1 999 s0) fun r_1 s_2 =>
  if (b2i r_1) = 0 then
    some ((-1), s_2)
  else
    bnd (fX10_isIn a2 0 9 s_2) fun r_3 s_4 =>
    if (b2i r_3) = 0 then
      some ((-1), s_4)
    else
      if (gi s_4 28 (ix 0)) = 12 then
        some ((-1), s_4)
      else
        bnd (fX10_thingAt (gi s_4 28 (ix 0)) s_4) fun r_5 s_6 =>
        chk (inb 720 r_5) <|
        bv (si s_6 28 (ix r_5) a1) fun s_8 =>
        bnd (fX10_thingAt (gi s_8 28 (ix 0)) s_8) fun r_9 s_10 =>
        chk (inb 720 (r_9 + 1)) <|
        bv (si s_10 28 (ix (r_9 + 1)) a2) fun s_12 =>
        bnd (fX10_thingAt (gi s_12 28 (ix 0)) s_12) fun r_13 s_14 =>
        chk (inb 720 (r_13 + 2)) <|
        bv (si s_14 28 (ix (r_13 + 2)) (-1)) fun s_16 =>
        bv (si s_16 28 (ix 0) ((gi s_16 28 (ix 0)) + 1)) fun s_17 =>
        some ((gi s_17 28 (ix 0)) - 1, s_17)
theorem kX10_thing (l : Launch) (D : va_G) (ct : Nat → ClassId) (A : Nat → Nat) (a1 : Int32) (a2 : Int32) (s0 : Sg) (o : Int32 × Sg) (ho : fX10_thing a1 a2 s0 = some o) : Con l yX10_thing cX10_thing 3 (some .int) 1 D ct A [.ref (A 27), .int a1, .int a2] s0 (embI o) := by
  refine con_start (by decide +kernel) (Nat.le_of_ble_eq_true rfl) ho (fun p e s m args below meth c C => ?_)
  refine m_loc (L2 := [(0, .ref (A 27)), (1, .int a1), (2, .int a2)]) [0, 1, 2] rfl ?_
  unfold fX10_thing
  refine m_iload_n C dX10_thing_0 rfl ?_
  refine m_iconst C dX10_thing_1 ci_1 ?_
  refine m_sipush C dX10_thing_2 cs_999 ?_
  refine m_callSZ C ml_X10_83 ⟨Nat.le_of_ble_eq_true rfl, Nat.le_of_ble_eq_true rfl⟩ [.int a1, .int 1, .int 999] [] rfl rfl (Nat.le_of_ble_eq_true rfl) dX10_thing_5 (fun o ho => kX10_isIn l D ct A a1 1 999 s0 o ho) (fun r_1 s_2 => ?_)
  refine m_if_eq (tgt := 32) C dX10_thing_8 rfl ?_ ?_
  · refine m_iconst C dX10_thing_32 ci_m1 ?_
    exact m_iret C dX10_thing_33
  · refine m_iload_n C dX10_thing_11 rfl ?_
    refine m_iconst C dX10_thing_12 ci_0 ?_
    refine m_bipush C dX10_thing_13 cb_9 ?_
    refine m_callSZ C ml_X10_83 ⟨Nat.le_of_ble_eq_true rfl, Nat.le_of_ble_eq_true rfl⟩ [.int a2, .int 0, .int 9] [] rfl rfl (Nat.le_of_ble_eq_true rfl) dX10_thing_15 (fun o ho => kX10_isIn l D ct A a2 0 9 s_2 o ho) (fun r_3 s_4 => ?_)
    refine m_if_eq (tgt := 32) C dX10_thing_18 rfl ?_ ?_
    · refine m_iconst C dX10_thing_32 ci_m1 ?_
      exact m_iret C dX10_thing_33
    · refine m_aload_n C dX10_thing_21 rfl ?_
      refine m_get (v := .ref (A 28)) C fl_X10_7_9 rfl (by decide) rfl dX10_thing_22 ?_
      refine m_iconst C dX10_thing_25 ci_0 ?_
      refine m_iald C rfl (by decide +kernel) dX10_thing_26 ?_
      refine m_bipush C dX10_thing_27 cb_12 ?_
      refine m_icmp_ne (tgt := 34) C dX10_thing_29 rfl ?_ ?_
      · refine m_aload_n C dX10_thing_34 rfl ?_
        refine m_get (v := .ref (A 28)) C fl_X10_7_9 rfl (by decide) rfl dX10_thing_35 ?_
        refine m_aload_n C dX10_thing_38 rfl ?_
        refine m_get (v := .ref (A 28)) C fl_X10_7_9 rfl (by decide) rfl dX10_thing_39 ?_
        refine m_iconst C dX10_thing_42 ci_0 ?_
        refine m_iald C rfl (by decide +kernel) dX10_thing_43 ?_
        refine m_callSI C ml_X10_87 ⟨Nat.le_of_ble_eq_true rfl, Nat.le_of_ble_eq_true rfl⟩ [.int (gi s_4 28 (ix 0))] [.ref (A 28)] rfl rfl (Nat.le_of_ble_eq_true rfl) dX10_thing_44 (fun o ho => kX10_thingAt l D ct A (gi s_4 28 (ix 0)) s_4 o ho) (fun r_5 s_6 => ?_)
        refine m_iload_n C dX10_thing_47 rfl ?_
        refine m_chk (fun h_7 => ?_)
        refine m_iast C rfl h_7 dX10_thing_48 (fun s_8 => ?_)
        refine m_aload_n C dX10_thing_49 rfl ?_
        refine m_get (v := .ref (A 28)) C fl_X10_7_9 rfl (by decide) rfl dX10_thing_50 ?_
        refine m_aload_n C dX10_thing_53 rfl ?_
        refine m_get (v := .ref (A 28)) C fl_X10_7_9 rfl (by decide) rfl dX10_thing_54 ?_
        refine m_iconst C dX10_thing_57 ci_0 ?_
        refine m_iald C rfl (by decide +kernel) dX10_thing_58 ?_
        refine m_callSI C ml_X10_87 ⟨Nat.le_of_ble_eq_true rfl, Nat.le_of_ble_eq_true rfl⟩ [.int (gi s_8 28 (ix 0))] [.ref (A 28)] rfl rfl (Nat.le_of_ble_eq_true rfl) dX10_thing_59 (fun o ho => kX10_thingAt l D ct A (gi s_8 28 (ix 0)) s_8 o ho) (fun r_9 s_10 => ?_)
        refine m_iconst C dX10_thing_62 ci_1 ?_
        refine m_iadd C dX10_thing_63 ?_
        refine m_iload_n C dX10_thing_64 rfl ?_
        refine m_chk (fun h_11 => ?_)
        refine m_iast C rfl h_11 dX10_thing_65 (fun s_12 => ?_)
        refine m_aload_n C dX10_thing_66 rfl ?_
        refine m_get (v := .ref (A 28)) C fl_X10_7_9 rfl (by decide) rfl dX10_thing_67 ?_
        refine m_aload_n C dX10_thing_70 rfl ?_
        refine m_get (v := .ref (A 28)) C fl_X10_7_9 rfl (by decide) rfl dX10_thing_71 ?_
        refine m_iconst C dX10_thing_74 ci_0 ?_
        refine m_iald C rfl (by decide +kernel) dX10_thing_75 ?_
        refine m_callSI C ml_X10_87 ⟨Nat.le_of_ble_eq_true rfl, Nat.le_of_ble_eq_true rfl⟩ [.int (gi s_12 28 (ix 0))] [.ref (A 28)] rfl rfl (Nat.le_of_ble_eq_true rfl) dX10_thing_76 (fun o ho => kX10_thingAt l D ct A (gi s_12 28 (ix 0)) s_12 o ho) (fun r_13 s_14 => ?_)
        refine m_iconst C dX10_thing_79 ci_2 ?_
        refine m_iadd C dX10_thing_80 ?_
        refine m_iconst C dX10_thing_81 ci_m1 ?_
        refine m_chk (fun h_15 => ?_)
        refine m_iast C rfl h_15 dX10_thing_82 (fun s_16 => ?_)
        refine m_aload_n C dX10_thing_83 rfl ?_
        refine m_get (v := .ref (A 28)) C fl_X10_7_9 rfl (by decide) rfl dX10_thing_84 ?_
        refine m_iconst C dX10_thing_87 ci_0 ?_
        refine m_dup2 C dX10_thing_88 rfl rfl ?_
        refine m_iald C rfl (by decide +kernel) dX10_thing_89 ?_
        refine m_iconst C dX10_thing_90 ci_1 ?_
        refine m_iadd C dX10_thing_91 ?_
        refine m_iast C rfl (by decide +kernel) dX10_thing_92 (fun s_17 => ?_)
        refine m_aload_n C dX10_thing_93 rfl ?_
        refine m_get (v := .ref (A 28)) C fl_X10_7_9 rfl (by decide) rfl dX10_thing_94 ?_
        refine m_iconst C dX10_thing_97 ci_0 ?_
        refine m_iald C rfl (by decide +kernel) dX10_thing_98 ?_
        refine m_iconst C dX10_thing_99 ci_1 ?_
        refine m_isub C dX10_thing_100 ?_
        exact m_iret C dX10_thing_101
      · refine m_iconst C dX10_thing_32 ci_m1 ?_
        exact m_iret C dX10_thing_33
def fX10_weather (a1 : Int32) (a2 : Int32) (a3 : Int32) (s0 : Sg) : Option (Bool × Sg) :=
  bnd (fX10_isIn a1 0 23 s0) fun r_1 s_2 =>
  if (b2i r_1) = 0 then
    some (false, s_2)
  else
    bnd (fX10_isIn a2 0 9 s_2) fun r_3 s_4 =>
    if (b2i r_3) = 0 then
      some (false, s_4)
    else
      bnd (fX10_isIn a3 (-9) 9 s_4) fun r_5 s_6 =>
      if (b2i r_5) = 0 then
        some (false, s_6)
      else
        bv (si s_6 28 (ix 4) a1) fun s_7 =>
        bv (si s_7 28 (ix 5) a2) fun s_8 =>
        bv (si s_8 28 (ix 6) a3) fun s_9 =>
        some (true, s_9)
theorem kX10_weather (l : Launch) (D : va_G) (ct : Nat → ClassId) (A : Nat → Nat) (a1 : Int32) (a2 : Int32) (a3 : Int32) (s0 : Sg) (o : Bool × Sg) (ho : fX10_weather a1 a2 a3 s0 = some o) : Con l yX10_weather cX10_weather 4 (some .boolean) 1 D ct A [.ref (A 27), .int a1, .int a2, .int a3] s0 (embZ o) := by
  refine con_start (by decide +kernel) (Nat.le_of_ble_eq_true rfl) ho (fun p e s m args below meth c C => ?_)
  refine m_loc (L2 := [(0, .ref (A 27)), (1, .int a1), (2, .int a2), (3, .int a3)]) [0, 1, 2, 3] rfl ?_
  unfold fX10_weather
  refine m_iload_n C dX10_weather_0 rfl ?_
  refine m_iconst C dX10_weather_1 ci_0 ?_
  refine m_bipush C dX10_weather_2 cb_23 ?_
  refine m_callSZ C ml_X10_83 ⟨Nat.le_of_ble_eq_true rfl, Nat.le_of_ble_eq_true rfl⟩ [.int a1, .int 0, .int 23] [] rfl rfl (Nat.le_of_ble_eq_true rfl) dX10_weather_4 (fun o ho => kX10_isIn l D ct A a1 0 23 s0 o ho) (fun r_1 s_2 => ?_)
  refine m_if_eq (tgt := 31) C dX10_weather_7 rfl ?_ ?_
  · refine m_iconst C dX10_weather_31 ci_0 ?_
    exact m_zret C false rfl dX10_weather_32
  · refine m_iload_n C dX10_weather_10 rfl ?_
    refine m_iconst C dX10_weather_11 ci_0 ?_
    refine m_bipush C dX10_weather_12 cb_9 ?_
    refine m_callSZ C ml_X10_83 ⟨Nat.le_of_ble_eq_true rfl, Nat.le_of_ble_eq_true rfl⟩ [.int a2, .int 0, .int 9] [] rfl rfl (Nat.le_of_ble_eq_true rfl) dX10_weather_14 (fun o ho => kX10_isIn l D ct A a2 0 9 s_2 o ho) (fun r_3 s_4 => ?_)
    refine m_if_eq (tgt := 31) C dX10_weather_17 rfl ?_ ?_
    · refine m_iconst C dX10_weather_31 ci_0 ?_
      exact m_zret C false rfl dX10_weather_32
    · refine m_iload_n C dX10_weather_20 rfl ?_
      refine m_bipush C dX10_weather_21 cb_m9 ?_
      refine m_bipush C dX10_weather_23 cb_9 ?_
      refine m_callSZ C ml_X10_83 ⟨Nat.le_of_ble_eq_true rfl, Nat.le_of_ble_eq_true rfl⟩ [.int a3, .int (-9), .int 9] [] rfl rfl (Nat.le_of_ble_eq_true rfl) dX10_weather_25 (fun o ho => kX10_isIn l D ct A a3 (-9) 9 s_4 o ho) (fun r_5 s_6 => ?_)
      refine m_if_ne (tgt := 33) C dX10_weather_28 rfl ?_ ?_
      · refine m_aload_n C dX10_weather_33 rfl ?_
        refine m_get (v := .ref (A 28)) C fl_X10_7_9 rfl (by decide) rfl dX10_weather_34 ?_
        refine m_iconst C dX10_weather_37 ci_4 ?_
        refine m_iload_n C dX10_weather_38 rfl ?_
        refine m_iast C rfl (by decide +kernel) dX10_weather_39 (fun s_7 => ?_)
        refine m_aload_n C dX10_weather_40 rfl ?_
        refine m_get (v := .ref (A 28)) C fl_X10_7_9 rfl (by decide) rfl dX10_weather_41 ?_
        refine m_iconst C dX10_weather_44 ci_5 ?_
        refine m_iload_n C dX10_weather_45 rfl ?_
        refine m_iast C rfl (by decide +kernel) dX10_weather_46 (fun s_8 => ?_)
        refine m_aload_n C dX10_weather_47 rfl ?_
        refine m_get (v := .ref (A 28)) C fl_X10_7_9 rfl (by decide) rfl dX10_weather_48 ?_
        refine m_bipush C dX10_weather_51 cb_6 ?_
        refine m_iload_n C dX10_weather_53 rfl ?_
        refine m_iast C rfl (by decide +kernel) dX10_weather_54 (fun s_9 => ?_)
        refine m_iconst C dX10_weather_55 ci_1 ?_
        exact m_zret C true rfl dX10_weather_56
      · refine m_iconst C dX10_weather_31 ci_0 ?_
        exact m_zret C false rfl dX10_weather_32
def fX10_four_3_b (a1 : Int32) (rec3 : Int32 → Sg → Option (Sg)) (x2_1 : Int32) (s_2 : Sg) : Option (Sg) :=
  if x2_1 < 0 then
    some s_2
  else
    chk (inb 300 (gi s_2 27 4)) <|
    bv (si s_2 31 (ix (gi s_2 27 4)) ((a1 >>> (x2_1 &&& 31)) &&& 255)) fun s_4 =>
    bv (si s_4 27 4 ((gi s_4 27 4) + 1)) fun s_5 =>
    bv (x2_1 + (-8)) fun v_6 =>
    rec3 v_6 s_5
def fX10_four (a1 : Int32) (s0 : Sg) : Option (Sg) :=
  lo2 (fX10_four_3_b a1) FU 24 s0
theorem wX10_four_3 {p : Program} {l : Launch} {e : Env} {s : State} {m : MethodId} {args : Array Value} {below : List Frame} {meth : Method} {c : Code} {D : va_G} {ct : Nat → ClassId} {A : Nat → Nat} (C : Cx p m c cX10_four 3 s args yX10_four.cls meth none D ct A) (a1 : Int32) : ∀ (n : Nat) (x2_1 : Int32) (s_2 : Sg), Wm p l e (rmD 0) s m args below meth c D ct A 3 embV 3 [(0, .ref (A 27)), (1, .int a1), (2, .int x2_1)] [] s_2 (lo2 (fX10_four_3_b a1) n x2_1 s_2) := by
  intro n
  induction n with
  | zero => intro x2_1 s_2; exact m_none
  | succ n hrec3 =>
    intro x2_1 s_2
    refine (show Wm p l e (rmD 0) s m args below meth c D ct A 3 embV 3 [(0, .ref (A 27)), (1, .int a1), (2, .int x2_1)] [] s_2 (fX10_four_3_b a1 (lo2 (fX10_four_3_b a1) n) x2_1 s_2) from ?_)
    generalize lo2 (fX10_four_3_b a1) n = rec3 at hrec3 ⊢
    unfold fX10_four_3_b
    refine m_iload_n C dX10_four_3 rfl ?_
    refine m_if_lt (tgt := 39) C dX10_four_4 rfl ?_ ?_
    · exact m_vret C dX10_four_39
    · refine m_aload_n C dX10_four_7 rfl ?_
      refine m_get (v := .ref (A 31)) C fl_X10_19_9 rfl (by decide) rfl dX10_four_8 ?_
      refine m_aload_n C dX10_four_11 rfl ?_
      refine m_get (v := .int (gi s_2 27 4)) C fl_X10_91_9 rfl (by decide) rfl dX10_four_12 ?_
      refine m_iload_n C dX10_four_15 rfl ?_
      refine m_iload_n C dX10_four_16 rfl ?_
      refine m_ishr C dX10_four_17 ?_
      refine m_sipush C dX10_four_18 cs_255 ?_
      refine m_iand C dX10_four_21 ?_
      refine m_chk (fun h_3 => ?_)
      refine m_iast C rfl h_3 dX10_four_22 (fun s_4 => ?_)
      refine m_aload_n C dX10_four_23 rfl ?_
      refine m_dup C dX10_four_24 rfl ?_
      refine m_get (v := .int (gi s_4 27 4)) C fl_X10_91_9 rfl (by decide) rfl dX10_four_25 ?_
      refine m_iconst C dX10_four_28 ci_1 ?_
      refine m_iadd C dX10_four_29 ?_
      refine m_puti C fl_X10_91_9 fw_9_4 rfl (by decide) rfl dX10_four_30 (fun s_5 => ?_)
      refine m_iincb (L2 := fun v_6 => [(2, .int v_6), (0, .ref (A 27)), (1, .int a1)]) (q := 2) C dX10_four_33 rfl ci_m8 (by decide) (fun _ => rfl) (fun v_6 => ?_)
      refine m_goto (tgt := 3) C dX10_four_36 rfl ?_
      refine m_loc (L2 := [(0, .ref (A 27)), (1, .int a1), (2, .int v_6)]) [1, 2, 0] rfl ?_
      exact hrec3 v_6 s_5
theorem kX10_four (l : Launch) (D : va_G) (ct : Nat → ClassId) (A : Nat → Nat) (a1 : Int32) (s0 : Sg) (o : Sg) (ho : fX10_four a1 s0 = some o) : Con l yX10_four cX10_four 3 none 0 D ct A [.ref (A 27), .int a1] s0 (embV o) := by
  refine con_start (by decide +kernel) (Nat.le_of_ble_eq_true rfl) ho (fun p e s m args below meth c C => ?_)
  refine m_loc (L2 := [(0, .ref (A 27)), (1, .int a1)]) [0, 1] rfl ?_
  unfold fX10_four
  refine m_bipush C dX10_four_0 cb_24 ?_
  refine m_istore_n (L2 := [(2, .int 24), (0, .ref (A 27)), (1, .int a1)]) C dX10_four_2 rfl (by decide) rfl ?_
  refine m_loc (L2 := [(0, .ref (A 27)), (1, .int a1), (2, .int 24)]) [1, 2, 0] rfl ?_
  exact wX10_four_3 C a1 FU 24 s0
def fX10_feed (a1 : Int32) (a2 : Int32) (a3 : Int32) (a4 : Int32) (a5 : Int32) (s0 : Sg) : Option (Int32 × Sg) :=
  if ((gi s0 27 4) + 20) ≤ 300 then
    bnv (fX10_four a1 s0) fun s_1 =>
    bnv (fX10_four a2 s_1) fun s_2 =>
    bnv (fX10_four a3 s_2) fun s_3 =>
    bnv (fX10_four a4 s_3) fun s_4 =>
    bnv (fX10_four a5 s_4) fun s_5 =>
    some (gi s_5 27 4, s_5)
  else
    some ((-1), s0)
theorem kX10_feed (l : Launch) (D : va_G) (ct : Nat → ClassId) (A : Nat → Nat) (a1 : Int32) (a2 : Int32) (a3 : Int32) (a4 : Int32) (a5 : Int32) (s0 : Sg) (o : Int32 × Sg) (ho : fX10_feed a1 a2 a3 a4 a5 s0 = some o) : Con l yX10_feed cX10_feed 6 (some .int) 1 D ct A [.ref (A 27), .int a1, .int a2, .int a3, .int a4, .int a5] s0 (embI o) := by
  refine con_start (by decide +kernel) (Nat.le_of_ble_eq_true rfl) ho (fun p e s m args below meth c C => ?_)
  refine m_loc (L2 := [(0, .ref (A 27)), (1, .int a1), (2, .int a2), (3, .int a3), (4, .int a4), (5, .int a5)]) [0, 1, 2, 3, 4, 5] rfl ?_
  unfold fX10_feed
  refine m_aload_n C dX10_feed_0 rfl ?_
  refine m_get (v := .int (gi s0 27 4)) C fl_X10_91_9 rfl (by decide) rfl dX10_feed_1 ?_
  refine m_bipush C dX10_feed_4 cb_20 ?_
  refine m_iadd C dX10_feed_6 ?_
  refine m_sipush C dX10_feed_7 cs_300 ?_
  refine m_icmp_le (tgt := 15) C dX10_feed_10 rfl ?_ ?_
  · refine m_aload_n C dX10_feed_15 rfl ?_
    refine m_iload_n C dX10_feed_16 rfl ?_
    refine m_callVV C ml_X10_94 ⟨Nat.le_of_ble_eq_true rfl, Nat.le_of_ble_eq_true rfl⟩ rfl rfl [.int a1] [] rfl rfl (Nat.le_of_ble_eq_true rfl) dX10_feed_17 (fun o ho => kX10_four l D ct A a1 s0 o ho) (fun s_1 => ?_)
    refine m_aload_n C dX10_feed_20 rfl ?_
    refine m_iload_n C dX10_feed_21 rfl ?_
    refine m_callVV C ml_X10_94 ⟨Nat.le_of_ble_eq_true rfl, Nat.le_of_ble_eq_true rfl⟩ rfl rfl [.int a2] [] rfl rfl (Nat.le_of_ble_eq_true rfl) dX10_feed_22 (fun o ho => kX10_four l D ct A a2 s_1 o ho) (fun s_2 => ?_)
    refine m_aload_n C dX10_feed_25 rfl ?_
    refine m_iload_n C dX10_feed_26 rfl ?_
    refine m_callVV C ml_X10_94 ⟨Nat.le_of_ble_eq_true rfl, Nat.le_of_ble_eq_true rfl⟩ rfl rfl [.int a3] [] rfl rfl (Nat.le_of_ble_eq_true rfl) dX10_feed_27 (fun o ho => kX10_four l D ct A a3 s_2 o ho) (fun s_3 => ?_)
    refine m_aload_n C dX10_feed_30 rfl ?_
    refine m_iload C dX10_feed_31 rfl ?_
    refine m_callVV C ml_X10_94 ⟨Nat.le_of_ble_eq_true rfl, Nat.le_of_ble_eq_true rfl⟩ rfl rfl [.int a4] [] rfl rfl (Nat.le_of_ble_eq_true rfl) dX10_feed_33 (fun o ho => kX10_four l D ct A a4 s_3 o ho) (fun s_4 => ?_)
    refine m_aload_n C dX10_feed_36 rfl ?_
    refine m_iload C dX10_feed_37 rfl ?_
    refine m_callVV C ml_X10_94 ⟨Nat.le_of_ble_eq_true rfl, Nat.le_of_ble_eq_true rfl⟩ rfl rfl [.int a5] [] rfl rfl (Nat.le_of_ble_eq_true rfl) dX10_feed_39 (fun o ho => kX10_four l D ct A a5 s_4 o ho) (fun s_5 => ?_)
    refine m_aload_n C dX10_feed_42 rfl ?_
    refine m_get (v := .int (gi s_5 27 4)) C fl_X10_91_9 rfl (by decide) rfl dX10_feed_43 ?_
    exact m_iret C dX10_feed_46
  · refine m_iconst C dX10_feed_13 ci_m1 ?_
    exact m_iret C dX10_feed_14
def fX10_end (a1 : Int32) (s0 : Sg) : Option (Int32 × Sg) :=
  bnd (fX10_isIn a1 0 (gi s0 27 4) s0) fun r_1 s_2 =>
  if (b2i r_1) = 0 then
    some ((-1), s_2)
  else
    bv (si s_2 27 4 a1) fun s_3 =>
    some (a1, s_3)
theorem kX10_end (l : Launch) (D : va_G) (ct : Nat → ClassId) (A : Nat → Nat) (a1 : Int32) (s0 : Sg) (o : Int32 × Sg) (ho : fX10_end a1 s0 = some o) : Con l yX10_end cX10_end 2 (some .int) 1 D ct A [.ref (A 27), .int a1] s0 (embI o) := by
  refine con_start (by decide +kernel) (Nat.le_of_ble_eq_true rfl) ho (fun p e s m args below meth c C => ?_)
  refine m_loc (L2 := [(0, .ref (A 27)), (1, .int a1)]) [0, 1] rfl ?_
  unfold fX10_end
  refine m_iload_n C dX10_end_0 rfl ?_
  refine m_iconst C dX10_end_1 ci_0 ?_
  refine m_aload_n C dX10_end_2 rfl ?_
  refine m_get (v := .int (gi s0 27 4)) C fl_X10_91_9 rfl (by decide) rfl dX10_end_3 ?_
  refine m_callSZ C ml_X10_83 ⟨Nat.le_of_ble_eq_true rfl, Nat.le_of_ble_eq_true rfl⟩ [.int a1, .int 0, .int (gi s0 27 4)] [] rfl rfl (Nat.le_of_ble_eq_true rfl) dX10_end_6 (fun o ho => kX10_isIn l D ct A a1 0 (gi s0 27 4) s0 o ho) (fun r_1 s_2 => ?_)
  refine m_if_ne (tgt := 14) C dX10_end_9 rfl ?_ ?_
  · refine m_aload_n C dX10_end_14 rfl ?_
    refine m_iload_n C dX10_end_15 rfl ?_
    refine m_puti C fl_X10_91_9 fw_9_4 rfl (by decide) rfl dX10_end_16 (fun s_3 => ?_)
    refine m_iload_n C dX10_end_19 rfl ?_
    exact m_iret C dX10_end_20
  · refine m_iconst C dX10_end_12 ci_m1 ?_
    exact m_iret C dX10_end_13
def fX10_byteAt (a1 : Int32) (s0 : Sg) : Option (Int32 × Sg) :=
  if (gi s0 27 4) ≤ a1 then
    some ((-1), s0)
  else
    chk (inb 300 a1) <|
    some (gi s0 31 (ix a1), s0)
theorem kX10_byteAt (l : Launch) (D : va_G) (ct : Nat → ClassId) (A : Nat → Nat) (a1 : Int32) (s0 : Sg) (o : Int32 × Sg) (ho : fX10_byteAt a1 s0 = some o) : Con l yX10_byteAt cX10_byteAt 2 (some .int) 0 D ct A [.ref (A 27), .int a1] s0 (embI o) := by
  refine con_start (by decide +kernel) (Nat.le_of_ble_eq_true rfl) ho (fun p e s m args below meth c C => ?_)
  refine m_loc (L2 := [(0, .ref (A 27)), (1, .int a1)]) [0, 1] rfl ?_
  unfold fX10_byteAt
  refine m_iload_n C dX10_byteAt_0 rfl ?_
  refine m_aload_n C dX10_byteAt_1 rfl ?_
  refine m_get (v := .int (gi s0 27 4)) C fl_X10_91_9 rfl (by decide) rfl dX10_byteAt_2 ?_
  refine m_icmp_ge (tgt := 17) C dX10_byteAt_5 rfl ?_ ?_
  · refine m_iconst C dX10_byteAt_17 ci_m1 ?_
    exact m_iret C dX10_byteAt_18
  · refine m_aload_n C dX10_byteAt_8 rfl ?_
    refine m_get (v := .ref (A 31)) C fl_X10_19_9 rfl (by decide) rfl dX10_byteAt_9 ?_
    refine m_iload_n C dX10_byteAt_12 rfl ?_
    refine m_chk (fun h_1 => ?_)
    refine m_iald C rfl h_1 dX10_byteAt_13 ?_
    refine m_goto (tgt := 18) C dX10_byteAt_14 rfl ?_
    exact m_iret C dX10_byteAt_18
def fX10_isLetter (a1 : Int32) (s0 : Sg) : Option (Bool × Sg) :=
  bnd (fX10_isIn a1 97 122 s0) fun r_1 s_2 =>
  if (b2i r_1) = 0 then
    bnd (fX10_isIn a1 65 90 s_2) fun r_3 s_4 =>
    if (b2i r_3) = 0 then
      some (false, s_4)
    else
      some (true, s_4)
  else
    some (true, s_2)
theorem kX10_isLetter (l : Launch) (D : va_G) (ct : Nat → ClassId) (A : Nat → Nat) (a1 : Int32) (s0 : Sg) (o : Bool × Sg) (ho : fX10_isLetter a1 s0 = some o) : Con l yX10_isLetter cX10_isLetter 1 (some .boolean) 1 D ct A [.int a1] s0 (embZ o) := by
  refine con_start (by decide +kernel) (Nat.le_of_ble_eq_true rfl) ho (fun p e s m args below meth c C => ?_)
  refine m_loc (L2 := [(0, .int a1)]) [0] rfl ?_
  unfold fX10_isLetter
  refine m_iload_n C dX10_isLetter_0 rfl ?_
  refine m_bipush C dX10_isLetter_1 cb_97 ?_
  refine m_bipush C dX10_isLetter_3 cb_122 ?_
  refine m_callSZ C ml_X10_83 ⟨Nat.le_of_ble_eq_true rfl, Nat.le_of_ble_eq_true rfl⟩ [.int a1, .int 97, .int 122] [] rfl rfl (Nat.le_of_ble_eq_true rfl) dX10_isLetter_5 (fun o ho => kX10_isIn l D ct A a1 97 122 s0 o ho) (fun r_1 s_2 => ?_)
  refine m_if_ne (tgt := 22) C dX10_isLetter_8 rfl ?_ ?_
  · refine m_iconst C dX10_isLetter_22 ci_1 ?_
    refine m_goto (tgt := 27) C dX10_isLetter_23 rfl ?_
    exact m_zret C true rfl dX10_isLetter_27
  · refine m_iload_n C dX10_isLetter_11 rfl ?_
    refine m_bipush C dX10_isLetter_12 cb_65 ?_
    refine m_bipush C dX10_isLetter_14 cb_90 ?_
    refine m_callSZ C ml_X10_83 ⟨Nat.le_of_ble_eq_true rfl, Nat.le_of_ble_eq_true rfl⟩ [.int a1, .int 65, .int 90] [] rfl rfl (Nat.le_of_ble_eq_true rfl) dX10_isLetter_16 (fun o ho => kX10_isIn l D ct A a1 65 90 s_2 o ho) (fun r_3 s_4 => ?_)
    refine m_if_eq (tgt := 26) C dX10_isLetter_19 rfl ?_ ?_
    · refine m_iconst C dX10_isLetter_26 ci_0 ?_
      exact m_zret C false rfl dX10_isLetter_27
    · refine m_iconst C dX10_isLetter_22 ci_1 ?_
      refine m_goto (tgt := 27) C dX10_isLetter_23 rfl ?_
      exact m_zret C true rfl dX10_isLetter_27
def fX10_isDigit (a1 : Int32) (s0 : Sg) : Option (Bool × Sg) :=
  bnd (fX10_isIn a1 48 57 s0) fun r_1 s_2 =>
  some (r_1, s_2)
theorem kX10_isDigit (l : Launch) (D : va_G) (ct : Nat → ClassId) (A : Nat → Nat) (a1 : Int32) (s0 : Sg) (o : Bool × Sg) (ho : fX10_isDigit a1 s0 = some o) : Con l yX10_isDigit cX10_isDigit 1 (some .boolean) 1 D ct A [.int a1] s0 (embZ o) := by
  refine con_start (by decide +kernel) (Nat.le_of_ble_eq_true rfl) ho (fun p e s m args below meth c C => ?_)
  refine m_loc (L2 := [(0, .int a1)]) [0] rfl ?_
  unfold fX10_isDigit
  refine m_iload_n C dX10_isDigit_0 rfl ?_
  refine m_bipush C dX10_isDigit_1 cb_48 ?_
  refine m_bipush C dX10_isDigit_3 cb_57 ?_
  refine m_callSZ C ml_X10_83 ⟨Nat.le_of_ble_eq_true rfl, Nat.le_of_ble_eq_true rfl⟩ [.int a1, .int 48, .int 57] [] rfl rfl (Nat.le_of_ble_eq_true rfl) dX10_isDigit_5 (fun o ho => kX10_isIn l D ct A a1 48 57 s0 o ho) (fun r_1 s_2 => ?_)
  exact m_zret C r_1 rfl dX10_isDigit_8
def fX10_nextToken_161_b (k_27 : Sg → Option (Sg)) (rec161 : Sg → Option (Sg)) (s_29 : Sg) : Option (Sg) :=
  bnd (fX10_byteAt (gi s_29 27 7) s_29) fun r_30 s_31 =>
  bnd (fX10_isLetter r_30 s_31) fun r_32 s_33 =>
  if (b2i r_32) = 0 then
    k_27 s_33
  else
    bv (fun (s_34 : Sg) => 
      bv (si s_34 27 7 ((gi s_34 27 7) + 1)) fun s_36 =>
      rec161 s_36)
    fun k_35 =>
    if 7 ≤ ((gi s_33 27 7) - (gi s_33 27 8)) then
      k_35 s_33
    else
      bnd (fX10_byteAt (gi s_33 27 7) s_33) fun r_37 s_38 =>
      bv (sl s_38 27 11 (((gl s_33 27 11) <<< (Int32.toInt64 8 &&& 63)) ||| (Int32.toInt64 r_37))) fun s_39 =>
      k_35 s_39
def fX10_nextToken_85_b (rec85 : Sg → Option (Sg)) (s_42 : Sg) : Option (Sg) :=
  bnd (fX10_byteAt (gi s_42 27 7) s_42) fun r_43 s_44 =>
  bnd (fX10_isDigit r_43 s_44) fun r_45 s_46 =>
  if (b2i r_45) = 0 then
    some s_46
  else
    bv (fun (s_47 : Sg) => 
      bv (si s_47 27 7 ((gi s_47 27 7) + 1)) fun s_49 =>
      rec85 s_49)
    fun k_48 =>
    if 100000 ≤ (gi s_46 27 10) then
      k_48 s_46
    else
      bnd (fX10_byteAt (gi s_46 27 7) s_46) fun r_50 s_51 =>
      bv (si s_51 27 10 (((10 * (gi s_46 27 10)) + r_50) - 48)) fun s_52 =>
      k_48 s_52
def fX10_nextToken_0_b (k_2 : Sg → Option (Sg)) (rec0 : Sg → Option (Sg)) (s_54 : Sg) : Option (Sg) :=
  bnd (fX10_byteAt (gi s_54 27 7) s_54) fun r_55 s_56 =>
  bv (fun (s_57 : Sg) => 
    bv (si s_57 27 7 ((gi s_57 27 7) + 1)) fun s_59 =>
    rec0 s_59)
  fun k_58 =>
  if r_55 = 32 then
    k_58 s_56
  else
    bnd (fX10_byteAt (gi s_56 27 7) s_56) fun r_60 s_61 =>
    if r_60 = 10 then
      k_58 s_61
    else
      k_2 s_61
def fX10_nextToken (s0 : Sg) : Option (Sg) :=
  bv (fun (s_1 : Sg) => 
    bv (si s_1 27 8 (gi s_1 27 7)) fun s_3 =>
    bnd (fX10_byteAt (gi s_3 27 7) s_3) fun r_4 s_5 =>
    if 0 ≤ r_4 then
      bnd (fX10_isDigit r_4 s_5) fun r_6 s_7 =>
      if (b2i r_6) = 0 then
        bnd (fX10_isLetter r_4 s_7) fun r_8 s_9 =>
        if (b2i r_8) = 0 then
          bv (si s_9 27 7 ((gi s_9 27 7) + 1)) fun s_10 =>
          bv (fun (y_11 : Bool) => 
            bv (fun (y_13 : Int32) => 
              bv (si s_10 27 9 y_13) fun s_15 =>
              bv (
                bnd (fX10_byteAt (gi s_15 27 7) s_15) fun r_17 s_18 =>
                if r_17 = 61 then
                  bv (si s_18 27 7 ((gi s_18 27 7) + 1)) fun s_19 =>
                  bv (fun (y_20 : Int32) => 
                    bv (si s_19 27 9 y_20) fun s_22 =>
                    some s_22)
                  fun k_21 =>
                  if r_4 = 60 then
                    k_21 4
                  else
                    k_21 5
                else
                  some s_18)
              fun k_16 =>
              if r_4 = 60 then
                k_16
              else
                if r_4 = 62 then
                  k_16
                else
                  some s_15)
            fun k_14 =>
            if (b2i y_11) = 0 then
              k_14 3
            else
              k_14 r_4)
          fun k_12 =>
          bv (
            k_12 true)
          fun k_23 =>
          if r_4 = 60 then
            k_23
          else
            if r_4 = 62 then
              k_23
            else
              if r_4 = 61 then
                k_23
              else
                if r_4 = 35 then
                  k_23
                else
                  if r_4 = 43 then
                    k_23
                  else
                    if r_4 = 45 then
                      k_23
                    else
                      if r_4 = 42 then
                        k_23
                      else
                        if r_4 = 47 then
                          k_23
                        else
                          if r_4 = 40 then
                            k_23
                          else
                            if r_4 = 41 then
                              k_23
                            else
                              if r_4 = 59 then
                                k_23
                              else
                                k_12 false
        else
          bv (si s_9 27 9 2) fun s_24 =>
          bv (sl s_24 27 11 0) fun s_25 =>
          bv (fun (s_26 : Sg) => 
            if ((gi s_26 27 7) - (gi s_26 27 8)) ≤ 7 then
              some s_26
            else
              bv (sl s_26 27 11 0) fun s_28 =>
              some s_28)
          fun k_27 =>
          lo1 (fX10_nextToken_161_b k_27) FU s_25
      else
        bv (si s_7 27 9 1) fun s_40 =>
        bv (si s_40 27 10 0) fun s_41 =>
        lo1 (fX10_nextToken_85_b) FU s_41
    else
      bv (si s_5 27 9 0) fun s_53 =>
      some s_53)
  fun k_2 =>
  lo1 (fX10_nextToken_0_b k_2) FU s0
theorem wX10_nextToken_161 {p : Program} {l : Launch} {e : Env} {s : State} {m : MethodId} {args : Array Value} {below : List Frame} {meth : Method} {c : Code} {D : va_G} {ct : Nat → ClassId} {A : Nat → Nat} (C : Cx p m c cX10_nextToken 3 s args yX10_nextToken.cls meth none D ct A) (k_27 : Sg → Option (Sg)) (hk_27 : ∀ (s_26 : Sg), Wm p l e (rmD 2) s m args below meth c D ct A 3 embV 223 [(0, .ref (A 27))] [] s_26 (k_27 s_26)) : ∀ (n : Nat) (s_29 : Sg), Wm p l e (rmD 2) s m args below meth c D ct A 3 embV 161 [(0, .ref (A 27))] [] s_29 (lo1 (fX10_nextToken_161_b k_27) n s_29) := by
  intro n
  induction n with
  | zero => intro s_29; exact m_none
  | succ n hrec161 =>
    intro s_29
    refine (show Wm p l e (rmD 2) s m args below meth c D ct A 3 embV 161 [(0, .ref (A 27))] [] s_29 (fX10_nextToken_161_b k_27 (lo1 (fX10_nextToken_161_b k_27) n) s_29) from ?_)
    generalize lo1 (fX10_nextToken_161_b k_27) n = rec161 at hrec161 ⊢
    unfold fX10_nextToken_161_b
    refine m_aload_n C dX10_nextToken_161 rfl ?_
    refine m_aload_n C dX10_nextToken_162 rfl ?_
    refine m_get (v := .int (gi s_29 27 7)) C fl_X10_98_9 rfl (by decide) rfl dX10_nextToken_163 ?_
    refine m_callVI C ml_X10_101 ⟨Nat.le_of_ble_eq_true rfl, Nat.le_of_ble_eq_true rfl⟩ rfl rfl [.int (gi s_29 27 7)] [] rfl rfl (Nat.le_of_ble_eq_true rfl) dX10_nextToken_166 (fun o ho => kX10_byteAt l D ct A (gi s_29 27 7) s_29 o ho) (fun r_30 s_31 => ?_)
    refine m_callSZ C ml_X10_118 ⟨Nat.le_of_ble_eq_true rfl, Nat.le_of_ble_eq_true rfl⟩ [.int r_30] [] rfl rfl (Nat.le_of_ble_eq_true rfl) dX10_nextToken_169 (fun o ho => kX10_isLetter l D ct A r_30 s_31 o ho) (fun r_32 s_33 => ?_)
    refine m_if_eq (tgt := 223) C dX10_nextToken_172 rfl ?_ ?_
    · refine m_loc (L2 := [(0, .ref (A 27))]) [0] rfl ?_
      exact hk_27 s_33
    · refine m_aload_n C dX10_nextToken_175 rfl ?_
      refine m_get (v := .int (gi s_33 27 7)) C fl_X10_98_9 rfl (by decide) rfl dX10_nextToken_176 ?_
      refine m_aload_n C dX10_nextToken_179 rfl ?_
      refine m_get (v := .int (gi s_33 27 8)) C fl_X10_104_9 rfl (by decide) rfl dX10_nextToken_180 ?_
      refine m_isub C dX10_nextToken_183 ?_
      refine m_bipush C dX10_nextToken_184 cb_7 ?_
      refine m_jn (P := fun (k_35 : Sg → Option (Sg)) => ∀ (s_34 : Sg), Wm p l e (rmD 2) s m args below meth c D ct A 3 embV 210 [(0, .ref (A 27))] [] s_34 (k_35 s_34)) ?_ (fun k_35 hk_35 => ?_)
      · intro s_34
        refine m_aload_n C dX10_nextToken_210 rfl ?_
        refine m_dup C dX10_nextToken_211 rfl ?_
        refine m_get (v := .int (gi s_34 27 7)) C fl_X10_98_9 rfl (by decide) rfl dX10_nextToken_212 ?_
        refine m_iconst C dX10_nextToken_215 ci_1 ?_
        refine m_iadd C dX10_nextToken_216 ?_
        refine m_puti C fl_X10_98_9 fw_9_7 rfl (by decide) rfl dX10_nextToken_217 (fun s_36 => ?_)
        refine m_goto (tgt := 161) C dX10_nextToken_220 rfl ?_
        refine m_loc (L2 := [(0, .ref (A 27))]) [0] rfl ?_
        exact hrec161 s_36
      refine m_icmp_ge (tgt := 210) C dX10_nextToken_186 rfl ?_ ?_
      · refine m_loc (L2 := [(0, .ref (A 27))]) [0] rfl ?_
        exact hk_35 s_33
      · refine m_aload_n C dX10_nextToken_189 rfl ?_
        refine m_aload_n C dX10_nextToken_190 rfl ?_
        refine m_get (v := .long (gl s_33 27 11)) C fl_X10_121_9 rfl (by decide) rfl dX10_nextToken_191 ?_
        refine m_bipush C dX10_nextToken_194 cb_8 ?_
        refine m_lshl C dX10_nextToken_196 ?_
        refine m_aload_n C dX10_nextToken_197 rfl ?_
        refine m_aload_n C dX10_nextToken_198 rfl ?_
        refine m_get (v := .int (gi s_33 27 7)) C fl_X10_98_9 rfl (by decide) rfl dX10_nextToken_199 ?_
        refine m_callVI C ml_X10_101 ⟨Nat.le_of_ble_eq_true rfl, Nat.le_of_ble_eq_true rfl⟩ rfl rfl [.int (gi s_33 27 7)] [.long ((gl s_33 27 11) <<< (Int32.toInt64 8 &&& 63)), .ref (A 27)] rfl rfl (Nat.le_of_ble_eq_true rfl) dX10_nextToken_202 (fun o ho => kX10_byteAt l D ct A (gi s_33 27 7) s_33 o ho) (fun r_37 s_38 => ?_)
        refine m_i2l C dX10_nextToken_205 ?_
        refine m_lor C dX10_nextToken_206 ?_
        refine m_putl C fl_X10_121_9 fw_9_11 rfl (by decide) rfl dX10_nextToken_207 (fun s_39 => ?_)
        refine m_loc (L2 := [(0, .ref (A 27))]) [0] rfl ?_
        exact hk_35 s_39
theorem wX10_nextToken_85 {p : Program} {l : Launch} {e : Env} {s : State} {m : MethodId} {args : Array Value} {below : List Frame} {meth : Method} {c : Code} {D : va_G} {ct : Nat → ClassId} {A : Nat → Nat} (C : Cx p m c cX10_nextToken 3 s args yX10_nextToken.cls meth none D ct A) : ∀ (n : Nat) (s_42 : Sg), Wm p l e (rmD 2) s m args below meth c D ct A 3 embV 85 [(0, .ref (A 27))] [] s_42 (lo1 (fX10_nextToken_85_b) n s_42) := by
  intro n
  induction n with
  | zero => intro s_42; exact m_none
  | succ n hrec85 =>
    intro s_42
    refine (show Wm p l e (rmD 2) s m args below meth c D ct A 3 embV 85 [(0, .ref (A 27))] [] s_42 (fX10_nextToken_85_b (lo1 (fX10_nextToken_85_b) n) s_42) from ?_)
    generalize lo1 (fX10_nextToken_85_b) n = rec85 at hrec85 ⊢
    unfold fX10_nextToken_85_b
    refine m_aload_n C dX10_nextToken_85 rfl ?_
    refine m_aload_n C dX10_nextToken_86 rfl ?_
    refine m_get (v := .int (gi s_42 27 7)) C fl_X10_98_9 rfl (by decide) rfl dX10_nextToken_87 ?_
    refine m_callVI C ml_X10_101 ⟨Nat.le_of_ble_eq_true rfl, Nat.le_of_ble_eq_true rfl⟩ rfl rfl [.int (gi s_42 27 7)] [] rfl rfl (Nat.le_of_ble_eq_true rfl) dX10_nextToken_90 (fun o ho => kX10_byteAt l D ct A (gi s_42 27 7) s_42 o ho) (fun r_43 s_44 => ?_)
    refine m_callSZ C ml_X10_110 ⟨Nat.le_of_ble_eq_true rfl, Nat.le_of_ble_eq_true rfl⟩ [.int r_43] [] rfl rfl (Nat.le_of_ble_eq_true rfl) dX10_nextToken_93 (fun o ho => kX10_isDigit l D ct A r_43 s_44 o ho) (fun r_45 s_46 => ?_)
    refine m_if_eq (tgt := 390) C dX10_nextToken_96 rfl ?_ ?_
    · exact m_vret C dX10_nextToken_390
    · refine m_aload_n C dX10_nextToken_99 rfl ?_
      refine m_get (v := .int (gi s_46 27 10)) C fl_X10_114_9 rfl (by decide) rfl dX10_nextToken_100 ?_
      refine m_ldc C wd_1057 dX10_nextToken_103 ?_
      refine m_jn (P := fun (k_48 : Sg → Option (Sg)) => ∀ (s_47 : Sg), Wm p l e (rmD 2) s m args below meth c D ct A 3 embV 131 [(0, .ref (A 27))] [] s_47 (k_48 s_47)) ?_ (fun k_48 hk_48 => ?_)
      · intro s_47
        refine m_aload_n C dX10_nextToken_131 rfl ?_
        refine m_dup C dX10_nextToken_132 rfl ?_
        refine m_get (v := .int (gi s_47 27 7)) C fl_X10_98_9 rfl (by decide) rfl dX10_nextToken_133 ?_
        refine m_iconst C dX10_nextToken_136 ci_1 ?_
        refine m_iadd C dX10_nextToken_137 ?_
        refine m_puti C fl_X10_98_9 fw_9_7 rfl (by decide) rfl dX10_nextToken_138 (fun s_49 => ?_)
        refine m_goto (tgt := 85) C dX10_nextToken_141 rfl ?_
        refine m_loc (L2 := [(0, .ref (A 27))]) [0] rfl ?_
        exact hrec85 s_49
      refine m_icmp_ge (tgt := 131) C dX10_nextToken_105 rfl ?_ ?_
      · refine m_loc (L2 := [(0, .ref (A 27))]) [0] rfl ?_
        exact hk_48 s_46
      · refine m_aload_n C dX10_nextToken_108 rfl ?_
        refine m_bipush C dX10_nextToken_109 cb_10 ?_
        refine m_aload_n C dX10_nextToken_111 rfl ?_
        refine m_get (v := .int (gi s_46 27 10)) C fl_X10_114_9 rfl (by decide) rfl dX10_nextToken_112 ?_
        refine m_imul C dX10_nextToken_115 ?_
        refine m_aload_n C dX10_nextToken_116 rfl ?_
        refine m_aload_n C dX10_nextToken_117 rfl ?_
        refine m_get (v := .int (gi s_46 27 7)) C fl_X10_98_9 rfl (by decide) rfl dX10_nextToken_118 ?_
        refine m_callVI C ml_X10_101 ⟨Nat.le_of_ble_eq_true rfl, Nat.le_of_ble_eq_true rfl⟩ rfl rfl [.int (gi s_46 27 7)] [.int (10 * (gi s_46 27 10)), .ref (A 27)] rfl rfl (Nat.le_of_ble_eq_true rfl) dX10_nextToken_121 (fun o ho => kX10_byteAt l D ct A (gi s_46 27 7) s_46 o ho) (fun r_50 s_51 => ?_)
        refine m_iadd C dX10_nextToken_124 ?_
        refine m_bipush C dX10_nextToken_125 cb_48 ?_
        refine m_isub C dX10_nextToken_127 ?_
        refine m_puti C fl_X10_114_9 fw_9_10 rfl (by decide) rfl dX10_nextToken_128 (fun s_52 => ?_)
        refine m_loc (L2 := [(0, .ref (A 27))]) [0] rfl ?_
        exact hk_48 s_52
theorem wX10_nextToken_0 {p : Program} {l : Launch} {e : Env} {s : State} {m : MethodId} {args : Array Value} {below : List Frame} {meth : Method} {c : Code} {D : va_G} {ct : Nat → ClassId} {A : Nat → Nat} (C : Cx p m c cX10_nextToken 3 s args yX10_nextToken.cls meth none D ct A) (k_2 : Sg → Option (Sg)) (hk_2 : ∀ (s_1 : Sg), Wm p l e (rmD 2) s m args below meth c D ct A 3 embV 39 [(0, .ref (A 27))] [] s_1 (k_2 s_1)) : ∀ (n : Nat) (s_54 : Sg), Wm p l e (rmD 2) s m args below meth c D ct A 3 embV 0 [(0, .ref (A 27))] [] s_54 (lo1 (fX10_nextToken_0_b k_2) n s_54) := by
  intro n
  induction n with
  | zero => intro s_54; exact m_none
  | succ n hrec0 =>
    intro s_54
    refine (show Wm p l e (rmD 2) s m args below meth c D ct A 3 embV 0 [(0, .ref (A 27))] [] s_54 (fX10_nextToken_0_b k_2 (lo1 (fX10_nextToken_0_b k_2) n) s_54) from ?_)
    generalize lo1 (fX10_nextToken_0_b k_2) n = rec0 at hrec0 ⊢
    unfold fX10_nextToken_0_b
    refine m_aload_n C dX10_nextToken_0 rfl ?_
    refine m_aload_n C dX10_nextToken_1 rfl ?_
    refine m_get (v := .int (gi s_54 27 7)) C fl_X10_98_9 rfl (by decide) rfl dX10_nextToken_2 ?_
    refine m_callVI C ml_X10_101 ⟨Nat.le_of_ble_eq_true rfl, Nat.le_of_ble_eq_true rfl⟩ rfl rfl [.int (gi s_54 27 7)] [] rfl rfl (Nat.le_of_ble_eq_true rfl) dX10_nextToken_5 (fun o ho => kX10_byteAt l D ct A (gi s_54 27 7) s_54 o ho) (fun r_55 s_56 => ?_)
    refine m_bipush C dX10_nextToken_8 cb_32 ?_
    refine m_jn (P := fun (k_58 : Sg → Option (Sg)) => ∀ (s_57 : Sg), Wm p l e (rmD 2) s m args below meth c D ct A 3 embV 26 [(0, .ref (A 27))] [] s_57 (k_58 s_57)) ?_ (fun k_58 hk_58 => ?_)
    · intro s_57
      refine m_aload_n C dX10_nextToken_26 rfl ?_
      refine m_dup C dX10_nextToken_27 rfl ?_
      refine m_get (v := .int (gi s_57 27 7)) C fl_X10_98_9 rfl (by decide) rfl dX10_nextToken_28 ?_
      refine m_iconst C dX10_nextToken_31 ci_1 ?_
      refine m_iadd C dX10_nextToken_32 ?_
      refine m_puti C fl_X10_98_9 fw_9_7 rfl (by decide) rfl dX10_nextToken_33 (fun s_59 => ?_)
      refine m_goto (tgt := 0) C dX10_nextToken_36 rfl ?_
      refine m_loc (L2 := [(0, .ref (A 27))]) [0] rfl ?_
      exact hrec0 s_59
    refine m_icmp_eq (tgt := 26) C dX10_nextToken_10 rfl ?_ ?_
    · refine m_loc (L2 := [(0, .ref (A 27))]) [0] rfl ?_
      exact hk_58 s_56
    · refine m_aload_n C dX10_nextToken_13 rfl ?_
      refine m_aload_n C dX10_nextToken_14 rfl ?_
      refine m_get (v := .int (gi s_56 27 7)) C fl_X10_98_9 rfl (by decide) rfl dX10_nextToken_15 ?_
      refine m_callVI C ml_X10_101 ⟨Nat.le_of_ble_eq_true rfl, Nat.le_of_ble_eq_true rfl⟩ rfl rfl [.int (gi s_56 27 7)] [] rfl rfl (Nat.le_of_ble_eq_true rfl) dX10_nextToken_18 (fun o ho => kX10_byteAt l D ct A (gi s_56 27 7) s_56 o ho) (fun r_60 s_61 => ?_)
      refine m_bipush C dX10_nextToken_21 cb_10 ?_
      refine m_icmp_ne (tgt := 39) C dX10_nextToken_23 rfl ?_ ?_
      · refine m_loc (L2 := [(0, .ref (A 27))]) [0] rfl ?_
        exact hk_2 s_61
      · refine m_loc (L2 := [(0, .ref (A 27))]) [0] rfl ?_
        exact hk_58 s_61
theorem kX10_nextToken (l : Launch) (D : va_G) (ct : Nat → ClassId) (A : Nat → Nat) (s0 : Sg) (o : Sg) (ho : fX10_nextToken s0 = some o) : Con l yX10_nextToken cX10_nextToken 3 none 2 D ct A [.ref (A 27)] s0 (embV o) := by
  refine con_start (by decide +kernel) (Nat.le_of_ble_eq_true rfl) ho (fun p e s m args below meth c C => ?_)
  refine m_loc (L2 := [(0, .ref (A 27))]) [0] rfl ?_
  unfold fX10_nextToken
  refine m_jn (P := fun (k_2 : Sg → Option (Sg)) => ∀ (s_1 : Sg), Wm p l e (rmD 2) s m args below meth c D ct A 3 embV 39 [(0, .ref (A 27))] [] s_1 (k_2 s_1)) ?_ (fun k_2 hk_2 => ?_)
  · intro s_1
    refine m_aload_n C dX10_nextToken_39 rfl ?_
    refine m_aload_n C dX10_nextToken_40 rfl ?_
    refine m_get (v := .int (gi s_1 27 7)) C fl_X10_98_9 rfl (by decide) rfl dX10_nextToken_41 ?_
    refine m_puti C fl_X10_104_9 fw_9_8 rfl (by decide) rfl dX10_nextToken_44 (fun s_3 => ?_)
    refine m_aload_n C dX10_nextToken_47 rfl ?_
    refine m_aload_n C dX10_nextToken_48 rfl ?_
    refine m_get (v := .int (gi s_3 27 7)) C fl_X10_98_9 rfl (by decide) rfl dX10_nextToken_49 ?_
    refine m_callVI C ml_X10_101 ⟨Nat.le_of_ble_eq_true rfl, Nat.le_of_ble_eq_true rfl⟩ rfl rfl [.int (gi s_3 27 7)] [] rfl rfl (Nat.le_of_ble_eq_true rfl) dX10_nextToken_52 (fun o ho => kX10_byteAt l D ct A (gi s_3 27 7) s_3 o ho) (fun r_4 s_5 => ?_)
    refine m_istore_n (L2 := [(1, .int r_4), (0, .ref (A 27))]) C dX10_nextToken_55 rfl (by decide) rfl ?_
    refine m_iload_n C dX10_nextToken_56 rfl ?_
    refine m_if_ge (tgt := 68) C dX10_nextToken_57 rfl ?_ ?_
    · refine m_iload_n C dX10_nextToken_68 rfl ?_
      refine m_callSZ C ml_X10_110 ⟨Nat.le_of_ble_eq_true rfl, Nat.le_of_ble_eq_true rfl⟩ [.int r_4] [] rfl rfl (Nat.le_of_ble_eq_true rfl) dX10_nextToken_69 (fun o ho => kX10_isDigit l D ct A r_4 s_5 o ho) (fun r_6 s_7 => ?_)
      refine m_if_eq (tgt := 144) C dX10_nextToken_72 rfl ?_ ?_
      · refine m_iload_n C dX10_nextToken_144 rfl ?_
        refine m_callSZ C ml_X10_118 ⟨Nat.le_of_ble_eq_true rfl, Nat.le_of_ble_eq_true rfl⟩ [.int r_4] [] rfl rfl (Nat.le_of_ble_eq_true rfl) dX10_nextToken_145 (fun o ho => kX10_isLetter l D ct A r_4 s_7 o ho) (fun r_8 s_9 => ?_)
        refine m_if_eq (tgt := 245) C dX10_nextToken_148 rfl ?_ ?_
        · refine m_aload_n C dX10_nextToken_245 rfl ?_
          refine m_dup C dX10_nextToken_246 rfl ?_
          refine m_get (v := .int (gi s_9 27 7)) C fl_X10_98_9 rfl (by decide) rfl dX10_nextToken_247 ?_
          refine m_iconst C dX10_nextToken_250 ci_1 ?_
          refine m_iadd C dX10_nextToken_251 ?_
          refine m_puti C fl_X10_98_9 fw_9_7 rfl (by decide) rfl dX10_nextToken_252 (fun s_10 => ?_)
          refine m_iload_n C dX10_nextToken_255 rfl ?_
          refine m_bipush C dX10_nextToken_256 cb_60 ?_
          refine m_jn (P := fun (k_12 : Bool → Option (Sg)) => ∀ (y_11 : Bool), Wm p l e (rmD 2) s m args below meth c D ct A 3 embV 326 [(0, .ref (A 27)), (1, .int r_4)] [.int (b2i y_11)] s_10 (k_12 y_11)) ?_ (fun k_12 hk_12 => ?_)
          · intro y_11
            refine m_istore_n (L2 := [(2, .int (b2i y_11)), (0, .ref (A 27)), (1, .int r_4)]) C dX10_nextToken_326 rfl (by decide) rfl ?_
            refine m_aload_n C dX10_nextToken_327 rfl ?_
            refine m_iload_n C dX10_nextToken_328 rfl ?_
            refine m_jn (P := fun (k_14 : Int32 → Option (Sg)) => ∀ (y_13 : Int32), Wm p l e (rmD 2) s m args below meth c D ct A 3 embV 337 [(0, .ref (A 27)), (1, .int r_4)] [.int y_13, .ref (A 27)] s_10 (k_14 y_13)) ?_ (fun k_14 hk_14 => ?_)
            · intro y_13
              refine m_puti C fl_X10_107_9 fw_9_9 rfl (by decide) rfl dX10_nextToken_337 (fun s_15 => ?_)
              refine m_iload_n C dX10_nextToken_340 rfl ?_
              refine m_bipush C dX10_nextToken_341 cb_60 ?_
              refine m_jn (P := fun (k_16 : Option (Sg)) => Wm p l e (rmD 2) s m args below meth c D ct A 3 embV 352 [(0, .ref (A 27)), (1, .int r_4)] [] s_15 (k_16)) ?_ (fun k_16 hk_16 => ?_)
              · refine m_aload_n C dX10_nextToken_352 rfl ?_
                refine m_aload_n C dX10_nextToken_353 rfl ?_
                refine m_get (v := .int (gi s_15 27 7)) C fl_X10_98_9 rfl (by decide) rfl dX10_nextToken_354 ?_
                refine m_callVI C ml_X10_101 ⟨Nat.le_of_ble_eq_true rfl, Nat.le_of_ble_eq_true rfl⟩ rfl rfl [.int (gi s_15 27 7)] [] rfl rfl (Nat.le_of_ble_eq_true rfl) dX10_nextToken_357 (fun o ho => kX10_byteAt l D ct A (gi s_15 27 7) s_15 o ho) (fun r_17 s_18 => ?_)
                refine m_bipush C dX10_nextToken_360 cb_61 ?_
                refine m_icmp_ne (tgt := 390) C dX10_nextToken_362 rfl ?_ ?_
                · exact m_vret C dX10_nextToken_390
                · refine m_aload_n C dX10_nextToken_365 rfl ?_
                  refine m_dup C dX10_nextToken_366 rfl ?_
                  refine m_get (v := .int (gi s_18 27 7)) C fl_X10_98_9 rfl (by decide) rfl dX10_nextToken_367 ?_
                  refine m_iconst C dX10_nextToken_370 ci_1 ?_
                  refine m_iadd C dX10_nextToken_371 ?_
                  refine m_puti C fl_X10_98_9 fw_9_7 rfl (by decide) rfl dX10_nextToken_372 (fun s_19 => ?_)
                  refine m_aload_n C dX10_nextToken_375 rfl ?_
                  refine m_iload_n C dX10_nextToken_376 rfl ?_
                  refine m_bipush C dX10_nextToken_377 cb_60 ?_
                  refine m_jn (P := fun (k_21 : Int32 → Option (Sg)) => ∀ (y_20 : Int32), Wm p l e (rmD 2) s m args below meth c D ct A 3 embV 387 [] [.int y_20, .ref (A 27)] s_19 (k_21 y_20)) ?_ (fun k_21 hk_21 => ?_)
                  · intro y_20
                    refine m_puti C fl_X10_107_9 fw_9_9 rfl (by decide) rfl dX10_nextToken_387 (fun s_22 => ?_)
                    exact m_vret C dX10_nextToken_390
                  refine m_icmp_ne (tgt := 386) C dX10_nextToken_379 rfl ?_ ?_
                  · refine m_iconst C dX10_nextToken_386 ci_5 ?_
                    refine m_loc (L2 := []) [] rfl ?_
                    exact hk_21 5
                  · refine m_iconst C dX10_nextToken_382 ci_4 ?_
                    refine m_goto (tgt := 387) C dX10_nextToken_383 rfl ?_
                    refine m_loc (L2 := []) [] rfl ?_
                    exact hk_21 4
              refine m_icmp_eq (tgt := 352) C dX10_nextToken_343 rfl ?_ ?_
              · refine m_loc (L2 := [(0, .ref (A 27)), (1, .int r_4)]) [0, 1] rfl ?_
                exact hk_16
              · refine m_iload_n C dX10_nextToken_346 rfl ?_
                refine m_bipush C dX10_nextToken_347 cb_62 ?_
                refine m_icmp_ne (tgt := 390) C dX10_nextToken_349 rfl ?_ ?_
                · exact m_vret C dX10_nextToken_390
                · refine m_loc (L2 := [(0, .ref (A 27)), (1, .int r_4)]) [0, 1] rfl ?_
                  exact hk_16
            refine m_if_eq (tgt := 336) C dX10_nextToken_329 rfl ?_ ?_
            · refine m_iconst C dX10_nextToken_336 ci_3 ?_
              refine m_loc (L2 := [(0, .ref (A 27)), (1, .int r_4)]) [1, 2] rfl ?_
              exact hk_14 3
            · refine m_iload_n C dX10_nextToken_332 rfl ?_
              refine m_goto (tgt := 337) C dX10_nextToken_333 rfl ?_
              refine m_loc (L2 := [(0, .ref (A 27)), (1, .int r_4)]) [1, 2] rfl ?_
              exact hk_14 r_4
          refine m_jn (P := fun (k_23 : Option (Sg)) => Wm p l e (rmD 2) s m args below meth c D ct A 3 embV 321 [(0, .ref (A 27)), (1, .int r_4)] [] s_10 (k_23)) ?_ (fun k_23 hk_23 => ?_)
          · refine m_iconst C dX10_nextToken_321 ci_1 ?_
            refine m_goto (tgt := 326) C dX10_nextToken_322 rfl ?_
            refine m_loc (L2 := [(0, .ref (A 27)), (1, .int r_4)]) [0, 1] rfl ?_
            exact hk_12 true
          refine m_icmp_eq (tgt := 321) C dX10_nextToken_258 rfl ?_ ?_
          · refine m_loc (L2 := [(0, .ref (A 27)), (1, .int r_4)]) [1, 0] rfl ?_
            exact hk_23
          · refine m_iload_n C dX10_nextToken_261 rfl ?_
            refine m_bipush C dX10_nextToken_262 cb_62 ?_
            refine m_icmp_eq (tgt := 321) C dX10_nextToken_264 rfl ?_ ?_
            · refine m_loc (L2 := [(0, .ref (A 27)), (1, .int r_4)]) [1, 0] rfl ?_
              exact hk_23
            · refine m_iload_n C dX10_nextToken_267 rfl ?_
              refine m_bipush C dX10_nextToken_268 cb_61 ?_
              refine m_icmp_eq (tgt := 321) C dX10_nextToken_270 rfl ?_ ?_
              · refine m_loc (L2 := [(0, .ref (A 27)), (1, .int r_4)]) [1, 0] rfl ?_
                exact hk_23
              · refine m_iload_n C dX10_nextToken_273 rfl ?_
                refine m_bipush C dX10_nextToken_274 cb_35 ?_
                refine m_icmp_eq (tgt := 321) C dX10_nextToken_276 rfl ?_ ?_
                · refine m_loc (L2 := [(0, .ref (A 27)), (1, .int r_4)]) [1, 0] rfl ?_
                  exact hk_23
                · refine m_iload_n C dX10_nextToken_279 rfl ?_
                  refine m_bipush C dX10_nextToken_280 cb_43 ?_
                  refine m_icmp_eq (tgt := 321) C dX10_nextToken_282 rfl ?_ ?_
                  · refine m_loc (L2 := [(0, .ref (A 27)), (1, .int r_4)]) [1, 0] rfl ?_
                    exact hk_23
                  · refine m_iload_n C dX10_nextToken_285 rfl ?_
                    refine m_bipush C dX10_nextToken_286 cb_45 ?_
                    refine m_icmp_eq (tgt := 321) C dX10_nextToken_288 rfl ?_ ?_
                    · refine m_loc (L2 := [(0, .ref (A 27)), (1, .int r_4)]) [1, 0] rfl ?_
                      exact hk_23
                    · refine m_iload_n C dX10_nextToken_291 rfl ?_
                      refine m_bipush C dX10_nextToken_292 cb_42 ?_
                      refine m_icmp_eq (tgt := 321) C dX10_nextToken_294 rfl ?_ ?_
                      · refine m_loc (L2 := [(0, .ref (A 27)), (1, .int r_4)]) [1, 0] rfl ?_
                        exact hk_23
                      · refine m_iload_n C dX10_nextToken_297 rfl ?_
                        refine m_bipush C dX10_nextToken_298 cb_47 ?_
                        refine m_icmp_eq (tgt := 321) C dX10_nextToken_300 rfl ?_ ?_
                        · refine m_loc (L2 := [(0, .ref (A 27)), (1, .int r_4)]) [1, 0] rfl ?_
                          exact hk_23
                        · refine m_iload_n C dX10_nextToken_303 rfl ?_
                          refine m_bipush C dX10_nextToken_304 cb_40 ?_
                          refine m_icmp_eq (tgt := 321) C dX10_nextToken_306 rfl ?_ ?_
                          · refine m_loc (L2 := [(0, .ref (A 27)), (1, .int r_4)]) [1, 0] rfl ?_
                            exact hk_23
                          · refine m_iload_n C dX10_nextToken_309 rfl ?_
                            refine m_bipush C dX10_nextToken_310 cb_41 ?_
                            refine m_icmp_eq (tgt := 321) C dX10_nextToken_312 rfl ?_ ?_
                            · refine m_loc (L2 := [(0, .ref (A 27)), (1, .int r_4)]) [1, 0] rfl ?_
                              exact hk_23
                            · refine m_iload_n C dX10_nextToken_315 rfl ?_
                              refine m_bipush C dX10_nextToken_316 cb_59 ?_
                              refine m_icmp_ne (tgt := 325) C dX10_nextToken_318 rfl ?_ ?_
                              · refine m_iconst C dX10_nextToken_325 ci_0 ?_
                                refine m_loc (L2 := [(0, .ref (A 27)), (1, .int r_4)]) [1, 0] rfl ?_
                                exact hk_12 false
                              · refine m_loc (L2 := [(0, .ref (A 27)), (1, .int r_4)]) [1, 0] rfl ?_
                                exact hk_23
        · refine m_aload_n C dX10_nextToken_151 rfl ?_
          refine m_iconst C dX10_nextToken_152 ci_2 ?_
          refine m_puti C fl_X10_107_9 fw_9_9 rfl (by decide) rfl dX10_nextToken_153 (fun s_24 => ?_)
          refine m_aload_n C dX10_nextToken_156 rfl ?_
          refine m_lconst C dX10_nextToken_157 cl_0 ?_
          refine m_putl C fl_X10_121_9 fw_9_11 rfl (by decide) rfl dX10_nextToken_158 (fun s_25 => ?_)
          refine m_jn (P := fun (k_27 : Sg → Option (Sg)) => ∀ (s_26 : Sg), Wm p l e (rmD 2) s m args below meth c D ct A 3 embV 223 [(0, .ref (A 27))] [] s_26 (k_27 s_26)) ?_ (fun k_27 hk_27 => ?_)
          · intro s_26
            refine m_aload_n C dX10_nextToken_223 rfl ?_
            refine m_get (v := .int (gi s_26 27 7)) C fl_X10_98_9 rfl (by decide) rfl dX10_nextToken_224 ?_
            refine m_aload_n C dX10_nextToken_227 rfl ?_
            refine m_get (v := .int (gi s_26 27 8)) C fl_X10_104_9 rfl (by decide) rfl dX10_nextToken_228 ?_
            refine m_isub C dX10_nextToken_231 ?_
            refine m_bipush C dX10_nextToken_232 cb_7 ?_
            refine m_icmp_le (tgt := 390) C dX10_nextToken_234 rfl ?_ ?_
            · exact m_vret C dX10_nextToken_390
            · refine m_aload_n C dX10_nextToken_237 rfl ?_
              refine m_lconst C dX10_nextToken_238 cl_0 ?_
              refine m_putl C fl_X10_121_9 fw_9_11 rfl (by decide) rfl dX10_nextToken_239 (fun s_28 => ?_)
              refine m_goto (tgt := 390) C dX10_nextToken_242 rfl ?_
              exact m_vret C dX10_nextToken_390
          refine m_loc (L2 := [(0, .ref (A 27))]) [1] rfl ?_
          exact wX10_nextToken_161 C k_27 hk_27 FU s_25
      · refine m_aload_n C dX10_nextToken_75 rfl ?_
        refine m_iconst C dX10_nextToken_76 ci_1 ?_
        refine m_puti C fl_X10_107_9 fw_9_9 rfl (by decide) rfl dX10_nextToken_77 (fun s_40 => ?_)
        refine m_aload_n C dX10_nextToken_80 rfl ?_
        refine m_iconst C dX10_nextToken_81 ci_0 ?_
        refine m_puti C fl_X10_114_9 fw_9_10 rfl (by decide) rfl dX10_nextToken_82 (fun s_41 => ?_)
        refine m_loc (L2 := [(0, .ref (A 27))]) [1] rfl ?_
        exact wX10_nextToken_85 C FU s_41
    · refine m_aload_n C dX10_nextToken_60 rfl ?_
      refine m_iconst C dX10_nextToken_61 ci_0 ?_
      refine m_puti C fl_X10_107_9 fw_9_9 rfl (by decide) rfl dX10_nextToken_62 (fun s_53 => ?_)
      refine m_goto (tgt := 390) C dX10_nextToken_65 rfl ?_
      exact m_vret C dX10_nextToken_390
  refine m_loc (L2 := [(0, .ref (A 27))]) [0] rfl ?_
  exact wX10_nextToken_0 C k_2 hk_2 FU s0
def fX10_w3 (a1 : Int32) (a2 : Int32) (a3 : Int32) (s0 : Sg) : Option (Int64 × Sg) :=
  some (((((Int32.toInt64 a1) <<< (Int32.toInt64 8 &&& 63)) ||| (Int32.toInt64 a2)) <<< (Int32.toInt64 8 &&& 63)) ||| (Int32.toInt64 a3), s0)
theorem kX10_w3 (l : Launch) (D : va_G) (ct : Nat → ClassId) (A : Nat → Nat) (a1 : Int32) (a2 : Int32) (a3 : Int32) (s0 : Sg) (o : Int64 × Sg) (ho : fX10_w3 a1 a2 a3 s0 = some o) : Con l yX10_w3 cX10_w3 3 (some .long) 0 D ct A [.int a1, .int a2, .int a3] s0 (embL o) := by
  refine con_start (by decide +kernel) (Nat.le_of_ble_eq_true rfl) ho (fun p e s m args below meth c C => ?_)
  refine m_loc (L2 := [(0, .int a1), (1, .int a2), (2, .int a3)]) [0, 1, 2] rfl ?_
  unfold fX10_w3
  refine m_iload_n C dX10_w3_0 rfl ?_
  refine m_i2l C dX10_w3_1 ?_
  refine m_bipush C dX10_w3_2 cb_8 ?_
  refine m_lshl C dX10_w3_4 ?_
  refine m_iload_n C dX10_w3_5 rfl ?_
  refine m_i2l C dX10_w3_6 ?_
  refine m_lor C dX10_w3_7 ?_
  refine m_bipush C dX10_w3_8 cb_8 ?_
  refine m_lshl C dX10_w3_10 ?_
  refine m_iload_n C dX10_w3_11 rfl ?_
  refine m_i2l C dX10_w3_12 ?_
  refine m_lor C dX10_w3_13 ?_
  exact m_lret C dX10_w3_14
def fX10_w5 (a1 : Int32) (a2 : Int32) (a3 : Int32) (a4 : Int32) (a5 : Int32) (s0 : Sg) : Option (Int64 × Sg) :=
  bnd (fX10_w3 a1 a2 a3 s0) fun r_1 s_2 =>
  some ((((r_1 <<< (Int32.toInt64 8 &&& 63)) ||| (Int32.toInt64 a4)) <<< (Int32.toInt64 8 &&& 63)) ||| (Int32.toInt64 a5), s_2)
theorem kX10_w5 (l : Launch) (D : va_G) (ct : Nat → ClassId) (A : Nat → Nat) (a1 : Int32) (a2 : Int32) (a3 : Int32) (a4 : Int32) (a5 : Int32) (s0 : Sg) (o : Int64 × Sg) (ho : fX10_w5 a1 a2 a3 a4 a5 s0 = some o) : Con l yX10_w5 cX10_w5 5 (some .long) 1 D ct A [.int a1, .int a2, .int a3, .int a4, .int a5] s0 (embL o) := by
  refine con_start (by decide +kernel) (Nat.le_of_ble_eq_true rfl) ho (fun p e s m args below meth c C => ?_)
  refine m_loc (L2 := [(0, .int a1), (1, .int a2), (2, .int a3), (3, .int a4), (4, .int a5)]) [0, 1, 2, 3, 4] rfl ?_
  unfold fX10_w5
  refine m_iload_n C dX10_w5_0 rfl ?_
  refine m_iload_n C dX10_w5_1 rfl ?_
  refine m_iload_n C dX10_w5_2 rfl ?_
  refine m_callSL C ml_X10_125 ⟨Nat.le_of_ble_eq_true rfl, Nat.le_of_ble_eq_true rfl⟩ [.int a1, .int a2, .int a3] [] rfl rfl (Nat.le_of_ble_eq_true rfl) dX10_w5_3 (fun o ho => kX10_w3 l D ct A a1 a2 a3 s0 o ho) (fun r_1 s_2 => ?_)
  refine m_bipush C dX10_w5_6 cb_8 ?_
  refine m_lshl C dX10_w5_8 ?_
  refine m_iload_n C dX10_w5_9 rfl ?_
  refine m_i2l C dX10_w5_10 ?_
  refine m_lor C dX10_w5_11 ?_
  refine m_bipush C dX10_w5_12 cb_8 ?_
  refine m_lshl C dX10_w5_14 ?_
  refine m_iload C dX10_w5_15 rfl ?_
  refine m_i2l C dX10_w5_17 ?_
  refine m_lor C dX10_w5_18 ?_
  exact m_lret C dX10_w5_19
def fX10_w4 (a1 : Int32) (a2 : Int32) (a3 : Int32) (a4 : Int32) (s0 : Sg) : Option (Int64 × Sg) :=
  bnd (fX10_w3 a1 a2 a3 s0) fun r_1 s_2 =>
  some ((r_1 <<< (Int32.toInt64 8 &&& 63)) ||| (Int32.toInt64 a4), s_2)
theorem kX10_w4 (l : Launch) (D : va_G) (ct : Nat → ClassId) (A : Nat → Nat) (a1 : Int32) (a2 : Int32) (a3 : Int32) (a4 : Int32) (s0 : Sg) (o : Int64 × Sg) (ho : fX10_w4 a1 a2 a3 a4 s0 = some o) : Con l yX10_w4 cX10_w4 4 (some .long) 1 D ct A [.int a1, .int a2, .int a3, .int a4] s0 (embL o) := by
  refine con_start (by decide +kernel) (Nat.le_of_ble_eq_true rfl) ho (fun p e s m args below meth c C => ?_)
  refine m_loc (L2 := [(0, .int a1), (1, .int a2), (2, .int a3), (3, .int a4)]) [0, 1, 2, 3] rfl ?_
  unfold fX10_w4
  refine m_iload_n C dX10_w4_0 rfl ?_
  refine m_iload_n C dX10_w4_1 rfl ?_
  refine m_iload_n C dX10_w4_2 rfl ?_
  refine m_callSL C ml_X10_125 ⟨Nat.le_of_ble_eq_true rfl, Nat.le_of_ble_eq_true rfl⟩ [.int a1, .int a2, .int a3] [] rfl rfl (Nat.le_of_ble_eq_true rfl) dX10_w4_3 (fun o ho => kX10_w3 l D ct A a1 a2 a3 s0 o ho) (fun r_1 s_2 => ?_)
  refine m_bipush C dX10_w4_6 cb_8 ?_
  refine m_lshl C dX10_w4_8 ?_
  refine m_iload_n C dX10_w4_9 rfl ?_
  refine m_i2l C dX10_w4_10 ?_
  refine m_lor C dX10_w4_11 ?_
  exact m_lret C dX10_w4_12
def fX10_w6 (a1 : Int32) (a2 : Int32) (a3 : Int32) (a4 : Int32) (a5 : Int32) (a6 : Int32) (s0 : Sg) : Option (Int64 × Sg) :=
  bnd (fX10_w5 a1 a2 a3 a4 a5 s0) fun r_1 s_2 =>
  some ((r_1 <<< (Int32.toInt64 8 &&& 63)) ||| (Int32.toInt64 a6), s_2)
theorem kX10_w6 (l : Launch) (D : va_G) (ct : Nat → ClassId) (A : Nat → Nat) (a1 : Int32) (a2 : Int32) (a3 : Int32) (a4 : Int32) (a5 : Int32) (a6 : Int32) (s0 : Sg) (o : Int64 × Sg) (ho : fX10_w6 a1 a2 a3 a4 a5 a6 s0 = some o) : Con l yX10_w6 cX10_w6 6 (some .long) 2 D ct A [.int a1, .int a2, .int a3, .int a4, .int a5, .int a6] s0 (embL o) := by
  refine con_start (by decide +kernel) (Nat.le_of_ble_eq_true rfl) ho (fun p e s m args below meth c C => ?_)
  refine m_loc (L2 := [(0, .int a1), (1, .int a2), (2, .int a3), (3, .int a4), (4, .int a5), (5, .int a6)]) [0, 1, 2, 3, 4, 5] rfl ?_
  unfold fX10_w6
  refine m_iload_n C dX10_w6_0 rfl ?_
  refine m_iload_n C dX10_w6_1 rfl ?_
  refine m_iload_n C dX10_w6_2 rfl ?_
  refine m_iload_n C dX10_w6_3 rfl ?_
  refine m_iload C dX10_w6_4 rfl ?_
  refine m_callSL C ml_X10_129 ⟨Nat.le_of_ble_eq_true rfl, Nat.le_of_ble_eq_true rfl⟩ [.int a1, .int a2, .int a3, .int a4, .int a5] [] rfl rfl (Nat.le_of_ble_eq_true rfl) dX10_w6_6 (fun o ho => kX10_w5 l D ct A a1 a2 a3 a4 a5 s0 o ho) (fun r_1 s_2 => ?_)
  refine m_bipush C dX10_w6_9 cb_8 ?_
  refine m_lshl C dX10_w6_11 ?_
  refine m_iload C dX10_w6_12 rfl ?_
  refine m_i2l C dX10_w6_14 ?_
  refine m_lor C dX10_w6_15 ?_
  exact m_lret C dX10_w6_16
def fX10_isWord (a1 : Int64) (s0 : Sg) : Option (Bool × Sg) :=
  if (gi s0 27 9) = 2 then
    if (lg_cmp (gl s0 27 11) a1) = 0 then
      some (true, s0)
    else
      some (false, s0)
  else
    some (false, s0)
theorem kX10_isWord (l : Launch) (D : va_G) (ct : Nat → ClassId) (A : Nat → Nat) (a1 : Int64) (s0 : Sg) (o : Bool × Sg) (ho : fX10_isWord a1 s0 = some o) : Con l yX10_isWord cX10_isWord 3 (some .boolean) 0 D ct A [.ref (A 27), .long a1] s0 (embZ o) := by
  refine con_start (by decide +kernel) (Nat.le_of_ble_eq_true rfl) ho (fun p e s m args below meth c C => ?_)
  refine m_loc (L2 := [(0, .ref (A 27)), (1, .long a1)]) [0, 1] rfl ?_
  unfold fX10_isWord
  refine m_aload_n C dX10_isWord_0 rfl ?_
  refine m_get (v := .int (gi s0 27 9)) C fl_X10_107_9 rfl (by decide) rfl dX10_isWord_1 ?_
  refine m_iconst C dX10_isWord_4 ci_2 ?_
  refine m_icmp_ne (tgt := 21) C dX10_isWord_5 rfl ?_ ?_
  · refine m_iconst C dX10_isWord_21 ci_0 ?_
    exact m_zret C false rfl dX10_isWord_22
  · refine m_aload_n C dX10_isWord_8 rfl ?_
    refine m_get (v := .long (gl s0 27 11)) C fl_X10_121_9 rfl (by decide) rfl dX10_isWord_9 ?_
    refine m_lload_n C dX10_isWord_12 rfl ?_
    refine m_lcmp C dX10_isWord_13 ?_
    refine m_if_ne (tgt := 21) C dX10_isWord_14 rfl ?_ ?_
    · refine m_iconst C dX10_isWord_21 ci_0 ?_
      exact m_zret C false rfl dX10_isWord_22
    · refine m_iconst C dX10_isWord_17 ci_1 ?_
      refine m_goto (tgt := 22) C dX10_isWord_18 rfl ?_
      exact m_zret C true rfl dX10_isWord_22
def fX10_emit (a1 : Int32) (a2 : Int32) (s0 : Sg) : Option (Sg) :=
  chk (inb 2720 (((gi s0 27 12) + 75) + (2 * (gi s0 27 14)))) <|
  bv (si s0 30 (ix (((gi s0 27 12) + 75) + (2 * (gi s0 27 14)))) a1) fun s_2 =>
  chk (inb 2720 ((((gi s_2 27 12) + 75) + (2 * (gi s_2 27 14))) + 1)) <|
  bv (si s_2 30 (ix ((((gi s_2 27 12) + 75) + (2 * (gi s_2 27 14))) + 1)) a2) fun s_4 =>
  bv (si s_4 27 14 ((gi s_4 27 14) + 1)) fun s_5 =>
  some s_5
theorem kX10_emit (l : Launch) (D : va_G) (ct : Nat → ClassId) (A : Nat → Nat) (a1 : Int32) (a2 : Int32) (s0 : Sg) (o : Sg) (ho : fX10_emit a1 a2 s0 = some o) : Con l yX10_emit cX10_emit 3 none 0 D ct A [.ref (A 27), .int a1, .int a2] s0 (embV o) := by
  refine con_start (by decide +kernel) (Nat.le_of_ble_eq_true rfl) ho (fun p e s m args below meth c C => ?_)
  refine m_loc (L2 := [(0, .ref (A 27)), (1, .int a1), (2, .int a2)]) [0, 1, 2] rfl ?_
  unfold fX10_emit
  refine m_aload_n C dX10_emit_0 rfl ?_
  refine m_get (v := .ref (A 30)) C fl_X10_16_9 rfl (by decide) rfl dX10_emit_1 ?_
  refine m_aload_n C dX10_emit_4 rfl ?_
  refine m_get (v := .int (gi s0 27 12)) C fl_X10_133_9 rfl (by decide) rfl dX10_emit_5 ?_
  refine m_bipush C dX10_emit_8 cb_75 ?_
  refine m_iadd C dX10_emit_10 ?_
  refine m_iconst C dX10_emit_11 ci_2 ?_
  refine m_aload_n C dX10_emit_12 rfl ?_
  refine m_get (v := .int (gi s0 27 14)) C fl_X10_136_9 rfl (by decide) rfl dX10_emit_13 ?_
  refine m_imul C dX10_emit_16 ?_
  refine m_iadd C dX10_emit_17 ?_
  refine m_iload_n C dX10_emit_18 rfl ?_
  refine m_chk (fun h_1 => ?_)
  refine m_iast C rfl h_1 dX10_emit_19 (fun s_2 => ?_)
  refine m_aload_n C dX10_emit_20 rfl ?_
  refine m_get (v := .ref (A 30)) C fl_X10_16_9 rfl (by decide) rfl dX10_emit_21 ?_
  refine m_aload_n C dX10_emit_24 rfl ?_
  refine m_get (v := .int (gi s_2 27 12)) C fl_X10_133_9 rfl (by decide) rfl dX10_emit_25 ?_
  refine m_bipush C dX10_emit_28 cb_75 ?_
  refine m_iadd C dX10_emit_30 ?_
  refine m_iconst C dX10_emit_31 ci_2 ?_
  refine m_aload_n C dX10_emit_32 rfl ?_
  refine m_get (v := .int (gi s_2 27 14)) C fl_X10_136_9 rfl (by decide) rfl dX10_emit_33 ?_
  refine m_imul C dX10_emit_36 ?_
  refine m_iadd C dX10_emit_37 ?_
  refine m_iconst C dX10_emit_38 ci_1 ?_
  refine m_iadd C dX10_emit_39 ?_
  refine m_iload_n C dX10_emit_40 rfl ?_
  refine m_chk (fun h_3 => ?_)
  refine m_iast C rfl h_3 dX10_emit_41 (fun s_4 => ?_)
  refine m_aload_n C dX10_emit_42 rfl ?_
  refine m_dup C dX10_emit_43 rfl ?_
  refine m_get (v := .int (gi s_4 27 14)) C fl_X10_136_9 rfl (by decide) rfl dX10_emit_44 ?_
  refine m_iconst C dX10_emit_47 ci_1 ?_
  refine m_iadd C dX10_emit_48 ?_
  refine m_puti C fl_X10_136_9 fw_9_14 rfl (by decide) rfl dX10_emit_49 (fun s_5 => ?_)
  exact m_vret C dX10_emit_52
def fX10_push (a1 : Int32) (s0 : Sg) : Option (Sg) :=
  chk (inb 160 (gi s0 27 17)) <|
  bv (si s0 32 (ix (gi s0 27 17)) a1) fun s_2 =>
  bv (si s_2 27 17 ((gi s_2 27 17) + 1)) fun s_3 =>
  some s_3
theorem kX10_push (l : Launch) (D : va_G) (ct : Nat → ClassId) (A : Nat → Nat) (a1 : Int32) (s0 : Sg) (o : Sg) (ho : fX10_push a1 s0 = some o) : Con l yX10_push cX10_push 2 none 0 D ct A [.ref (A 27), .int a1] s0 (embV o) := by
  refine con_start (by decide +kernel) (Nat.le_of_ble_eq_true rfl) ho (fun p e s m args below meth c C => ?_)
  refine m_loc (L2 := [(0, .ref (A 27)), (1, .int a1)]) [0, 1] rfl ?_
  unfold fX10_push
  refine m_aload_n C dX10_push_0 rfl ?_
  refine m_get (v := .ref (A 32)) C fl_X10_29_9 rfl (by decide) rfl dX10_push_1 ?_
  refine m_aload_n C dX10_push_4 rfl ?_
  refine m_get (v := .int (gi s0 27 17)) C fl_X10_139_9 rfl (by decide) rfl dX10_push_5 ?_
  refine m_iload_n C dX10_push_8 rfl ?_
  refine m_chk (fun h_1 => ?_)
  refine m_iast C rfl h_1 dX10_push_9 (fun s_2 => ?_)
  refine m_aload_n C dX10_push_10 rfl ?_
  refine m_dup C dX10_push_11 rfl ?_
  refine m_get (v := .int (gi s_2 27 17)) C fl_X10_139_9 rfl (by decide) rfl dX10_push_12 ?_
  refine m_iconst C dX10_push_15 ci_1 ?_
  refine m_iadd C dX10_push_16 ?_
  refine m_puti C fl_X10_139_9 fw_9_17 rfl (by decide) rfl dX10_push_17 (fun s_3 => ?_)
  exact m_vret C dX10_push_20
def fX10_whole_5_b (rec5 : Sg → Option (Sg)) (s_2 : Sg) : Option (Sg) :=
  if (gi s_2 27 17) ≤ 0 then
    some s_2
  else
    chk (inb 160 ((gi s_2 27 17) - 1)) <|
    if (gi s_2 32 (ix ((gi s_2 27 17) - 1))) = 2 then
      bv (si s_2 27 17 ((gi s_2 27 17) - 1)) fun s_4 =>
      bv (si s_4 27 18 ((gi s_4 27 18) - 1)) fun s_5 =>
      bnv (fX10_emit 2 0 s_5) fun s_6 =>
      rec5 s_6
    else
      some s_2
def fX10_whole (s0 : Sg) : Option (Sg) :=
  bv (si s0 27 19 (b2i true)) fun s_1 =>
  lo1 (fX10_whole_5_b) FU s_1
theorem wX10_whole_5 {p : Program} {l : Launch} {e : Env} {s : State} {m : MethodId} {args : Array Value} {below : List Frame} {meth : Method} {c : Code} {D : va_G} {ct : Nat → ClassId} {A : Nat → Nat} (C : Cx p m c cX10_whole 1 s args yX10_whole.cls meth none D ct A) : ∀ (n : Nat) (s_2 : Sg), Wm p l e (rmD 1) s m args below meth c D ct A 1 embV 5 [(0, .ref (A 27))] [] s_2 (lo1 (fX10_whole_5_b) n s_2) := by
  intro n
  induction n with
  | zero => intro s_2; exact m_none
  | succ n hrec5 =>
    intro s_2
    refine (show Wm p l e (rmD 1) s m args below meth c D ct A 1 embV 5 [(0, .ref (A 27))] [] s_2 (fX10_whole_5_b (lo1 (fX10_whole_5_b) n) s_2) from ?_)
    generalize lo1 (fX10_whole_5_b) n = rec5 at hrec5 ⊢
    unfold fX10_whole_5_b
    refine m_aload_n C dX10_whole_5 rfl ?_
    refine m_get (v := .int (gi s_2 27 17)) C fl_X10_139_9 rfl (by decide) rfl dX10_whole_6 ?_
    refine m_if_le (tgt := 56) C dX10_whole_9 rfl ?_ ?_
    · exact m_vret C dX10_whole_56
    · refine m_aload_n C dX10_whole_12 rfl ?_
      refine m_get (v := .ref (A 32)) C fl_X10_29_9 rfl (by decide) rfl dX10_whole_13 ?_
      refine m_aload_n C dX10_whole_16 rfl ?_
      refine m_get (v := .int (gi s_2 27 17)) C fl_X10_139_9 rfl (by decide) rfl dX10_whole_17 ?_
      refine m_iconst C dX10_whole_20 ci_1 ?_
      refine m_isub C dX10_whole_21 ?_
      refine m_chk (fun h_3 => ?_)
      refine m_iald C rfl h_3 dX10_whole_22 ?_
      refine m_iconst C dX10_whole_23 ci_2 ?_
      refine m_icmp_ne (tgt := 56) C dX10_whole_24 rfl ?_ ?_
      · exact m_vret C dX10_whole_56
      · refine m_aload_n C dX10_whole_27 rfl ?_
        refine m_dup C dX10_whole_28 rfl ?_
        refine m_get (v := .int (gi s_2 27 17)) C fl_X10_139_9 rfl (by decide) rfl dX10_whole_29 ?_
        refine m_iconst C dX10_whole_32 ci_1 ?_
        refine m_isub C dX10_whole_33 ?_
        refine m_puti C fl_X10_139_9 fw_9_17 rfl (by decide) rfl dX10_whole_34 (fun s_4 => ?_)
        refine m_aload_n C dX10_whole_37 rfl ?_
        refine m_dup C dX10_whole_38 rfl ?_
        refine m_get (v := .int (gi s_4 27 18)) C fl_X10_146_9 rfl (by decide) rfl dX10_whole_39 ?_
        refine m_iconst C dX10_whole_42 ci_1 ?_
        refine m_isub C dX10_whole_43 ?_
        refine m_puti C fl_X10_146_9 fw_9_18 rfl (by decide) rfl dX10_whole_44 (fun s_5 => ?_)
        refine m_aload_n C dX10_whole_47 rfl ?_
        refine m_iconst C dX10_whole_48 ci_2 ?_
        refine m_iconst C dX10_whole_49 ci_0 ?_
        refine m_callVV C ml_X10_149 ⟨Nat.le_of_ble_eq_true rfl, Nat.le_of_ble_eq_true rfl⟩ rfl rfl [.int 2, .int 0] [] rfl rfl (Nat.le_of_ble_eq_true rfl) dX10_whole_50 (fun o ho => kX10_emit l D ct A 2 0 s_5 o ho) (fun s_6 => ?_)
        refine m_goto (tgt := 5) C dX10_whole_53 rfl ?_
        refine m_loc (L2 := [(0, .ref (A 27))]) [0] rfl ?_
        exact hrec5 s_6
theorem kX10_whole (l : Launch) (D : va_G) (ct : Nat → ClassId) (A : Nat → Nat) (s0 : Sg) (o : Sg) (ho : fX10_whole s0 = some o) : Con l yX10_whole cX10_whole 1 none 1 D ct A [.ref (A 27)] s0 (embV o) := by
  refine con_start (by decide +kernel) (Nat.le_of_ble_eq_true rfl) ho (fun p e s m args below meth c C => ?_)
  refine m_loc (L2 := [(0, .ref (A 27))]) [0] rfl ?_
  unfold fX10_whole
  refine m_aload_n C dX10_whole_0 rfl ?_
  refine m_iconst C dX10_whole_1 ci_1 ?_
  refine m_putz C fl_X10_142_9 fw_9_19 rfl (by decide) rfl true rfl dX10_whole_2 (fun s_1 => ?_)
  refine m_loc (L2 := [(0, .ref (A 27))]) [0] rfl ?_
  exact wX10_whole_5 C FU s_1
def fX10_settle_0_b (a1 : Int32) (rec0 : Sg → Option (Sg)) (s_1 : Sg) : Option (Sg) :=
  if (gi s_1 27 17) ≤ 0 then
    some s_1
  else
    chk (inb 160 ((gi s_1 27 17) - 1)) <|
    if 40 ≤ (gi s_1 32 (ix ((gi s_1 27 17) - 1))) then
      some s_1
    else
      if (gi s_1 32 (ix ((gi s_1 27 17) - 1))) < a1 then
        some s_1
      else
        bv (si s_1 27 17 ((gi s_1 27 17) - 1)) fun s_3 =>
        chk (inb 160 (gi s_3 27 17)) <|
        bnv (fX10_emit (gi s_3 32 (ix (gi s_3 27 17))) 0 s_3) fun s_5 =>
        rec0 s_5
def fX10_settle (a1 : Int32) (s0 : Sg) : Option (Sg) :=
  lo1 (fX10_settle_0_b a1) FU s0
theorem wX10_settle_0 {p : Program} {l : Launch} {e : Env} {s : State} {m : MethodId} {args : Array Value} {below : List Frame} {meth : Method} {c : Code} {D : va_G} {ct : Nat → ClassId} {A : Nat → Nat} (C : Cx p m c cX10_settle 2 s args yX10_settle.cls meth none D ct A) (a1 : Int32) : ∀ (n : Nat) (s_1 : Sg), Wm p l e (rmD 1) s m args below meth c D ct A 2 embV 0 [(0, .ref (A 27)), (1, .int a1)] [] s_1 (lo1 (fX10_settle_0_b a1) n s_1) := by
  intro n
  induction n with
  | zero => intro s_1; exact m_none
  | succ n hrec0 =>
    intro s_1
    refine (show Wm p l e (rmD 1) s m args below meth c D ct A 2 embV 0 [(0, .ref (A 27)), (1, .int a1)] [] s_1 (fX10_settle_0_b a1 (lo1 (fX10_settle_0_b a1) n) s_1) from ?_)
    generalize lo1 (fX10_settle_0_b a1) n = rec0 at hrec0 ⊢
    unfold fX10_settle_0_b
    refine m_aload_n C dX10_settle_0 rfl ?_
    refine m_get (v := .int (gi s_1 27 17)) C fl_X10_139_9 rfl (by decide) rfl dX10_settle_1 ?_
    refine m_if_le (tgt := 65) C dX10_settle_4 rfl ?_ ?_
    · exact m_vret C dX10_settle_65
    · refine m_aload_n C dX10_settle_7 rfl ?_
      refine m_get (v := .ref (A 32)) C fl_X10_29_9 rfl (by decide) rfl dX10_settle_8 ?_
      refine m_aload_n C dX10_settle_11 rfl ?_
      refine m_get (v := .int (gi s_1 27 17)) C fl_X10_139_9 rfl (by decide) rfl dX10_settle_12 ?_
      refine m_iconst C dX10_settle_15 ci_1 ?_
      refine m_isub C dX10_settle_16 ?_
      refine m_chk (fun h_2 => ?_)
      refine m_iald C rfl h_2 dX10_settle_17 ?_
      refine m_bipush C dX10_settle_18 cb_40 ?_
      refine m_icmp_ge (tgt := 65) C dX10_settle_20 rfl ?_ ?_
      · exact m_vret C dX10_settle_65
      · refine m_aload_n C dX10_settle_23 rfl ?_
        refine m_get (v := .ref (A 32)) C fl_X10_29_9 rfl (by decide) rfl dX10_settle_24 ?_
        refine m_aload_n C dX10_settle_27 rfl ?_
        refine m_get (v := .int (gi s_1 27 17)) C fl_X10_139_9 rfl (by decide) rfl dX10_settle_28 ?_
        refine m_iconst C dX10_settle_31 ci_1 ?_
        refine m_isub C dX10_settle_32 ?_
        refine m_iald C rfl h_2 dX10_settle_33 ?_
        refine m_iload_n C dX10_settle_34 rfl ?_
        refine m_icmp_lt (tgt := 65) C dX10_settle_35 rfl ?_ ?_
        · exact m_vret C dX10_settle_65
        · refine m_aload_n C dX10_settle_38 rfl ?_
          refine m_dup C dX10_settle_39 rfl ?_
          refine m_get (v := .int (gi s_1 27 17)) C fl_X10_139_9 rfl (by decide) rfl dX10_settle_40 ?_
          refine m_iconst C dX10_settle_43 ci_1 ?_
          refine m_isub C dX10_settle_44 ?_
          refine m_puti C fl_X10_139_9 fw_9_17 rfl (by decide) rfl dX10_settle_45 (fun s_3 => ?_)
          refine m_aload_n C dX10_settle_48 rfl ?_
          refine m_aload_n C dX10_settle_49 rfl ?_
          refine m_get (v := .ref (A 32)) C fl_X10_29_9 rfl (by decide) rfl dX10_settle_50 ?_
          refine m_aload_n C dX10_settle_53 rfl ?_
          refine m_get (v := .int (gi s_3 27 17)) C fl_X10_139_9 rfl (by decide) rfl dX10_settle_54 ?_
          refine m_chk (fun h_4 => ?_)
          refine m_iald C rfl h_4 dX10_settle_57 ?_
          refine m_iconst C dX10_settle_58 ci_0 ?_
          refine m_callVV C ml_X10_149 ⟨Nat.le_of_ble_eq_true rfl, Nat.le_of_ble_eq_true rfl⟩ rfl rfl [.int (gi s_3 32 (ix (gi s_3 27 17))), .int 0] [] rfl rfl (Nat.le_of_ble_eq_true rfl) dX10_settle_59 (fun o ho => kX10_emit l D ct A (gi s_3 32 (ix (gi s_3 27 17))) 0 s_3 o ho) (fun s_5 => ?_)
          refine m_goto (tgt := 0) C dX10_settle_62 rfl ?_
          refine m_loc (L2 := [(0, .ref (A 27)), (1, .int a1)]) [0, 1] rfl ?_
          exact hrec0 s_5
theorem kX10_settle (l : Launch) (D : va_G) (ct : Nat → ClassId) (A : Nat → Nat) (a1 : Int32) (s0 : Sg) (o : Sg) (ho : fX10_settle a1 s0 = some o) : Con l yX10_settle cX10_settle 2 none 1 D ct A [.ref (A 27), .int a1] s0 (embV o) := by
  refine con_start (by decide +kernel) (Nat.le_of_ble_eq_true rfl) ho (fun p e s m args below meth c C => ?_)
  refine m_loc (L2 := [(0, .ref (A 27)), (1, .int a1)]) [0, 1] rfl ?_
  unfold fX10_settle
  refine m_loc (L2 := [(0, .ref (A 27)), (1, .int a1)]) [0, 1] rfl ?_
  exact wX10_settle_0 C a1 FU s0
def fX10_nameOf (s0 : Sg) : Option (Int32 × Sg) :=
  if (gi s0 27 9) = 2 then
    bnd (fX10_w4 104 111 117 114 s0) fun r_1 s_2 =>
    if (lg_cmp (gl s0 27 11) r_1) = 0 then
      some (0, s_2)
    else
      bnd (fX10_w3 119 101 116 s_2) fun r_3 s_4 =>
      if (lg_cmp (gl s_2 27 11) r_3) = 0 then
        some (1, s_4)
      else
        bnd (fX10_w4 119 105 110 100 s_4) fun r_5 s_6 =>
        if (lg_cmp (gl s_4 27 11) r_5) = 0 then
          some (2, s_6)
        else
          bnd (fX10_w5 116 104 105 110 103 s_6) fun r_7 s_8 =>
          if (lg_cmp (gl s_6 27 11) r_7) = 0 then
            some (3, s_8)
          else
            bnd (fX10_w6 119 101 105 103 104 116 s_8) fun r_9 s_10 =>
            if (lg_cmp (gl s_8 27 11) r_9) = 0 then
              some (4, s_10)
            else
              bnd (fX10_w4 115 111 114 116 s_10) fun r_11 s_12 =>
              if (lg_cmp (gl s_10 27 11) r_11) = 0 then
                some (5, s_12)
              else
                bnd (fX10_w3 112 97 110 s_12) fun r_13 s_14 =>
                if (lg_cmp (gl s_12 27 11) r_13) = 0 then
                  some (6, s_14)
                else
                  bnd (fX10_w4 108 101 102 116 s_14) fun r_15 s_16 =>
                  if (lg_cmp (gl s_14 27 11) r_15) = 0 then
                    some (7, s_16)
                  else
                    bnd (fX10_w5 114 105 103 104 116 s_16) fun r_17 s_18 =>
                    if (lg_cmp (gl s_16 27 11) r_17) = 0 then
                      some (8, s_18)
                    else
                      bnd (fX10_w6 109 111 109 101 110 116 s_18) fun r_19 s_20 =>
                      if (lg_cmp (gl s_18 27 11) r_19) = 0 then
                        some (9, s_20)
                      else
                        bnd (fX10_w6 116 117 114 110 101 100 s_20) fun r_21 s_22 =>
                        if (lg_cmp (gl s_20 27 11) r_21) = 0 then
                          some (10, s_22)
                        else
                          some ((-1), s_22)
  else
    some ((-1), s0)
theorem kX10_nameOf (l : Launch) (D : va_G) (ct : Nat → ClassId) (A : Nat → Nat) (s0 : Sg) (o : Int32 × Sg) (ho : fX10_nameOf s0 = some o) : Con l yX10_nameOf cX10_nameOf 1 (some .int) 3 D ct A [.ref (A 27)] s0 (embI o) := by
  refine con_start (by decide +kernel) (Nat.le_of_ble_eq_true rfl) ho (fun p e s m args below meth c C => ?_)
  refine m_loc (L2 := [(0, .ref (A 27))]) [0] rfl ?_
  unfold fX10_nameOf
  refine m_aload_n C dX10_nameOf_0 rfl ?_
  refine m_get (v := .int (gi s0 27 9)) C fl_X10_107_9 rfl (by decide) rfl dX10_nameOf_1 ?_
  refine m_iconst C dX10_nameOf_4 ci_2 ?_
  refine m_icmp_eq (tgt := 10) C dX10_nameOf_5 rfl ?_ ?_
  · refine m_aload_n C dX10_nameOf_10 rfl ?_
    refine m_get (v := .long (gl s0 27 11)) C fl_X10_121_9 rfl (by decide) rfl dX10_nameOf_11 ?_
    refine m_bipush C dX10_nameOf_14 cb_104 ?_
    refine m_bipush C dX10_nameOf_16 cb_111 ?_
    refine m_bipush C dX10_nameOf_18 cb_117 ?_
    refine m_bipush C dX10_nameOf_20 cb_114 ?_
    refine m_callSL C ml_X10_153 ⟨Nat.le_of_ble_eq_true rfl, Nat.le_of_ble_eq_true rfl⟩ [.int 104, .int 111, .int 117, .int 114] [.long (gl s0 27 11)] rfl rfl (Nat.le_of_ble_eq_true rfl) dX10_nameOf_22 (fun o ho => kX10_w4 l D ct A 104 111 117 114 s0 o ho) (fun r_1 s_2 => ?_)
    refine m_lcmp C dX10_nameOf_25 ?_
    refine m_if_ne (tgt := 31) C dX10_nameOf_26 rfl ?_ ?_
    · refine m_aload_n C dX10_nameOf_31 rfl ?_
      refine m_get (v := .long (gl s_2 27 11)) C fl_X10_121_9 rfl (by decide) rfl dX10_nameOf_32 ?_
      refine m_bipush C dX10_nameOf_35 cb_119 ?_
      refine m_bipush C dX10_nameOf_37 cb_101 ?_
      refine m_bipush C dX10_nameOf_39 cb_116 ?_
      refine m_callSL C ml_X10_125 ⟨Nat.le_of_ble_eq_true rfl, Nat.le_of_ble_eq_true rfl⟩ [.int 119, .int 101, .int 116] [.long (gl s_2 27 11)] rfl rfl (Nat.le_of_ble_eq_true rfl) dX10_nameOf_41 (fun o ho => kX10_w3 l D ct A 119 101 116 s_2 o ho) (fun r_3 s_4 => ?_)
      refine m_lcmp C dX10_nameOf_44 ?_
      refine m_if_ne (tgt := 50) C dX10_nameOf_45 rfl ?_ ?_
      · refine m_aload_n C dX10_nameOf_50 rfl ?_
        refine m_get (v := .long (gl s_4 27 11)) C fl_X10_121_9 rfl (by decide) rfl dX10_nameOf_51 ?_
        refine m_bipush C dX10_nameOf_54 cb_119 ?_
        refine m_bipush C dX10_nameOf_56 cb_105 ?_
        refine m_bipush C dX10_nameOf_58 cb_110 ?_
        refine m_bipush C dX10_nameOf_60 cb_100 ?_
        refine m_callSL C ml_X10_153 ⟨Nat.le_of_ble_eq_true rfl, Nat.le_of_ble_eq_true rfl⟩ [.int 119, .int 105, .int 110, .int 100] [.long (gl s_4 27 11)] rfl rfl (Nat.le_of_ble_eq_true rfl) dX10_nameOf_62 (fun o ho => kX10_w4 l D ct A 119 105 110 100 s_4 o ho) (fun r_5 s_6 => ?_)
        refine m_lcmp C dX10_nameOf_65 ?_
        refine m_if_ne (tgt := 71) C dX10_nameOf_66 rfl ?_ ?_
        · refine m_aload_n C dX10_nameOf_71 rfl ?_
          refine m_get (v := .long (gl s_6 27 11)) C fl_X10_121_9 rfl (by decide) rfl dX10_nameOf_72 ?_
          refine m_bipush C dX10_nameOf_75 cb_116 ?_
          refine m_bipush C dX10_nameOf_77 cb_104 ?_
          refine m_bipush C dX10_nameOf_79 cb_105 ?_
          refine m_bipush C dX10_nameOf_81 cb_110 ?_
          refine m_bipush C dX10_nameOf_83 cb_103 ?_
          refine m_callSL C ml_X10_129 ⟨Nat.le_of_ble_eq_true rfl, Nat.le_of_ble_eq_true rfl⟩ [.int 116, .int 104, .int 105, .int 110, .int 103] [.long (gl s_6 27 11)] rfl rfl (Nat.le_of_ble_eq_true rfl) dX10_nameOf_85 (fun o ho => kX10_w5 l D ct A 116 104 105 110 103 s_6 o ho) (fun r_7 s_8 => ?_)
          refine m_lcmp C dX10_nameOf_88 ?_
          refine m_if_ne (tgt := 94) C dX10_nameOf_89 rfl ?_ ?_
          · refine m_aload_n C dX10_nameOf_94 rfl ?_
            refine m_get (v := .long (gl s_8 27 11)) C fl_X10_121_9 rfl (by decide) rfl dX10_nameOf_95 ?_
            refine m_bipush C dX10_nameOf_98 cb_119 ?_
            refine m_bipush C dX10_nameOf_100 cb_101 ?_
            refine m_bipush C dX10_nameOf_102 cb_105 ?_
            refine m_bipush C dX10_nameOf_104 cb_103 ?_
            refine m_bipush C dX10_nameOf_106 cb_104 ?_
            refine m_bipush C dX10_nameOf_108 cb_116 ?_
            refine m_callSL C ml_X10_157 ⟨Nat.le_of_ble_eq_true rfl, Nat.le_of_ble_eq_true rfl⟩ [.int 119, .int 101, .int 105, .int 103, .int 104, .int 116] [.long (gl s_8 27 11)] rfl rfl (Nat.le_of_ble_eq_true rfl) dX10_nameOf_110 (fun o ho => kX10_w6 l D ct A 119 101 105 103 104 116 s_8 o ho) (fun r_9 s_10 => ?_)
            refine m_lcmp C dX10_nameOf_113 ?_
            refine m_if_ne (tgt := 119) C dX10_nameOf_114 rfl ?_ ?_
            · refine m_aload_n C dX10_nameOf_119 rfl ?_
              refine m_get (v := .long (gl s_10 27 11)) C fl_X10_121_9 rfl (by decide) rfl dX10_nameOf_120 ?_
              refine m_bipush C dX10_nameOf_123 cb_115 ?_
              refine m_bipush C dX10_nameOf_125 cb_111 ?_
              refine m_bipush C dX10_nameOf_127 cb_114 ?_
              refine m_bipush C dX10_nameOf_129 cb_116 ?_
              refine m_callSL C ml_X10_153 ⟨Nat.le_of_ble_eq_true rfl, Nat.le_of_ble_eq_true rfl⟩ [.int 115, .int 111, .int 114, .int 116] [.long (gl s_10 27 11)] rfl rfl (Nat.le_of_ble_eq_true rfl) dX10_nameOf_131 (fun o ho => kX10_w4 l D ct A 115 111 114 116 s_10 o ho) (fun r_11 s_12 => ?_)
              refine m_lcmp C dX10_nameOf_134 ?_
              refine m_if_ne (tgt := 140) C dX10_nameOf_135 rfl ?_ ?_
              · refine m_aload_n C dX10_nameOf_140 rfl ?_
                refine m_get (v := .long (gl s_12 27 11)) C fl_X10_121_9 rfl (by decide) rfl dX10_nameOf_141 ?_
                refine m_bipush C dX10_nameOf_144 cb_112 ?_
                refine m_bipush C dX10_nameOf_146 cb_97 ?_
                refine m_bipush C dX10_nameOf_148 cb_110 ?_
                refine m_callSL C ml_X10_125 ⟨Nat.le_of_ble_eq_true rfl, Nat.le_of_ble_eq_true rfl⟩ [.int 112, .int 97, .int 110] [.long (gl s_12 27 11)] rfl rfl (Nat.le_of_ble_eq_true rfl) dX10_nameOf_150 (fun o ho => kX10_w3 l D ct A 112 97 110 s_12 o ho) (fun r_13 s_14 => ?_)
                refine m_lcmp C dX10_nameOf_153 ?_
                refine m_if_ne (tgt := 160) C dX10_nameOf_154 rfl ?_ ?_
                · refine m_aload_n C dX10_nameOf_160 rfl ?_
                  refine m_get (v := .long (gl s_14 27 11)) C fl_X10_121_9 rfl (by decide) rfl dX10_nameOf_161 ?_
                  refine m_bipush C dX10_nameOf_164 cb_108 ?_
                  refine m_bipush C dX10_nameOf_166 cb_101 ?_
                  refine m_bipush C dX10_nameOf_168 cb_102 ?_
                  refine m_bipush C dX10_nameOf_170 cb_116 ?_
                  refine m_callSL C ml_X10_153 ⟨Nat.le_of_ble_eq_true rfl, Nat.le_of_ble_eq_true rfl⟩ [.int 108, .int 101, .int 102, .int 116] [.long (gl s_14 27 11)] rfl rfl (Nat.le_of_ble_eq_true rfl) dX10_nameOf_172 (fun o ho => kX10_w4 l D ct A 108 101 102 116 s_14 o ho) (fun r_15 s_16 => ?_)
                  refine m_lcmp C dX10_nameOf_175 ?_
                  refine m_if_ne (tgt := 182) C dX10_nameOf_176 rfl ?_ ?_
                  · refine m_aload_n C dX10_nameOf_182 rfl ?_
                    refine m_get (v := .long (gl s_16 27 11)) C fl_X10_121_9 rfl (by decide) rfl dX10_nameOf_183 ?_
                    refine m_bipush C dX10_nameOf_186 cb_114 ?_
                    refine m_bipush C dX10_nameOf_188 cb_105 ?_
                    refine m_bipush C dX10_nameOf_190 cb_103 ?_
                    refine m_bipush C dX10_nameOf_192 cb_104 ?_
                    refine m_bipush C dX10_nameOf_194 cb_116 ?_
                    refine m_callSL C ml_X10_129 ⟨Nat.le_of_ble_eq_true rfl, Nat.le_of_ble_eq_true rfl⟩ [.int 114, .int 105, .int 103, .int 104, .int 116] [.long (gl s_16 27 11)] rfl rfl (Nat.le_of_ble_eq_true rfl) dX10_nameOf_196 (fun o ho => kX10_w5 l D ct A 114 105 103 104 116 s_16 o ho) (fun r_17 s_18 => ?_)
                    refine m_lcmp C dX10_nameOf_199 ?_
                    refine m_if_ne (tgt := 206) C dX10_nameOf_200 rfl ?_ ?_
                    · refine m_aload_n C dX10_nameOf_206 rfl ?_
                      refine m_get (v := .long (gl s_18 27 11)) C fl_X10_121_9 rfl (by decide) rfl dX10_nameOf_207 ?_
                      refine m_bipush C dX10_nameOf_210 cb_109 ?_
                      refine m_bipush C dX10_nameOf_212 cb_111 ?_
                      refine m_bipush C dX10_nameOf_214 cb_109 ?_
                      refine m_bipush C dX10_nameOf_216 cb_101 ?_
                      refine m_bipush C dX10_nameOf_218 cb_110 ?_
                      refine m_bipush C dX10_nameOf_220 cb_116 ?_
                      refine m_callSL C ml_X10_157 ⟨Nat.le_of_ble_eq_true rfl, Nat.le_of_ble_eq_true rfl⟩ [.int 109, .int 111, .int 109, .int 101, .int 110, .int 116] [.long (gl s_18 27 11)] rfl rfl (Nat.le_of_ble_eq_true rfl) dX10_nameOf_222 (fun o ho => kX10_w6 l D ct A 109 111 109 101 110 116 s_18 o ho) (fun r_19 s_20 => ?_)
                      refine m_lcmp C dX10_nameOf_225 ?_
                      refine m_if_ne (tgt := 234) C dX10_nameOf_226 rfl ?_ ?_
                      · refine m_aload_n C dX10_nameOf_234 rfl ?_
                        refine m_get (v := .long (gl s_20 27 11)) C fl_X10_121_9 rfl (by decide) rfl dX10_nameOf_235 ?_
                        refine m_bipush C dX10_nameOf_238 cb_116 ?_
                        refine m_bipush C dX10_nameOf_240 cb_117 ?_
                        refine m_bipush C dX10_nameOf_242 cb_114 ?_
                        refine m_bipush C dX10_nameOf_244 cb_110 ?_
                        refine m_bipush C dX10_nameOf_246 cb_101 ?_
                        refine m_bipush C dX10_nameOf_248 cb_100 ?_
                        refine m_callSL C ml_X10_157 ⟨Nat.le_of_ble_eq_true rfl, Nat.le_of_ble_eq_true rfl⟩ [.int 116, .int 117, .int 114, .int 110, .int 101, .int 100] [.long (gl s_20 27 11)] rfl rfl (Nat.le_of_ble_eq_true rfl) dX10_nameOf_250 (fun o ho => kX10_w6 l D ct A 116 117 114 110 101 100 s_20 o ho) (fun r_21 s_22 => ?_)
                        refine m_lcmp C dX10_nameOf_253 ?_
                        refine m_if_ne (tgt := 262) C dX10_nameOf_254 rfl ?_ ?_
                        · refine m_iconst C dX10_nameOf_262 ci_m1 ?_
                          exact m_iret C dX10_nameOf_263
                        · refine m_bipush C dX10_nameOf_257 cb_10 ?_
                          refine m_goto (tgt := 263) C dX10_nameOf_259 rfl ?_
                          exact m_iret C dX10_nameOf_263
                      · refine m_bipush C dX10_nameOf_229 cb_9 ?_
                        refine m_goto (tgt := 263) C dX10_nameOf_231 rfl ?_
                        exact m_iret C dX10_nameOf_263
                    · refine m_bipush C dX10_nameOf_203 cb_8 ?_
                      exact m_iret C dX10_nameOf_205
                  · refine m_bipush C dX10_nameOf_179 cb_7 ?_
                    exact m_iret C dX10_nameOf_181
                · refine m_bipush C dX10_nameOf_157 cb_6 ?_
                  exact m_iret C dX10_nameOf_159
              · refine m_iconst C dX10_nameOf_138 ci_5 ?_
                exact m_iret C dX10_nameOf_139
            · refine m_iconst C dX10_nameOf_117 ci_4 ?_
              exact m_iret C dX10_nameOf_118
          · refine m_iconst C dX10_nameOf_92 ci_3 ?_
            exact m_iret C dX10_nameOf_93
        · refine m_iconst C dX10_nameOf_69 ci_2 ?_
          exact m_iret C dX10_nameOf_70
      · refine m_iconst C dX10_nameOf_48 ci_1 ?_
        exact m_iret C dX10_nameOf_49
    · refine m_iconst C dX10_nameOf_29 ci_0 ?_
      exact m_iret C dX10_nameOf_30
  · refine m_iconst C dX10_nameOf_8 ci_m1 ?_
    exact m_iret C dX10_nameOf_9
