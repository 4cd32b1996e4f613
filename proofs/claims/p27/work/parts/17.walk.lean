def fX4_borneOf (a2 : Int32) (a3 : Int32) (s0 : Sg) : Option (Int32 × Sg) :=
  chk (inb 12 a2) <|
  bnd (fX4_borne (gr s0 1 13) a2 (gi s0 9 (ix a2)) (gi s0 10 (ix a2)) a3 s0) fun r_2 s_3 =>
  some (r_2, s_3)
theorem kX4_borneOf (l : Launch) (D : va_G) (ct : Nat → ClassId) (A : Nat → Nat) (a2 : Int32) (a3 : Int32) (s0 : Sg) (o : Int32 × Sg) (ho : fX4_borneOf a2 a3 s0 = some o) : Con l yX4_borneOf cX4_borneOf 4 (some .int) 3 D ct A [.ref (A 6), .ref (A 1), .int a2, .int a3] s0 (embI o) := by
  refine con_start (by decide +kernel) (Nat.le_of_ble_eq_true rfl) ho (fun p e s m args below meth c C => ?_)
  refine m_loc (L2 := [(0, .ref (A 6)), (1, .ref (A 1)), (2, .int a2), (3, .int a3)]) [0, 1, 2, 3] rfl ?_
  unfold fX4_borneOf
  refine m_aload_n C dX4_borneOf_0 rfl ?_
  refine m_aload_n C dX4_borneOf_1 rfl ?_
  refine m_get (v := rfv A (gr s0 1 13)) C fl_X4_24_6 rfl (by decide) rfl dX4_borneOf_2 ?_
  refine m_iload_n C dX4_borneOf_5 rfl ?_
  refine m_aload_n C dX4_borneOf_6 rfl ?_
  refine m_get (v := .ref (A 9)) C fl_X4_28_6 rfl (by decide) rfl dX4_borneOf_7 ?_
  refine m_iload_n C dX4_borneOf_10 rfl ?_
  refine m_chk (fun h_1 => ?_)
  refine m_iald C rfl h_1 dX4_borneOf_11 ?_
  refine m_aload_n C dX4_borneOf_12 rfl ?_
  refine m_get (v := .ref (A 10)) C fl_X4_31_6 rfl (by decide) rfl dX4_borneOf_13 ?_
  refine m_iload_n C dX4_borneOf_16 rfl ?_
  refine m_iald C rfl h_1 dX4_borneOf_17 ?_
  refine m_iload_n C dX4_borneOf_18 rfl ?_
  refine m_callVI C ml_X4_34 ⟨Nat.le_of_ble_eq_true rfl, Nat.le_of_ble_eq_true rfl⟩ rfl rfl [rfv A (gr s0 1 13), .int a2, .int (gi s0 9 (ix a2)), .int (gi s0 10 (ix a2)), .int a3] [] rfl rfl (Nat.le_of_ble_eq_true rfl) dX4_borneOf_19 (fun o ho => kX4_borne l D ct A (gr s0 1 13) a2 (gi s0 9 (ix a2)) (gi s0 10 (ix a2)) a3 s0 o ho) (fun r_2 s_3 => ?_)
  exact m_iret C dX4_borneOf_22
def fX7_wordToken (s0 : Sg) : Option (Int32 × Sg) :=
  bnd (fX7_reads 100 s0) fun r_1 s_2 =>
  if (b2i r_1) = 0 then
    bnd (fX7_reads 101 s_2) fun r_3 s_4 =>
    if (b2i r_3) = 0 then
      bnd (fX7_reads 102 s_4) fun r_5 s_6 =>
      if (b2i r_5) = 0 then
        bnd (fX7_reads 103 s_6) fun r_7 s_8 =>
        if (b2i r_7) = 0 then
          bnd (fX7_reads 104 s_8) fun r_9 s_10 =>
          if (b2i r_9) = 0 then
            bnd (fX7_reads 105 s_10) fun r_11 s_12 =>
            if (b2i r_11) = 0 then
              bnd (fX7_reads 106 s_12) fun r_13 s_14 =>
              if (b2i r_13) = 0 then
                bnd (fX7_reads 107 s_14) fun r_15 s_16 =>
                if (b2i r_15) = 0 then
                  bnd (fX7_reads 108 s_16) fun r_17 s_18 =>
                  if (b2i r_17) = 0 then
                    bnd (fX7_reads 109 s_18) fun r_19 s_20 =>
                    if (b2i r_19) = 0 then
                      bnd (fX7_reads 110 s_20) fun r_21 s_22 =>
                      if (b2i r_21) = 0 then
                        bnd (fX7_reads 111 s_22) fun r_23 s_24 =>
                        if (b2i r_23) = 0 then
                          bnd (fX7_reads 112 s_24) fun r_25 s_26 =>
                          if (b2i r_25) = 0 then
                            bnd (fX7_reads 113 s_26) fun r_27 s_28 =>
                            if (b2i r_27) = 0 then
                              bnd (fX7_reads 114 s_28) fun r_29 s_30 =>
                              if (b2i r_29) = 0 then
                                bnd (fX7_reads 115 s_30) fun r_31 s_32 =>
                                if (b2i r_31) = 0 then
                                  bnd (fX7_reads 116 s_32) fun r_33 s_34 =>
                                  if (b2i r_33) = 0 then
                                    bnd (fX7_reads 117 s_34) fun r_35 s_36 =>
                                    if (b2i r_35) = 0 then
                                      bnd (fX7_reads 118 s_36) fun r_37 s_38 =>
                                      if (b2i r_37) = 0 then
                                        bnd (fX7_reads 119 s_38) fun r_39 s_40 =>
                                        if (b2i r_39) = 0 then
                                          some (25, s_40)
                                        else
                                          some (36, s_40)
                                      else
                                        some (35, s_38)
                                    else
                                      some (34, s_36)
                                  else
                                    some (33, s_34)
                                else
                                  some (32, s_32)
                              else
                                some (31, s_30)
                            else
                              some (30, s_28)
                          else
                            some (29, s_26)
                        else
                          some (28, s_24)
                      else
                        some (27, s_22)
                    else
                      some (26, s_20)
                  else
                    some (23, s_18)
                else
                  some (22, s_16)
              else
                some (21, s_14)
            else
              some (20, s_12)
          else
            some (19, s_10)
        else
          some (18, s_8)
      else
        some (3, s_6)
    else
      some (2, s_4)
  else
    some (1, s_2)
theorem kX7_wordToken (l : Launch) (D : va_G) (ct : Nat → ClassId) (A : Nat → Nat) (s0 : Sg) (o : Int32 × Sg) (ho : fX7_wordToken s0 = some o) : Con l yX7_wordToken cX7_wordToken 1 (some .int) 5 D ct A [.ref (A 3)] s0 (embI o) := by
  refine con_start (by decide +kernel) (Nat.le_of_ble_eq_true rfl) ho (fun p e s m args below meth c C => ?_)
  refine m_loc (L2 := [(0, .ref (A 3))]) [0] rfl ?_
  unfold fX7_wordToken
  refine m_aload_n C dX7_wordToken_0 rfl ?_
  refine m_ldcS C 0 (by decide) rfl dX7_wordToken_1 ?_
  refine m_callVZ C ml_X7_60 ⟨Nat.le_of_ble_eq_true rfl, Nat.le_of_ble_eq_true rfl⟩ rfl rfl [.ref (A 100)] [] rfl rfl (Nat.le_of_ble_eq_true rfl) dX7_wordToken_3 (fun o ho => kX7_reads l D ct A 100 rfl s0 o ho) (fun r_1 s_2 => ?_)
  refine m_if_eq (tgt := 11) C dX7_wordToken_6 rfl ?_ ?_
  · refine m_aload_n C dX7_wordToken_11 rfl ?_
    refine m_ldcS C 1 (by decide) rfl dX7_wordToken_12 ?_
    refine m_callVZ C ml_X7_60 ⟨Nat.le_of_ble_eq_true rfl, Nat.le_of_ble_eq_true rfl⟩ rfl rfl [.ref (A 101)] [] rfl rfl (Nat.le_of_ble_eq_true rfl) dX7_wordToken_14 (fun o ho => kX7_reads l D ct A 101 rfl s_2 o ho) (fun r_3 s_4 => ?_)
    refine m_if_eq (tgt := 22) C dX7_wordToken_17 rfl ?_ ?_
    · refine m_aload_n C dX7_wordToken_22 rfl ?_
      refine m_ldcS C 2 (by decide) rfl dX7_wordToken_23 ?_
      refine m_callVZ C ml_X7_60 ⟨Nat.le_of_ble_eq_true rfl, Nat.le_of_ble_eq_true rfl⟩ rfl rfl [.ref (A 102)] [] rfl rfl (Nat.le_of_ble_eq_true rfl) dX7_wordToken_25 (fun o ho => kX7_reads l D ct A 102 rfl s_4 o ho) (fun r_5 s_6 => ?_)
      refine m_if_eq (tgt := 33) C dX7_wordToken_28 rfl ?_ ?_
      · refine m_aload_n C dX7_wordToken_33 rfl ?_
        refine m_ldcS C 3 (by decide) rfl dX7_wordToken_34 ?_
        refine m_callVZ C ml_X7_60 ⟨Nat.le_of_ble_eq_true rfl, Nat.le_of_ble_eq_true rfl⟩ rfl rfl [.ref (A 103)] [] rfl rfl (Nat.le_of_ble_eq_true rfl) dX7_wordToken_36 (fun o ho => kX7_reads l D ct A 103 rfl s_6 o ho) (fun r_7 s_8 => ?_)
        refine m_if_eq (tgt := 45) C dX7_wordToken_39 rfl ?_ ?_
        · refine m_aload_n C dX7_wordToken_45 rfl ?_
          refine m_ldcS C 4 (by decide) rfl dX7_wordToken_46 ?_
          refine m_callVZ C ml_X7_60 ⟨Nat.le_of_ble_eq_true rfl, Nat.le_of_ble_eq_true rfl⟩ rfl rfl [.ref (A 104)] [] rfl rfl (Nat.le_of_ble_eq_true rfl) dX7_wordToken_48 (fun o ho => kX7_reads l D ct A 104 rfl s_8 o ho) (fun r_9 s_10 => ?_)
          refine m_if_eq (tgt := 57) C dX7_wordToken_51 rfl ?_ ?_
          · refine m_aload_n C dX7_wordToken_57 rfl ?_
            refine m_ldcS C 5 (by decide) rfl dX7_wordToken_58 ?_
            refine m_callVZ C ml_X7_60 ⟨Nat.le_of_ble_eq_true rfl, Nat.le_of_ble_eq_true rfl⟩ rfl rfl [.ref (A 105)] [] rfl rfl (Nat.le_of_ble_eq_true rfl) dX7_wordToken_60 (fun o ho => kX7_reads l D ct A 105 rfl s_10 o ho) (fun r_11 s_12 => ?_)
            refine m_if_eq (tgt := 69) C dX7_wordToken_63 rfl ?_ ?_
            · refine m_aload_n C dX7_wordToken_69 rfl ?_
              refine m_ldcS C 6 (by decide) rfl dX7_wordToken_70 ?_
              refine m_callVZ C ml_X7_60 ⟨Nat.le_of_ble_eq_true rfl, Nat.le_of_ble_eq_true rfl⟩ rfl rfl [.ref (A 106)] [] rfl rfl (Nat.le_of_ble_eq_true rfl) dX7_wordToken_72 (fun o ho => kX7_reads l D ct A 106 rfl s_12 o ho) (fun r_13 s_14 => ?_)
              refine m_if_eq (tgt := 81) C dX7_wordToken_75 rfl ?_ ?_
              · refine m_aload_n C dX7_wordToken_81 rfl ?_
                refine m_ldcS C 7 (by decide) rfl dX7_wordToken_82 ?_
                refine m_callVZ C ml_X7_60 ⟨Nat.le_of_ble_eq_true rfl, Nat.le_of_ble_eq_true rfl⟩ rfl rfl [.ref (A 107)] [] rfl rfl (Nat.le_of_ble_eq_true rfl) dX7_wordToken_84 (fun o ho => kX7_reads l D ct A 107 rfl s_14 o ho) (fun r_15 s_16 => ?_)
                refine m_if_eq (tgt := 93) C dX7_wordToken_87 rfl ?_ ?_
                · refine m_aload_n C dX7_wordToken_93 rfl ?_
                  refine m_ldcS C 8 (by decide) rfl dX7_wordToken_94 ?_
                  refine m_callVZ C ml_X7_60 ⟨Nat.le_of_ble_eq_true rfl, Nat.le_of_ble_eq_true rfl⟩ rfl rfl [.ref (A 108)] [] rfl rfl (Nat.le_of_ble_eq_true rfl) dX7_wordToken_96 (fun o ho => kX7_reads l D ct A 108 rfl s_16 o ho) (fun r_17 s_18 => ?_)
                  refine m_if_eq (tgt := 105) C dX7_wordToken_99 rfl ?_ ?_
                  · refine m_aload_n C dX7_wordToken_105 rfl ?_
                    refine m_ldcS C 9 (by decide) rfl dX7_wordToken_106 ?_
                    refine m_callVZ C ml_X7_60 ⟨Nat.le_of_ble_eq_true rfl, Nat.le_of_ble_eq_true rfl⟩ rfl rfl [.ref (A 109)] [] rfl rfl (Nat.le_of_ble_eq_true rfl) dX7_wordToken_108 (fun o ho => kX7_reads l D ct A 109 rfl s_18 o ho) (fun r_19 s_20 => ?_)
                    refine m_if_eq (tgt := 117) C dX7_wordToken_111 rfl ?_ ?_
                    · refine m_aload_n C dX7_wordToken_117 rfl ?_
                      refine m_ldcS C 10 (by decide) rfl dX7_wordToken_118 ?_
                      refine m_callVZ C ml_X7_60 ⟨Nat.le_of_ble_eq_true rfl, Nat.le_of_ble_eq_true rfl⟩ rfl rfl [.ref (A 110)] [] rfl rfl (Nat.le_of_ble_eq_true rfl) dX7_wordToken_120 (fun o ho => kX7_reads l D ct A 110 rfl s_20 o ho) (fun r_21 s_22 => ?_)
                      refine m_if_eq (tgt := 129) C dX7_wordToken_123 rfl ?_ ?_
                      · refine m_aload_n C dX7_wordToken_129 rfl ?_
                        refine m_ldcS C 11 (by decide) rfl dX7_wordToken_130 ?_
                        refine m_callVZ C ml_X7_60 ⟨Nat.le_of_ble_eq_true rfl, Nat.le_of_ble_eq_true rfl⟩ rfl rfl [.ref (A 111)] [] rfl rfl (Nat.le_of_ble_eq_true rfl) dX7_wordToken_132 (fun o ho => kX7_reads l D ct A 111 rfl s_22 o ho) (fun r_23 s_24 => ?_)
                        refine m_if_eq (tgt := 141) C dX7_wordToken_135 rfl ?_ ?_
                        · refine m_aload_n C dX7_wordToken_141 rfl ?_
                          refine m_ldcS C 12 (by decide) rfl dX7_wordToken_142 ?_
                          refine m_callVZ C ml_X7_60 ⟨Nat.le_of_ble_eq_true rfl, Nat.le_of_ble_eq_true rfl⟩ rfl rfl [.ref (A 112)] [] rfl rfl (Nat.le_of_ble_eq_true rfl) dX7_wordToken_144 (fun o ho => kX7_reads l D ct A 112 rfl s_24 o ho) (fun r_25 s_26 => ?_)
                          refine m_if_eq (tgt := 153) C dX7_wordToken_147 rfl ?_ ?_
                          · refine m_aload_n C dX7_wordToken_153 rfl ?_
                            refine m_ldcS C 13 (by decide) rfl dX7_wordToken_154 ?_
                            refine m_callVZ C ml_X7_60 ⟨Nat.le_of_ble_eq_true rfl, Nat.le_of_ble_eq_true rfl⟩ rfl rfl [.ref (A 113)] [] rfl rfl (Nat.le_of_ble_eq_true rfl) dX7_wordToken_156 (fun o ho => kX7_reads l D ct A 113 rfl s_26 o ho) (fun r_27 s_28 => ?_)
                            refine m_if_eq (tgt := 165) C dX7_wordToken_159 rfl ?_ ?_
                            · refine m_aload_n C dX7_wordToken_165 rfl ?_
                              refine m_ldcS C 14 (by decide) rfl dX7_wordToken_166 ?_
                              refine m_callVZ C ml_X7_60 ⟨Nat.le_of_ble_eq_true rfl, Nat.le_of_ble_eq_true rfl⟩ rfl rfl [.ref (A 114)] [] rfl rfl (Nat.le_of_ble_eq_true rfl) dX7_wordToken_168 (fun o ho => kX7_reads l D ct A 114 rfl s_28 o ho) (fun r_29 s_30 => ?_)
                              refine m_if_eq (tgt := 177) C dX7_wordToken_171 rfl ?_ ?_
                              · refine m_aload_n C dX7_wordToken_177 rfl ?_
                                refine m_ldcS C 15 (by decide) rfl dX7_wordToken_178 ?_
                                refine m_callVZ C ml_X7_60 ⟨Nat.le_of_ble_eq_true rfl, Nat.le_of_ble_eq_true rfl⟩ rfl rfl [.ref (A 115)] [] rfl rfl (Nat.le_of_ble_eq_true rfl) dX7_wordToken_180 (fun o ho => kX7_reads l D ct A 115 rfl s_30 o ho) (fun r_31 s_32 => ?_)
                                refine m_if_eq (tgt := 189) C dX7_wordToken_183 rfl ?_ ?_
                                · refine m_aload_n C dX7_wordToken_189 rfl ?_
                                  refine m_ldcS C 16 (by decide) rfl dX7_wordToken_190 ?_
                                  refine m_callVZ C ml_X7_60 ⟨Nat.le_of_ble_eq_true rfl, Nat.le_of_ble_eq_true rfl⟩ rfl rfl [.ref (A 116)] [] rfl rfl (Nat.le_of_ble_eq_true rfl) dX7_wordToken_192 (fun o ho => kX7_reads l D ct A 116 rfl s_32 o ho) (fun r_33 s_34 => ?_)
                                  refine m_if_eq (tgt := 201) C dX7_wordToken_195 rfl ?_ ?_
                                  · refine m_aload_n C dX7_wordToken_201 rfl ?_
                                    refine m_ldcS C 17 (by decide) rfl dX7_wordToken_202 ?_
                                    refine m_callVZ C ml_X7_60 ⟨Nat.le_of_ble_eq_true rfl, Nat.le_of_ble_eq_true rfl⟩ rfl rfl [.ref (A 117)] [] rfl rfl (Nat.le_of_ble_eq_true rfl) dX7_wordToken_204 (fun o ho => kX7_reads l D ct A 117 rfl s_34 o ho) (fun r_35 s_36 => ?_)
                                    refine m_if_eq (tgt := 213) C dX7_wordToken_207 rfl ?_ ?_
                                    · refine m_aload_n C dX7_wordToken_213 rfl ?_
                                      refine m_ldcS C 18 (by decide) rfl dX7_wordToken_214 ?_
                                      refine m_callVZ C ml_X7_60 ⟨Nat.le_of_ble_eq_true rfl, Nat.le_of_ble_eq_true rfl⟩ rfl rfl [.ref (A 118)] [] rfl rfl (Nat.le_of_ble_eq_true rfl) dX7_wordToken_216 (fun o ho => kX7_reads l D ct A 118 rfl s_36 o ho) (fun r_37 s_38 => ?_)
                                      refine m_if_eq (tgt := 225) C dX7_wordToken_219 rfl ?_ ?_
                                      · refine m_aload_n C dX7_wordToken_225 rfl ?_
                                        refine m_ldcS C 19 (by decide) rfl dX7_wordToken_226 ?_
                                        refine m_callVZ C ml_X7_60 ⟨Nat.le_of_ble_eq_true rfl, Nat.le_of_ble_eq_true rfl⟩ rfl rfl [.ref (A 119)] [] rfl rfl (Nat.le_of_ble_eq_true rfl) dX7_wordToken_228 (fun o ho => kX7_reads l D ct A 119 rfl s_38 o ho) (fun r_39 s_40 => ?_)
                                        refine m_if_eq (tgt := 237) C dX7_wordToken_231 rfl ?_ ?_
                                        · refine m_bipush C dX7_wordToken_237 cb_25 ?_
                                          exact m_iret C dX7_wordToken_239
                                        · refine m_bipush C dX7_wordToken_234 cb_36 ?_
                                          exact m_iret C dX7_wordToken_236
                                      · refine m_bipush C dX7_wordToken_222 cb_35 ?_
                                        exact m_iret C dX7_wordToken_224
                                    · refine m_bipush C dX7_wordToken_210 cb_34 ?_
                                      exact m_iret C dX7_wordToken_212
                                  · refine m_bipush C dX7_wordToken_198 cb_33 ?_
                                    exact m_iret C dX7_wordToken_200
                                · refine m_bipush C dX7_wordToken_186 cb_32 ?_
                                  exact m_iret C dX7_wordToken_188
                              · refine m_bipush C dX7_wordToken_174 cb_31 ?_
                                exact m_iret C dX7_wordToken_176
                            · refine m_bipush C dX7_wordToken_162 cb_30 ?_
                              exact m_iret C dX7_wordToken_164
                          · refine m_bipush C dX7_wordToken_150 cb_29 ?_
                            exact m_iret C dX7_wordToken_152
                        · refine m_bipush C dX7_wordToken_138 cb_28 ?_
                          exact m_iret C dX7_wordToken_140
                      · refine m_bipush C dX7_wordToken_126 cb_27 ?_
                        exact m_iret C dX7_wordToken_128
                    · refine m_bipush C dX7_wordToken_114 cb_26 ?_
                      exact m_iret C dX7_wordToken_116
                  · refine m_bipush C dX7_wordToken_102 cb_23 ?_
                    exact m_iret C dX7_wordToken_104
                · refine m_bipush C dX7_wordToken_90 cb_22 ?_
                  exact m_iret C dX7_wordToken_92
              · refine m_bipush C dX7_wordToken_78 cb_21 ?_
                exact m_iret C dX7_wordToken_80
            · refine m_bipush C dX7_wordToken_66 cb_20 ?_
              exact m_iret C dX7_wordToken_68
          · refine m_bipush C dX7_wordToken_54 cb_19 ?_
            exact m_iret C dX7_wordToken_56
        · refine m_bipush C dX7_wordToken_42 cb_18 ?_
          exact m_iret C dX7_wordToken_44
      · refine m_iconst C dX7_wordToken_31 ci_3 ?_
        exact m_iret C dX7_wordToken_32
    · refine m_iconst C dX7_wordToken_20 ci_2 ?_
      exact m_iret C dX7_wordToken_21
  · refine m_iconst C dX7_wordToken_9 ci_1 ?_
    exact m_iret C dX7_wordToken_10
def fX9_of (a1 : Int32) (a2 : Int32) (s0 : Sg) : Option (Int32 × Sg) :=
  bnd (fX9_within a1 0 ((gi s0 1 6) - 1) s0) fun r_1 s_2 =>
  if (b2i r_1) = 0 then
    some ((-2), s_2)
  else
    bnv (fX4_setAir (gi s_2 1 3) (gi s_2 1 4) (gi s_2 1 5) s_2) fun s_3 =>
    if a2 = 0 then
      chk (inb 12 a1) <|
      some (gi s_3 9 (ix a1), s_3)
    else
      if a2 = 1 then
        chk (inb 12 a1) <|
        some (gi s_3 10 (ix a1), s_3)
      else
        if a2 = 2 then
          bnd (fX6_panOf a1 s_3) fun r_8 s_9 =>
          some (r_8, s_9)
        else
          if a2 = 3 then
            bnd (fX4_borneOf a1 0 s_3) fun r_11 s_12 =>
            some (r_11, s_12)
          else
            if a2 = 4 then
              bnd (fX4_borneOf a1 1 s_3) fun r_14 s_15 =>
              some (r_14, s_15)
            else
              some ((-2), s_3)
theorem kX9_of (l : Launch) (D : va_G) (ct : Nat → ClassId) (A : Nat → Nat) (a1 : Int32) (a2 : Int32) (s0 : Sg) (o : Int32 × Sg) (ho : fX9_of a1 a2 s0 = some o) : Con l yX9_of cX9_of 3 (some .int) 4 D ct A [.ref (A 0), .int a1, .int a2] s0 (embI o) := by
  refine con_start (by decide +kernel) (Nat.le_of_ble_eq_true rfl) ho (fun p e s m args below meth c C => ?_)
  refine m_loc (L2 := [(0, .ref (A 0)), (1, .int a1), (2, .int a2)]) [0, 1, 2] rfl ?_
  unfold fX9_of
  refine m_iload_n C dX9_of_0 rfl ?_
  refine m_iconst C dX9_of_1 ci_0 ?_
  refine m_aload_n C dX9_of_2 rfl ?_
  refine m_get (v := .ref (A 1)) C fl_X9_10_8 rfl (by decide) rfl dX9_of_3 ?_
  refine m_get (v := .int (gi s0 1 6)) C fl_X9_77_6 rfl (by decide) rfl dX9_of_6 ?_
  refine m_iconst C dX9_of_9 ci_1 ?_
  refine m_isub C dX9_of_10 ?_
  refine m_callSZ C ml_X9_63 ⟨Nat.le_of_ble_eq_true rfl, Nat.le_of_ble_eq_true rfl⟩ [.int a1, .int 0, .int ((gi s0 1 6) - 1)] [] rfl rfl (Nat.le_of_ble_eq_true rfl) dX9_of_11 (fun o ho => kX9_within l D ct A a1 0 ((gi s0 1 6) - 1) s0 o ho) (fun r_1 s_2 => ?_)
  refine m_if_ne (tgt := 20) C dX9_of_14 rfl ?_ ?_
  · refine m_aload_n C dX9_of_20 rfl ?_
    refine m_get (v := .ref (A 6)) C fl_X9_44_8 rfl (by decide) rfl dX9_of_21 ?_
    refine m_aload_n C dX9_of_24 rfl ?_
    refine m_get (v := .ref (A 1)) C fl_X9_10_8 rfl (by decide) rfl dX9_of_25 ?_
    refine m_get (v := .int (gi s_2 1 3)) C fl_X9_87_6 rfl (by decide) rfl dX9_of_28 ?_
    refine m_aload_n C dX9_of_31 rfl ?_
    refine m_get (v := .ref (A 1)) C fl_X9_10_8 rfl (by decide) rfl dX9_of_32 ?_
    refine m_get (v := .int (gi s_2 1 4)) C fl_X9_90_6 rfl (by decide) rfl dX9_of_35 ?_
    refine m_aload_n C dX9_of_38 rfl ?_
    refine m_get (v := .ref (A 1)) C fl_X9_10_8 rfl (by decide) rfl dX9_of_39 ?_
    refine m_get (v := .int (gi s_2 1 5)) C fl_X9_93_6 rfl (by decide) rfl dX9_of_42 ?_
    refine m_callVV C ml_X9_166 ⟨Nat.le_of_ble_eq_true rfl, Nat.le_of_ble_eq_true rfl⟩ rfl rfl [.int (gi s_2 1 3), .int (gi s_2 1 4), .int (gi s_2 1 5)] [] rfl rfl (Nat.le_of_ble_eq_true rfl) dX9_of_45 (fun o ho => kX4_setAir l D ct A (gi s_2 1 3) (gi s_2 1 4) (gi s_2 1 5) s_2 o ho) (fun s_3 => ?_)
    refine m_iload_n C dX9_of_48 rfl ?_
    refine m_tbl (n := 0) C dX9_of_49 0 35 84 (by decide +kernel) ?_ (fun h_5 => ?_)
    · refine m_aload_n C dX9_of_84 rfl ?_
      refine m_get (v := .ref (A 1)) C fl_X9_10_8 rfl (by decide) rfl dX9_of_85 ?_
      refine m_get (v := .ref (A 9)) C fl_X9_80_6 rfl (by decide) rfl dX9_of_88 ?_
      refine m_iload_n C dX9_of_91 rfl ?_
      refine m_chk (fun h_4 => ?_)
      refine m_iald C rfl h_4 dX9_of_92 ?_
      refine m_goto (tgt := 153) C dX9_of_93 rfl ?_
      exact m_iret C dX9_of_153
    · refine m_tbl (n := 0) C dX9_of_49 1 47 96 (by decide +kernel) ?_ (fun h_7 => ?_)
      · refine m_aload_n C dX9_of_96 rfl ?_
        refine m_get (v := .ref (A 1)) C fl_X9_10_8 rfl (by decide) rfl dX9_of_97 ?_
        refine m_get (v := .ref (A 10)) C fl_X9_84_6 rfl (by decide) rfl dX9_of_100 ?_
        refine m_iload_n C dX9_of_103 rfl ?_
        refine m_chk (fun h_6 => ?_)
        refine m_iald C rfl h_6 dX9_of_104 ?_
        refine m_goto (tgt := 153) C dX9_of_105 rfl ?_
        exact m_iret C dX9_of_153
      · refine m_tbl (n := 0) C dX9_of_49 2 59 108 (by decide +kernel) ?_ (fun h_10 => ?_)
        · refine m_aload_n C dX9_of_108 rfl ?_
          refine m_get (v := .ref (A 1)) C fl_X9_10_8 rfl (by decide) rfl dX9_of_109 ?_
          refine m_iload_n C dX9_of_112 rfl ?_
          refine m_callVI C ml_X9_137 ⟨Nat.le_of_ble_eq_true rfl, Nat.le_of_ble_eq_true rfl⟩ rfl rfl [.int a1] [] rfl rfl (Nat.le_of_ble_eq_true rfl) dX9_of_113 (fun o ho => kX6_panOf l D ct A a1 s_3 o ho) (fun r_8 s_9 => ?_)
          refine m_goto (tgt := 153) C dX9_of_116 rfl ?_
          exact m_iret C dX9_of_153
        · refine m_tbl (n := 0) C dX9_of_49 3 70 119 (by decide +kernel) ?_ (fun h_13 => ?_)
          · refine m_aload_n C dX9_of_119 rfl ?_
            refine m_get (v := .ref (A 6)) C fl_X9_44_8 rfl (by decide) rfl dX9_of_120 ?_
            refine m_aload_n C dX9_of_123 rfl ?_
            refine m_get (v := .ref (A 1)) C fl_X9_10_8 rfl (by decide) rfl dX9_of_124 ?_
            refine m_iload_n C dX9_of_127 rfl ?_
            refine m_iconst C dX9_of_128 ci_0 ?_
            refine m_callVI C ml_X9_170 ⟨Nat.le_of_ble_eq_true rfl, Nat.le_of_ble_eq_true rfl⟩ rfl rfl [.ref (A 1), .int a1, .int 0] [] rfl rfl (Nat.le_of_ble_eq_true rfl) dX9_of_129 (fun o ho => kX4_borneOf l D ct A a1 0 s_3 o ho) (fun r_11 s_12 => ?_)
            refine m_goto (tgt := 153) C dX9_of_132 rfl ?_
            exact m_iret C dX9_of_153
          · refine m_tbl (n := 0) C dX9_of_49 4 86 135 (by decide +kernel) ?_ (fun h_16 => ?_)
            · refine m_aload_n C dX9_of_135 rfl ?_
              refine m_get (v := .ref (A 6)) C fl_X9_44_8 rfl (by decide) rfl dX9_of_136 ?_
              refine m_aload_n C dX9_of_139 rfl ?_
              refine m_get (v := .ref (A 1)) C fl_X9_10_8 rfl (by decide) rfl dX9_of_140 ?_
              refine m_iload_n C dX9_of_143 rfl ?_
              refine m_iconst C dX9_of_144 ci_1 ?_
              refine m_callVI C ml_X9_170 ⟨Nat.le_of_ble_eq_true rfl, Nat.le_of_ble_eq_true rfl⟩ rfl rfl [.ref (A 1), .int a1, .int 1] [] rfl rfl (Nat.le_of_ble_eq_true rfl) dX9_of_145 (fun o ho => kX4_borneOf l D ct A a1 1 s_3 o ho) (fun r_14 s_15 => ?_)
              refine m_goto (tgt := 153) C dX9_of_148 rfl ?_
              exact m_iret C dX9_of_153
            · refine m_tblD C dX9_of_49 151 rfl (tbl_dflt [0, 1, 2, 3, 4] (fun w hw => by simp only [List.mem_cons, List.not_mem_nil, or_false] at hw; rcases hw with rfl | rfl | rfl | rfl | rfl <;> assumption) 4 (by decide) (by decide +kernel)) ?_
              refine m_bipush C dX9_of_151 cb_m2 ?_
              exact m_iret C dX9_of_153
  · refine m_bipush C dX9_of_17 cb_m2 ?_
    exact m_iret C dX9_of_19
def fX9_rest_53_b (a2 : Int32) (k_11 : Int32 → Int32 → Sg → Option (Int32 × Sg)) (rec53 : Int32 → Int32 → Int32 → Int32 → Int32 → Sg → Option (Int32 × Sg)) (x4_12 : Int32) (x5_13 : Int32) (x6_14 : Int32) (x7_15 : Int32) (x8_16 : Int32) (s_17 : Sg) : Option (Int32 × Sg) :=
  if a2 ≤ x8_16 then
    k_11 x5_13 x7_15 s_17
  else
    bnv (fX4_setAir (((gi s_17 1 3) + x8_16) - ((gi s_17 1 3) + x8_16) / 24 * 24) (gi s_17 1 4) ((x4_12 - x4_12 / 19 * 19) - 9) s_17) fun s_18 =>
    bnv (fX4_weigh (gi s_18 1 9) (gi s_18 1 10) s_18) fun s_19 =>
    bnd (fX9_leaning (gi s_19 6 4) (gi s_19 1 2) s_19) fun r_20 s_21 =>
    bv (fun (y_22 : Bool) => 
      bv (fun (y_24 : Int32) (y_25 : Bool) => 
        bv (y_24 + (b2i y_25)) fun v_27 =>
        bv (fun (y_28 : Int32) => 
          bv (imax x7_15 y_28) fun v_30 =>
          bv (((x4_12 * 167) + 43) - ((x4_12 * 167) + 43) / 30089 * 30089) fun v_31 =>
          bv (x8_16 + 1) fun v_32 =>
          rec53 v_31 v_27 y_28 v_30 v_32 s_21)
        fun k_29 =>
        if (b2i y_22) = 0 then
          k_29 0
        else
          k_29 (x6_14 + 1))
      fun k_26 =>
      if (b2i y_22) = 0 then
        k_26 x5_13 false
      else
        k_26 x5_13 true)
    fun k_23 =>
    if r_20 = 0 then
      k_23 true
    else
      k_23 false
def fX9_rest (a1 : Int32) (a2 : Int32) (a3 : Int32) (s0 : Sg) : Option (Int32 × Sg) :=
  bnd (fX9_within a1 0 9999 s0) fun r_1 s_2 =>
  if (b2i r_1) = 0 then
    some ((-1), s_2)
  else
    bnd (fX9_within a2 1 99 s_2) fun r_3 s_4 =>
    if (b2i r_3) = 0 then
      some ((-1), s_4)
    else
      bnd (fX9_within a3 0 1 s_4) fun r_5 s_6 =>
      if (b2i r_5) = 0 then
        some ((-1), s_6)
      else
        bv ((a1 * 7) + 17) fun v_7 =>
        bv (fun (x5_8 : Int32) (x7_9 : Int32) (s_10 : Sg) => 
          if a3 = 0 then
            some (x5_8, s_10)
          else
            some (x7_9, s_10))
        fun k_11 =>
        lo6 (fX9_rest_53_b a2 k_11) FU v_7 0 0 0 0 s_6
theorem wX9_rest_53 {p : Program} {l : Launch} {e : Env} {s : State} {m : MethodId} {args : Array Value} {below : List Frame} {meth : Method} {c : Code} {D : va_G} {ct : Nat → ClassId} {A : Nat → Nat} (C : Cx p m c cX9_rest 10 s args yX9_rest.cls meth (some .int) D ct A) (a2 : Int32) (a3 : Int32) (k_11 : Int32 → Int32 → Sg → Option (Int32 × Sg)) (hk_11 : ∀ (x5_8 : Int32) (x7_9 : Int32) (s_10 : Sg), Wm p l e (rmD 4) s m args below meth c D ct A 10 embI 206 [(3, .int a3), (5, .int x5_8), (7, .int x7_9)] [] s_10 (k_11 x5_8 x7_9 s_10)) : ∀ (n : Nat) (x4_12 : Int32) (x5_13 : Int32) (x6_14 : Int32) (x7_15 : Int32) (x8_16 : Int32) (s_17 : Sg), Wm p l e (rmD 4) s m args below meth c D ct A 10 embI 53 [(0, .ref (A 0)), (2, .int a2), (3, .int a3), (4, .int x4_12), (5, .int x5_13), (6, .int x6_14), (7, .int x7_15), (8, .int x8_16)] [] s_17 (lo6 (fX9_rest_53_b a2 k_11) n x4_12 x5_13 x6_14 x7_15 x8_16 s_17) := by
  intro n
  induction n with
  | zero => intro x4_12 x5_13 x6_14 x7_15 x8_16 s_17; exact m_none
  | succ n hrec53 =>
    intro x4_12 x5_13 x6_14 x7_15 x8_16 s_17
    refine (show Wm p l e (rmD 4) s m args below meth c D ct A 10 embI 53 [(0, .ref (A 0)), (2, .int a2), (3, .int a3), (4, .int x4_12), (5, .int x5_13), (6, .int x6_14), (7, .int x7_15), (8, .int x8_16)] [] s_17 (fX9_rest_53_b a2 k_11 (lo6 (fX9_rest_53_b a2 k_11) n) x4_12 x5_13 x6_14 x7_15 x8_16 s_17) from ?_)
    generalize lo6 (fX9_rest_53_b a2 k_11) n = rec53 at hrec53 ⊢
    unfold fX9_rest_53_b
    refine m_iload C dX9_rest_53 rfl ?_
    refine m_iload_n C dX9_rest_55 rfl ?_
    refine m_icmp_ge (tgt := 206) C dX9_rest_56 rfl ?_ ?_
    · refine m_loc (L2 := [(3, .int a3), (5, .int x5_13), (7, .int x7_15)]) [2, 4, 6] rfl ?_
      exact hk_11 x5_13 x7_15 s_17
    · refine m_aload_n C dX9_rest_59 rfl ?_
      refine m_get (v := .ref (A 6)) C fl_X9_44_8 rfl (by decide) rfl dX9_rest_60 ?_
      refine m_aload_n C dX9_rest_63 rfl ?_
      refine m_get (v := .ref (A 1)) C fl_X9_10_8 rfl (by decide) rfl dX9_rest_64 ?_
      refine m_get (v := .int (gi s_17 1 3)) C fl_X9_87_6 rfl (by decide) rfl dX9_rest_67 ?_
      refine m_iload C dX9_rest_70 rfl ?_
      refine m_iadd C dX9_rest_72 ?_
      refine m_bipush C dX9_rest_73 cb_24 ?_
      refine m_irem C dX9_rest_75 (by decide +kernel) ?_
      refine m_aload_n C dX9_rest_76 rfl ?_
      refine m_get (v := .ref (A 1)) C fl_X9_10_8 rfl (by decide) rfl dX9_rest_77 ?_
      refine m_get (v := .int (gi s_17 1 4)) C fl_X9_90_6 rfl (by decide) rfl dX9_rest_80 ?_
      refine m_iload C dX9_rest_83 rfl ?_
      refine m_bipush C dX9_rest_85 cb_19 ?_
      refine m_irem C dX9_rest_87 (by decide +kernel) ?_
      refine m_bipush C dX9_rest_88 cb_9 ?_
      refine m_isub C dX9_rest_90 ?_
      refine m_callVV C ml_X9_166 ⟨Nat.le_of_ble_eq_true rfl, Nat.le_of_ble_eq_true rfl⟩ rfl rfl [.int (((gi s_17 1 3) + x8_16) - ((gi s_17 1 3) + x8_16) / 24 * 24), .int (gi s_17 1 4), .int ((x4_12 - x4_12 / 19 * 19) - 9)] [] rfl rfl (Nat.le_of_ble_eq_true rfl) dX9_rest_91 (fun o ho => kX4_setAir l D ct A (((gi s_17 1 3) + x8_16) - ((gi s_17 1 3) + x8_16) / 24 * 24) (gi s_17 1 4) ((x4_12 - x4_12 / 19 * 19) - 9) s_17 o ho) (fun s_18 => ?_)
      refine m_aload_n C dX9_rest_94 rfl ?_
      refine m_get (v := .ref (A 6)) C fl_X9_44_8 rfl (by decide) rfl dX9_rest_95 ?_
      refine m_aload_n C dX9_rest_98 rfl ?_
      refine m_get (v := .ref (A 1)) C fl_X9_10_8 rfl (by decide) rfl dX9_rest_99 ?_
      refine m_aload_n C dX9_rest_102 rfl ?_
      refine m_get (v := .ref (A 1)) C fl_X9_10_8 rfl (by decide) rfl dX9_rest_103 ?_
      refine m_get (v := .int (gi s_18 1 9)) C fl_X9_258_6 rfl (by decide) rfl dX9_rest_106 ?_
      refine m_aload_n C dX9_rest_109 rfl ?_
      refine m_get (v := .ref (A 1)) C fl_X9_10_8 rfl (by decide) rfl dX9_rest_110 ?_
      refine m_get (v := .int (gi s_18 1 10)) C fl_X9_259_6 rfl (by decide) rfl dX9_rest_113 ?_
      refine m_callVV C ml_X9_260 ⟨Nat.le_of_ble_eq_true rfl, Nat.le_of_ble_eq_true rfl⟩ rfl rfl [.ref (A 1), .int (gi s_18 1 9), .int (gi s_18 1 10)] [] rfl rfl (Nat.le_of_ble_eq_true rfl) dX9_rest_116 (fun o ho => kX4_weigh l D ct A (gi s_18 1 9) (gi s_18 1 10) s_18 o ho) (fun s_19 => ?_)
      refine m_aload_n C dX9_rest_119 rfl ?_
      refine m_get (v := .ref (A 6)) C fl_X9_44_8 rfl (by decide) rfl dX9_rest_120 ?_
      refine m_get (v := .int (gi s_19 6 4)) C fl_X9_177_4 rfl (by decide) rfl dX9_rest_123 ?_
      refine m_aload_n C dX9_rest_126 rfl ?_
      refine m_get (v := .ref (A 1)) C fl_X9_10_8 rfl (by decide) rfl dX9_rest_127 ?_
      refine m_get (v := .int (gi s_19 1 2)) C fl_X9_74_6 rfl (by decide) rfl dX9_rest_130 ?_
      refine m_callSI C ml_X9_180 ⟨Nat.le_of_ble_eq_true rfl, Nat.le_of_ble_eq_true rfl⟩ [.int (gi s_19 6 4), .int (gi s_19 1 2)] [] rfl rfl (Nat.le_of_ble_eq_true rfl) dX9_rest_133 (fun o ho => kX9_leaning l D ct A (gi s_19 6 4) (gi s_19 1 2) s_19 o ho) (fun r_20 s_21 => ?_)
      refine m_jn (P := fun (k_23 : Bool → Option (Int32 × Sg)) => ∀ (y_22 : Bool), Wm p l e (rmD 4) s m args below meth c D ct A 10 embI 144 [(0, .ref (A 0)), (2, .int a2), (3, .int a3), (4, .int x4_12), (5, .int x5_13), (6, .int x6_14), (7, .int x7_15), (8, .int x8_16)] [.int (b2i y_22)] s_21 (k_23 y_22)) ?_ (fun k_23 hk_23 => ?_)
      · intro y_22
        refine m_istore (L2 := [(9, .int (b2i y_22)), (0, .ref (A 0)), (2, .int a2), (3, .int a3), (4, .int x4_12), (5, .int x5_13), (6, .int x6_14), (7, .int x7_15), (8, .int x8_16)]) C dX9_rest_144 (by decide) rfl ?_
        refine m_iload C dX9_rest_146 rfl ?_
        refine m_iload C dX9_rest_148 rfl ?_
        refine m_jn (P := fun (k_26 : Int32 → Bool → Option (Int32 × Sg)) => ∀ (y_24 : Int32) (y_25 : Bool), Wm p l e (rmD 4) s m args below meth c D ct A 10 embI 158 [(0, .ref (A 0)), (2, .int a2), (3, .int a3), (4, .int x4_12), (6, .int x6_14), (7, .int x7_15), (8, .int x8_16), (9, .int (b2i y_22))] [.int (b2i y_25), .int y_24] s_21 (k_26 y_24 y_25)) ?_ (fun k_26 hk_26 => ?_)
        · intro y_24 y_25
          refine m_iadd C dX9_rest_158 ?_
          refine m_let (fun v_27 => ?_)
          refine m_istore (L2 := [(5, .int v_27), (0, .ref (A 0)), (2, .int a2), (3, .int a3), (4, .int x4_12), (6, .int x6_14), (7, .int x7_15), (8, .int x8_16), (9, .int (b2i y_22))]) C dX9_rest_159 (by decide) rfl ?_
          refine m_iload C dX9_rest_161 rfl ?_
          refine m_jn (P := fun (k_29 : Int32 → Option (Int32 × Sg)) => ∀ (y_28 : Int32), Wm p l e (rmD 4) s m args below meth c D ct A 10 embI 174 [(0, .ref (A 0)), (2, .int a2), (3, .int a3), (4, .int x4_12), (5, .int v_27), (7, .int x7_15), (8, .int x8_16)] [.int y_28] s_21 (k_29 y_28)) ?_ (fun k_29 hk_29 => ?_)
          · intro y_28
            refine m_istore (L2 := [(6, .int y_28), (0, .ref (A 0)), (2, .int a2), (3, .int a3), (4, .int x4_12), (5, .int v_27), (7, .int x7_15), (8, .int x8_16)]) C dX9_rest_174 (by decide) rfl ?_
            refine m_iload C dX9_rest_176 rfl ?_
            refine m_iload C dX9_rest_178 rfl ?_
            refine m_mmax C wd_859 ⟨by decide, Nat.le_of_ble_eq_true rfl⟩ dX9_rest_180 ?_
            refine m_let (fun v_30 => ?_)
            refine m_istore (L2 := [(7, .int v_30), (6, .int y_28), (0, .ref (A 0)), (2, .int a2), (3, .int a3), (4, .int x4_12), (5, .int v_27), (8, .int x8_16)]) C dX9_rest_183 (by decide) rfl ?_
            refine m_iload C dX9_rest_185 rfl ?_
            refine m_sipush C dX9_rest_187 cs_167 ?_
            refine m_imul C dX9_rest_190 ?_
            refine m_bipush C dX9_rest_191 cb_43 ?_
            refine m_iadd C dX9_rest_193 ?_
            refine m_sipush C dX9_rest_194 cs_30089 ?_
            refine m_irem C dX9_rest_197 (by decide +kernel) ?_
            refine m_let (fun v_31 => ?_)
            refine m_istore (L2 := [(4, .int v_31), (7, .int v_30), (6, .int y_28), (0, .ref (A 0)), (2, .int a2), (3, .int a3), (5, .int v_27), (8, .int x8_16)]) C dX9_rest_198 (by decide) rfl ?_
            refine m_iincb (L2 := fun v_32 => [(8, .int v_32), (4, .int v_31), (7, .int v_30), (6, .int y_28), (0, .ref (A 0)), (2, .int a2), (3, .int a3), (5, .int v_27)]) (q := 7) C dX9_rest_200 rfl ci_1 (by decide) (fun _ => rfl) (fun v_32 => ?_)
            refine m_goto (tgt := 53) C dX9_rest_203 rfl ?_
            refine m_loc (L2 := [(0, .ref (A 0)), (2, .int a2), (3, .int a3), (4, .int v_31), (5, .int v_27), (6, .int y_28), (7, .int v_30), (8, .int v_32)]) [4, 5, 6, 1, 7, 3, 2, 0] rfl ?_
            exact hrec53 v_31 v_27 y_28 v_30 v_32 s_21
          refine m_if_eq (tgt := 173) C dX9_rest_163 rfl ?_ ?_
          · refine m_iconst C dX9_rest_173 ci_0 ?_
            refine m_loc (L2 := [(0, .ref (A 0)), (2, .int a2), (3, .int a3), (4, .int x4_12), (5, .int v_27), (7, .int x7_15), (8, .int x8_16)]) [1, 2, 3, 4, 0, 6, 7] rfl ?_
            exact hk_29 0
          · refine m_iload C dX9_rest_166 rfl ?_
            refine m_iconst C dX9_rest_168 ci_1 ?_
            refine m_iadd C dX9_rest_169 ?_
            refine m_goto (tgt := 174) C dX9_rest_170 rfl ?_
            refine m_loc (L2 := [(0, .ref (A 0)), (2, .int a2), (3, .int a3), (4, .int x4_12), (5, .int v_27), (7, .int x7_15), (8, .int x8_16)]) [1, 2, 3, 4, 0, 6, 7] rfl ?_
            exact hk_29 (x6_14 + 1)
        refine m_if_eq (tgt := 157) C dX9_rest_150 rfl ?_ ?_
        · refine m_iconst C dX9_rest_157 ci_0 ?_
          refine m_loc (L2 := [(0, .ref (A 0)), (2, .int a2), (3, .int a3), (4, .int x4_12), (6, .int x6_14), (7, .int x7_15), (8, .int x8_16), (9, .int (b2i y_22))]) [1, 2, 3, 4, 6, 7, 8, 0] rfl ?_
          exact hk_26 x5_13 false
        · refine m_iconst C dX9_rest_153 ci_1 ?_
          refine m_goto (tgt := 158) C dX9_rest_154 rfl ?_
          refine m_loc (L2 := [(0, .ref (A 0)), (2, .int a2), (3, .int a3), (4, .int x4_12), (6, .int x6_14), (7, .int x7_15), (8, .int x8_16), (9, .int (b2i y_22))]) [1, 2, 3, 4, 6, 7, 8, 0] rfl ?_
          exact hk_26 x5_13 true
      refine m_if_ne (tgt := 143) C dX9_rest_136 rfl ?_ ?_
      · refine m_iconst C dX9_rest_143 ci_0 ?_
        refine m_loc (L2 := [(0, .ref (A 0)), (2, .int a2), (3, .int a3), (4, .int x4_12), (5, .int x5_13), (6, .int x6_14), (7, .int x7_15), (8, .int x8_16)]) [0, 1, 2, 3, 4, 5, 6, 7] rfl ?_
        exact hk_23 false
      · refine m_iconst C dX9_rest_139 ci_1 ?_
        refine m_goto (tgt := 144) C dX9_rest_140 rfl ?_
        refine m_loc (L2 := [(0, .ref (A 0)), (2, .int a2), (3, .int a3), (4, .int x4_12), (5, .int x5_13), (6, .int x6_14), (7, .int x7_15), (8, .int x8_16)]) [0, 1, 2, 3, 4, 5, 6, 7] rfl ?_
        exact hk_23 true
theorem kX9_rest (l : Launch) (D : va_G) (ct : Nat → ClassId) (A : Nat → Nat) (a1 : Int32) (a2 : Int32) (a3 : Int32) (s0 : Sg) (o : Int32 × Sg) (ho : fX9_rest a1 a2 a3 s0 = some o) : Con l yX9_rest cX9_rest 10 (some .int) 4 D ct A [.ref (A 0), .int a1, .int a2, .int a3] s0 (embI o) := by
  refine con_start (by decide +kernel) (Nat.le_of_ble_eq_true rfl) ho (fun p e s m args below meth c C => ?_)
  refine m_loc (L2 := [(0, .ref (A 0)), (1, .int a1), (2, .int a2), (3, .int a3)]) [0, 1, 2, 3] rfl ?_
  unfold fX9_rest
  refine m_iload_n C dX9_rest_0 rfl ?_
  refine m_iconst C dX9_rest_1 ci_0 ?_
  refine m_sipush C dX9_rest_2 cs_9999 ?_
  refine m_callSZ C ml_X9_63 ⟨Nat.le_of_ble_eq_true rfl, Nat.le_of_ble_eq_true rfl⟩ [.int a1, .int 0, .int 9999] [] rfl rfl (Nat.le_of_ble_eq_true rfl) dX9_rest_5 (fun o ho => kX9_within l D ct A a1 0 9999 s0 o ho) (fun r_1 s_2 => ?_)
  refine m_if_eq (tgt := 30) C dX9_rest_8 rfl ?_ ?_
  · refine m_iconst C dX9_rest_30 ci_m1 ?_
    exact m_iret C dX9_rest_31
  · refine m_iload_n C dX9_rest_11 rfl ?_
    refine m_iconst C dX9_rest_12 ci_1 ?_
    refine m_bipush C dX9_rest_13 cb_99 ?_
    refine m_callSZ C ml_X9_63 ⟨Nat.le_of_ble_eq_true rfl, Nat.le_of_ble_eq_true rfl⟩ [.int a2, .int 1, .int 99] [] rfl rfl (Nat.le_of_ble_eq_true rfl) dX9_rest_15 (fun o ho => kX9_within l D ct A a2 1 99 s_2 o ho) (fun r_3 s_4 => ?_)
    refine m_if_eq (tgt := 30) C dX9_rest_18 rfl ?_ ?_
    · refine m_iconst C dX9_rest_30 ci_m1 ?_
      exact m_iret C dX9_rest_31
    · refine m_iload_n C dX9_rest_21 rfl ?_
      refine m_iconst C dX9_rest_22 ci_0 ?_
      refine m_iconst C dX9_rest_23 ci_1 ?_
      refine m_callSZ C ml_X9_63 ⟨Nat.le_of_ble_eq_true rfl, Nat.le_of_ble_eq_true rfl⟩ [.int a3, .int 0, .int 1] [] rfl rfl (Nat.le_of_ble_eq_true rfl) dX9_rest_24 (fun o ho => kX9_within l D ct A a3 0 1 s_4 o ho) (fun r_5 s_6 => ?_)
      refine m_if_ne (tgt := 32) C dX9_rest_27 rfl ?_ ?_
      · refine m_iload_n C dX9_rest_32 rfl ?_
        refine m_bipush C dX9_rest_33 cb_7 ?_
        refine m_imul C dX9_rest_35 ?_
        refine m_bipush C dX9_rest_36 cb_17 ?_
        refine m_iadd C dX9_rest_38 ?_
        refine m_let (fun v_7 => ?_)
        refine m_istore (L2 := [(4, .int v_7), (0, .ref (A 0)), (1, .int a1), (2, .int a2), (3, .int a3)]) C dX9_rest_39 (by decide) rfl ?_
        refine m_iconst C dX9_rest_41 ci_0 ?_
        refine m_istore (L2 := [(5, .int 0), (4, .int v_7), (0, .ref (A 0)), (1, .int a1), (2, .int a2), (3, .int a3)]) C dX9_rest_42 (by decide) rfl ?_
        refine m_iconst C dX9_rest_44 ci_0 ?_
        refine m_istore (L2 := [(6, .int 0), (5, .int 0), (4, .int v_7), (0, .ref (A 0)), (1, .int a1), (2, .int a2), (3, .int a3)]) C dX9_rest_45 (by decide) rfl ?_
        refine m_iconst C dX9_rest_47 ci_0 ?_
        refine m_istore (L2 := [(7, .int 0), (6, .int 0), (5, .int 0), (4, .int v_7), (0, .ref (A 0)), (1, .int a1), (2, .int a2), (3, .int a3)]) C dX9_rest_48 (by decide) rfl ?_
        refine m_iconst C dX9_rest_50 ci_0 ?_
        refine m_istore (L2 := [(8, .int 0), (7, .int 0), (6, .int 0), (5, .int 0), (4, .int v_7), (0, .ref (A 0)), (1, .int a1), (2, .int a2), (3, .int a3)]) C dX9_rest_51 (by decide) rfl ?_
        refine m_jn (P := fun (k_11 : Int32 → Int32 → Sg → Option (Int32 × Sg)) => ∀ (x5_8 : Int32) (x7_9 : Int32) (s_10 : Sg), Wm p l e (rmD 4) s m args below meth c D ct A 10 embI 206 [(3, .int a3), (5, .int x5_8), (7, .int x7_9)] [] s_10 (k_11 x5_8 x7_9 s_10)) ?_ (fun k_11 hk_11 => ?_)
        · intro x5_8 x7_9 s_10
          refine m_iload_n C dX9_rest_206 rfl ?_
          refine m_if_ne (tgt := 215) C dX9_rest_207 rfl ?_ ?_
          · refine m_iload C dX9_rest_215 rfl ?_
            exact m_iret C dX9_rest_217
          · refine m_iload C dX9_rest_210 rfl ?_
            refine m_goto (tgt := 217) C dX9_rest_212 rfl ?_
            exact m_iret C dX9_rest_217
        refine m_loc (L2 := [(0, .ref (A 0)), (2, .int a2), (3, .int a3), (4, .int v_7), (5, .int 0), (6, .int 0), (7, .int 0), (8, .int 0)]) [5, 7, 8, 4, 3, 2, 1, 0] rfl ?_
        exact wX9_rest_53 C a2 a3 k_11 hk_11 FU v_7 0 0 0 0 s_6
      · refine m_iconst C dX9_rest_30 ci_m1 ?_
        exact m_iret C dX9_rest_31
def fX9_weighWhatLies (s0 : Sg) : Option (Sg) :=
  bnv (fX4_setAir (gi s0 1 3) (gi s0 1 4) (gi s0 1 5) s0) fun s_1 =>
  bnv (fX4_weigh (gi s_1 1 9) (gi s_1 1 10) s_1) fun s_2 =>
  some s_2
theorem kX9_weighWhatLies (l : Launch) (D : va_G) (ct : Nat → ClassId) (A : Nat → Nat) (s0 : Sg) (o : Sg) (ho : fX9_weighWhatLies s0 = some o) : Con l yX9_weighWhatLies cX9_weighWhatLies 1 none 4 D ct A [.ref (A 0)] s0 (embV o) := by
  refine con_start (by decide +kernel) (Nat.le_of_ble_eq_true rfl) ho (fun p e s m args below meth c C => ?_)
  refine m_loc (L2 := [(0, .ref (A 0))]) [0] rfl ?_
  unfold fX9_weighWhatLies
  refine m_aload_n C dX9_weighWhatLies_0 rfl ?_
  refine m_get (v := .ref (A 6)) C fl_X9_44_8 rfl (by decide) rfl dX9_weighWhatLies_1 ?_
  refine m_aload_n C dX9_weighWhatLies_4 rfl ?_
  refine m_get (v := .ref (A 1)) C fl_X9_10_8 rfl (by decide) rfl dX9_weighWhatLies_5 ?_
  refine m_get (v := .int (gi s0 1 3)) C fl_X9_87_6 rfl (by decide) rfl dX9_weighWhatLies_8 ?_
  refine m_aload_n C dX9_weighWhatLies_11 rfl ?_
  refine m_get (v := .ref (A 1)) C fl_X9_10_8 rfl (by decide) rfl dX9_weighWhatLies_12 ?_
  refine m_get (v := .int (gi s0 1 4)) C fl_X9_90_6 rfl (by decide) rfl dX9_weighWhatLies_15 ?_
  refine m_aload_n C dX9_weighWhatLies_18 rfl ?_
  refine m_get (v := .ref (A 1)) C fl_X9_10_8 rfl (by decide) rfl dX9_weighWhatLies_19 ?_
  refine m_get (v := .int (gi s0 1 5)) C fl_X9_93_6 rfl (by decide) rfl dX9_weighWhatLies_22 ?_
  refine m_callVV C ml_X9_166 ⟨Nat.le_of_ble_eq_true rfl, Nat.le_of_ble_eq_true rfl⟩ rfl rfl [.int (gi s0 1 3), .int (gi s0 1 4), .int (gi s0 1 5)] [] rfl rfl (Nat.le_of_ble_eq_true rfl) dX9_weighWhatLies_25 (fun o ho => kX4_setAir l D ct A (gi s0 1 3) (gi s0 1 4) (gi s0 1 5) s0 o ho) (fun s_1 => ?_)
  refine m_aload_n C dX9_weighWhatLies_28 rfl ?_
  refine m_get (v := .ref (A 6)) C fl_X9_44_8 rfl (by decide) rfl dX9_weighWhatLies_29 ?_
  refine m_aload_n C dX9_weighWhatLies_32 rfl ?_
  refine m_get (v := .ref (A 1)) C fl_X9_10_8 rfl (by decide) rfl dX9_weighWhatLies_33 ?_
  refine m_aload_n C dX9_weighWhatLies_36 rfl ?_
  refine m_get (v := .ref (A 1)) C fl_X9_10_8 rfl (by decide) rfl dX9_weighWhatLies_37 ?_
  refine m_get (v := .int (gi s_1 1 9)) C fl_X9_258_6 rfl (by decide) rfl dX9_weighWhatLies_40 ?_
  refine m_aload_n C dX9_weighWhatLies_43 rfl ?_
  refine m_get (v := .ref (A 1)) C fl_X9_10_8 rfl (by decide) rfl dX9_weighWhatLies_44 ?_
  refine m_get (v := .int (gi s_1 1 10)) C fl_X9_259_6 rfl (by decide) rfl dX9_weighWhatLies_47 ?_
  refine m_callVV C ml_X9_260 ⟨Nat.le_of_ble_eq_true rfl, Nat.le_of_ble_eq_true rfl⟩ rfl rfl [.ref (A 1), .int (gi s_1 1 9), .int (gi s_1 1 10)] [] rfl rfl (Nat.le_of_ble_eq_true rfl) dX9_weighWhatLies_50 (fun o ho => kX4_weigh l D ct A (gi s_1 1 9) (gi s_1 1 10) s_1 o ho) (fun s_2 => ?_)
  exact m_vret C dX9_weighWhatLies_53
def fX9_rearrange (a1 : Int32) (a2 : Int32) (s0 : Sg) : Option (Bool × Sg) :=
  bnv (fX4_setAir (gi s0 1 3) (gi s0 1 4) (gi s0 1 5) s0) fun s_1 =>
  bnv (fX4_weigh a1 a2 s_1) fun s_2 =>
  bnd (fX4_isSafe (gr s_2 1 13) s_2) fun r_3 s_4 =>
  if (b2i r_3) = 0 then
    some (false, s_4)
  else
    bnv (fX6_keepStep s_4) fun s_5 =>
    bv (si s_5 1 9 a1) fun s_6 =>
    bv (si s_6 1 10 a2) fun s_7 =>
    some (true, s_7)
theorem kX9_rearrange (l : Launch) (D : va_G) (ct : Nat → ClassId) (A : Nat → Nat) (a1 : Int32) (a2 : Int32) (s0 : Sg) (o : Bool × Sg) (ho : fX9_rearrange a1 a2 s0 = some o) : Con l yX9_rearrange cX9_rearrange 3 (some .boolean) 4 D ct A [.ref (A 0), .int a1, .int a2] s0 (embZ o) := by
  refine con_start (by decide +kernel) (Nat.le_of_ble_eq_true rfl) ho (fun p e s m args below meth c C => ?_)
  refine m_loc (L2 := [(0, .ref (A 0)), (1, .int a1), (2, .int a2)]) [0, 1, 2] rfl ?_
  unfold fX9_rearrange
  refine m_aload_n C dX9_rearrange_0 rfl ?_
  refine m_get (v := .ref (A 6)) C fl_X9_44_8 rfl (by decide) rfl dX9_rearrange_1 ?_
  refine m_aload_n C dX9_rearrange_4 rfl ?_
  refine m_get (v := .ref (A 1)) C fl_X9_10_8 rfl (by decide) rfl dX9_rearrange_5 ?_
  refine m_get (v := .int (gi s0 1 3)) C fl_X9_87_6 rfl (by decide) rfl dX9_rearrange_8 ?_
  refine m_aload_n C dX9_rearrange_11 rfl ?_
  refine m_get (v := .ref (A 1)) C fl_X9_10_8 rfl (by decide) rfl dX9_rearrange_12 ?_
  refine m_get (v := .int (gi s0 1 4)) C fl_X9_90_6 rfl (by decide) rfl dX9_rearrange_15 ?_
  refine m_aload_n C dX9_rearrange_18 rfl ?_
  refine m_get (v := .ref (A 1)) C fl_X9_10_8 rfl (by decide) rfl dX9_rearrange_19 ?_
  refine m_get (v := .int (gi s0 1 5)) C fl_X9_93_6 rfl (by decide) rfl dX9_rearrange_22 ?_
  refine m_callVV C ml_X9_166 ⟨Nat.le_of_ble_eq_true rfl, Nat.le_of_ble_eq_true rfl⟩ rfl rfl [.int (gi s0 1 3), .int (gi s0 1 4), .int (gi s0 1 5)] [] rfl rfl (Nat.le_of_ble_eq_true rfl) dX9_rearrange_25 (fun o ho => kX4_setAir l D ct A (gi s0 1 3) (gi s0 1 4) (gi s0 1 5) s0 o ho) (fun s_1 => ?_)
  refine m_aload_n C dX9_rearrange_28 rfl ?_
  refine m_get (v := .ref (A 6)) C fl_X9_44_8 rfl (by decide) rfl dX9_rearrange_29 ?_
  refine m_aload_n C dX9_rearrange_32 rfl ?_
  refine m_get (v := .ref (A 1)) C fl_X9_10_8 rfl (by decide) rfl dX9_rearrange_33 ?_
  refine m_iload_n C dX9_rearrange_36 rfl ?_
  refine m_iload_n C dX9_rearrange_37 rfl ?_
  refine m_callVV C ml_X9_260 ⟨Nat.le_of_ble_eq_true rfl, Nat.le_of_ble_eq_true rfl⟩ rfl rfl [.ref (A 1), .int a1, .int a2] [] rfl rfl (Nat.le_of_ble_eq_true rfl) dX9_rearrange_38 (fun o ho => kX4_weigh l D ct A a1 a2 s_1 o ho) (fun s_2 => ?_)
  refine m_aload_n C dX9_rearrange_41 rfl ?_
  refine m_get (v := .ref (A 6)) C fl_X9_44_8 rfl (by decide) rfl dX9_rearrange_42 ?_
  refine m_aload_n C dX9_rearrange_45 rfl ?_
  refine m_get (v := .ref (A 1)) C fl_X9_10_8 rfl (by decide) rfl dX9_rearrange_46 ?_
  refine m_get (v := rfv A (gr s_2 1 13)) C fl_X9_123_6 rfl (by decide) rfl dX9_rearrange_49 ?_
  refine m_callVZ C ml_X9_184 ⟨Nat.le_of_ble_eq_true rfl, Nat.le_of_ble_eq_true rfl⟩ rfl rfl [rfv A (gr s_2 1 13)] [] rfl rfl (Nat.le_of_ble_eq_true rfl) dX9_rearrange_52 (fun o ho => kX4_isSafe l D ct A (gr s_2 1 13) s_2 o ho) (fun r_3 s_4 => ?_)
  refine m_if_ne (tgt := 60) C dX9_rearrange_55 rfl ?_ ?_
  · refine m_aload_n C dX9_rearrange_60 rfl ?_
    refine m_get (v := .ref (A 1)) C fl_X9_10_8 rfl (by decide) rfl dX9_rearrange_61 ?_
    refine m_callVV C ml_X9_276 ⟨Nat.le_of_ble_eq_true rfl, Nat.le_of_ble_eq_true rfl⟩ rfl rfl [] [] rfl rfl (Nat.le_of_ble_eq_true rfl) dX9_rearrange_64 (fun o ho => kX6_keepStep l D ct A s_4 o ho) (fun s_5 => ?_)
    refine m_aload_n C dX9_rearrange_67 rfl ?_
    refine m_get (v := .ref (A 1)) C fl_X9_10_8 rfl (by decide) rfl dX9_rearrange_68 ?_
    refine m_iload_n C dX9_rearrange_71 rfl ?_
    refine m_puti C fl_X9_258_6 fw_6_9 rfl (by decide) rfl dX9_rearrange_72 (fun s_6 => ?_)
    refine m_aload_n C dX9_rearrange_75 rfl ?_
    refine m_get (v := .ref (A 1)) C fl_X9_10_8 rfl (by decide) rfl dX9_rearrange_76 ?_
    refine m_iload_n C dX9_rearrange_79 rfl ?_
    refine m_puti C fl_X9_259_6 fw_6_10 rfl (by decide) rfl dX9_rearrange_80 (fun s_7 => ?_)
    refine m_iconst C dX9_rearrange_83 ci_1 ?_
    exact m_zret C true rfl dX9_rearrange_84
  · refine m_iconst C dX9_rearrange_58 ci_0 ?_
    exact m_zret C false rfl dX9_rearrange_59
def fX9_fitsReadings_2_b (a1 : Int32) (rec2 : Int32 → Sg → Option (Bool × Sg)) (x2_1 : Int32) (s_2 : Sg) : Option (Bool × Sg) :=
  if (gi s_2 1 17) ≤ x2_1 then
    some (true, s_2)
  else
    chk (inb 10 x2_1) <|
    bv (68 + 1 * ix x2_1) fun q_4 =>
    chk (isRd q_4) <|
    bnd (fX9_borneAt q_4 a1 s_2) fun r_6 s_7 =>
    bv (si s_7 q_4 10 r_6) fun s_8 =>
    bnd (fX3_agrees q_4 (gi s_8 q_4 0) (gi s_8 q_4 1) s_8) fun r_9 s_10 =>
    if (b2i r_9) = 0 then
      some (false, s_10)
    else
      bv (x2_1 + 1) fun v_11 =>
      rec2 v_11 s_10
def fX9_fitsReadings (a1 : Int32) (s0 : Sg) : Option (Bool × Sg) :=
  lo2 (fX9_fitsReadings_2_b a1) FU 0 s0
theorem wX9_fitsReadings_2 {p : Program} {l : Launch} {e : Env} {s : State} {m : MethodId} {args : Array Value} {below : List Frame} {meth : Method} {c : Code} {D : va_G} {ct : Nat → ClassId} {A : Nat → Nat} (C : Cx p m c cX9_fitsReadings 4 s args yX9_fitsReadings.cls meth (some .boolean) D ct A) (a1 : Int32) : ∀ (n : Nat) (x2_1 : Int32) (s_2 : Sg), Wm p l e (rmD 4) s m args below meth c D ct A 4 embZ 2 [(0, .ref (A 0)), (1, .int a1), (2, .int x2_1)] [] s_2 (lo2 (fX9_fitsReadings_2_b a1) n x2_1 s_2) := by
  intro n
  induction n with
  | zero => intro x2_1 s_2; exact m_none
  | succ n hrec2 =>
    intro x2_1 s_2
    refine (show Wm p l e (rmD 4) s m args below meth c D ct A 4 embZ 2 [(0, .ref (A 0)), (1, .int a1), (2, .int x2_1)] [] s_2 (fX9_fitsReadings_2_b a1 (lo2 (fX9_fitsReadings_2_b a1) n) x2_1 s_2) from ?_)
    generalize lo2 (fX9_fitsReadings_2_b a1) n = rec2 at hrec2 ⊢
    unfold fX9_fitsReadings_2_b
    refine m_iload_n C dX9_fitsReadings_2 rfl ?_
    refine m_aload_n C dX9_fitsReadings_3 rfl ?_
    refine m_get (v := .ref (A 1)) C fl_X9_10_8 rfl (by decide) rfl dX9_fitsReadings_4 ?_
    refine m_get (v := .int (gi s_2 1 17)) C fl_X9_215_6 rfl (by decide) rfl dX9_fitsReadings_7 ?_
    refine m_icmp_ge (tgt := 56) C dX9_fitsReadings_10 rfl ?_ ?_
    · refine m_iconst C dX9_fitsReadings_56 ci_1 ?_
      exact m_zret C true rfl dX9_fitsReadings_57
    · refine m_aload_n C dX9_fitsReadings_13 rfl ?_
      refine m_get (v := .ref (A 1)) C fl_X9_10_8 rfl (by decide) rfl dX9_fitsReadings_14 ?_
      refine m_get (v := .ref (A 12)) C fl_X9_218_6 rfl (by decide) rfl dX9_fitsReadings_17 ?_
      refine m_iload_n C dX9_fitsReadings_20 rfl ?_
      refine m_chk (fun h_3 => ?_)
      refine m_aald (cn := "DownByAHair$Reading") C rfl rfl h_3 dX9_fitsReadings_21 ?_
      refine m_letr (x := 68 + 1 * ix x2_1) (fun q_4 => ?_)
      refine m_chk (fun h_5 => ?_)
      refine m_astore_n (L2 := [(3, .ref (A q_4)), (0, .ref (A 0)), (1, .int a1), (2, .int x2_1)]) C dX9_fitsReadings_22 rfl (by decide) rfl ?_
      refine m_aload_n C dX9_fitsReadings_23 rfl ?_
      refine m_aload_n C dX9_fitsReadings_24 rfl ?_
      refine m_aload_n C dX9_fitsReadings_25 rfl ?_
      refine m_iload_n C dX9_fitsReadings_26 rfl ?_
      refine m_callVI C ml_X9_279 ⟨Nat.le_of_ble_eq_true rfl, Nat.le_of_ble_eq_true rfl⟩ rfl rfl [.ref (A q_4), .int a1] [.ref (A q_4)] rfl rfl (Nat.le_of_ble_eq_true rfl) dX9_fitsReadings_27 (fun o ho => kX9_borneAt l D ct A q_4 a1 h_5 s_2 o ho) (fun r_6 s_7 => ?_)
      refine m_puti C fl_X9_283_3 fw_3_10 (lay_rd h_5) (by decide) (fk_rd h_5 10) dX9_fitsReadings_30 (fun s_8 => ?_)
      refine m_aload_n C dX9_fitsReadings_33 rfl ?_
      refine m_aload_n C dX9_fitsReadings_34 rfl ?_
      refine m_get (v := .int (gi s_8 q_4 0)) C fl_X9_286_3 (lay_rd h_5) (by decide) (fv_rd h_5 0) dX9_fitsReadings_35 ?_
      refine m_aload_n C dX9_fitsReadings_38 rfl ?_
      refine m_get (v := .int (gi s_8 q_4 1)) C fl_X9_287_3 (lay_rd h_5) (by decide) (fv_rd h_5 1) dX9_fitsReadings_39 ?_
      refine m_callVZ C ml_X9_288 ⟨Nat.le_of_ble_eq_true rfl, Nat.le_of_ble_eq_true rfl⟩ (lay_rd h_5) rfl [.int (gi s_8 q_4 0), .int (gi s_8 q_4 1)] [] rfl rfl (Nat.le_of_ble_eq_true rfl) dX9_fitsReadings_42 (fun o ho => kX3_agrees l D ct A q_4 (gi s_8 q_4 0) (gi s_8 q_4 1) h_5 s_8 o ho) (fun r_9 s_10 => ?_)
      refine m_if_ne (tgt := 50) C dX9_fitsReadings_45 rfl ?_ ?_
      · refine m_iincb (L2 := fun v_11 => [(2, .int v_11), (3, .ref (A q_4)), (0, .ref (A 0)), (1, .int a1)]) (q := 3) C dX9_fitsReadings_50 rfl ci_1 (by decide) (fun _ => rfl) (fun v_11 => ?_)
        refine m_goto (tgt := 2) C dX9_fitsReadings_53 rfl ?_
        refine m_loc (L2 := [(0, .ref (A 0)), (1, .int a1), (2, .int v_11)]) [2, 3, 0] rfl ?_
        exact hrec2 v_11 s_10
      · refine m_iconst C dX9_fitsReadings_48 ci_0 ?_
        exact m_zret C false rfl dX9_fitsReadings_49
theorem kX9_fitsReadings (l : Launch) (D : va_G) (ct : Nat → ClassId) (A : Nat → Nat) (a1 : Int32) (s0 : Sg) (o : Bool × Sg) (ho : fX9_fitsReadings a1 s0 = some o) : Con l yX9_fitsReadings cX9_fitsReadings 4 (some .boolean) 4 D ct A [.ref (A 0), .int a1] s0 (embZ o) := by
  refine con_start (by decide +kernel) (Nat.le_of_ble_eq_true rfl) ho (fun p e s m args below meth c C => ?_)
  refine m_loc (L2 := [(0, .ref (A 0)), (1, .int a1)]) [0, 1] rfl ?_
  unfold fX9_fitsReadings
  refine m_iconst C dX9_fitsReadings_0 ci_0 ?_
  refine m_istore_n (L2 := [(2, .int 0), (0, .ref (A 0)), (1, .int a1)]) C dX9_fitsReadings_1 rfl (by decide) rfl ?_
  refine m_loc (L2 := [(0, .ref (A 0)), (1, .int a1), (2, .int 0)]) [1, 2, 0] rfl ?_
  exact wX9_fitsReadings_2 C a1 FU 0 s0
def fX9_bearUnknown_2_b (a1 : Int32) (rec2 : Int32 → Sg → Option (Sg)) (x2_1 : Int32) (s_2 : Sg) : Option (Sg) :=
  if (gi s_2 1 17) ≤ x2_1 then
    some s_2
  else
    chk (inb 10 x2_1) <|
    bv (68 + 1 * ix x2_1) fun q_4 =>
    chk (isRd q_4) <|
    bnd (fX9_borneAt q_4 a1 s_2) fun r_6 s_7 =>
    bv (si s_7 q_4 10 r_6) fun s_8 =>
    bv (x2_1 + 1) fun v_9 =>
    rec2 v_9 s_8
def fX9_bearUnknown (a1 : Int32) (s0 : Sg) : Option (Sg) :=
  lo2 (fX9_bearUnknown_2_b a1) FU 0 s0
theorem wX9_bearUnknown_2 {p : Program} {l : Launch} {e : Env} {s : State} {m : MethodId} {args : Array Value} {below : List Frame} {meth : Method} {c : Code} {D : va_G} {ct : Nat → ClassId} {A : Nat → Nat} (C : Cx p m c cX9_bearUnknown 4 s args yX9_bearUnknown.cls meth none D ct A) (a1 : Int32) : ∀ (n : Nat) (x2_1 : Int32) (s_2 : Sg), Wm p l e (rmD 4) s m args below meth c D ct A 4 embV 2 [(0, .ref (A 0)), (1, .int a1), (2, .int x2_1)] [] s_2 (lo2 (fX9_bearUnknown_2_b a1) n x2_1 s_2) := by
  intro n
  induction n with
  | zero => intro x2_1 s_2; exact m_none
  | succ n hrec2 =>
    intro x2_1 s_2
    refine (show Wm p l e (rmD 4) s m args below meth c D ct A 4 embV 2 [(0, .ref (A 0)), (1, .int a1), (2, .int x2_1)] [] s_2 (fX9_bearUnknown_2_b a1 (lo2 (fX9_bearUnknown_2_b a1) n) x2_1 s_2) from ?_)
    generalize lo2 (fX9_bearUnknown_2_b a1) n = rec2 at hrec2 ⊢
    unfold fX9_bearUnknown_2_b
    refine m_iload_n C dX9_bearUnknown_2 rfl ?_
    refine m_aload_n C dX9_bearUnknown_3 rfl ?_
    refine m_get (v := .ref (A 1)) C fl_X9_10_8 rfl (by decide) rfl dX9_bearUnknown_4 ?_
    refine m_get (v := .int (gi s_2 1 17)) C fl_X9_215_6 rfl (by decide) rfl dX9_bearUnknown_7 ?_
    refine m_icmp_ge (tgt := 39) C dX9_bearUnknown_10 rfl ?_ ?_
    · exact m_vret C dX9_bearUnknown_39
    · refine m_aload_n C dX9_bearUnknown_13 rfl ?_
      refine m_get (v := .ref (A 1)) C fl_X9_10_8 rfl (by decide) rfl dX9_bearUnknown_14 ?_
      refine m_get (v := .ref (A 12)) C fl_X9_218_6 rfl (by decide) rfl dX9_bearUnknown_17 ?_
      refine m_iload_n C dX9_bearUnknown_20 rfl ?_
      refine m_chk (fun h_3 => ?_)
      refine m_aald (cn := "DownByAHair$Reading") C rfl rfl h_3 dX9_bearUnknown_21 ?_
      refine m_letr (x := 68 + 1 * ix x2_1) (fun q_4 => ?_)
      refine m_chk (fun h_5 => ?_)
      refine m_astore_n (L2 := [(3, .ref (A q_4)), (0, .ref (A 0)), (1, .int a1), (2, .int x2_1)]) C dX9_bearUnknown_22 rfl (by decide) rfl ?_
      refine m_aload_n C dX9_bearUnknown_23 rfl ?_
      refine m_aload_n C dX9_bearUnknown_24 rfl ?_
      refine m_aload_n C dX9_bearUnknown_25 rfl ?_
      refine m_iload_n C dX9_bearUnknown_26 rfl ?_
      refine m_callVI C ml_X9_279 ⟨Nat.le_of_ble_eq_true rfl, Nat.le_of_ble_eq_true rfl⟩ rfl rfl [.ref (A q_4), .int a1] [.ref (A q_4)] rfl rfl (Nat.le_of_ble_eq_true rfl) dX9_bearUnknown_27 (fun o ho => kX9_borneAt l D ct A q_4 a1 h_5 s_2 o ho) (fun r_6 s_7 => ?_)
      refine m_puti C fl_X9_283_3 fw_3_10 (lay_rd h_5) (by decide) (fk_rd h_5 10) dX9_bearUnknown_30 (fun s_8 => ?_)
      refine m_iincb (L2 := fun v_9 => [(2, .int v_9), (3, .ref (A q_4)), (0, .ref (A 0)), (1, .int a1)]) (q := 3) C dX9_bearUnknown_33 rfl ci_1 (by decide) (fun _ => rfl) (fun v_9 => ?_)
      refine m_goto (tgt := 2) C dX9_bearUnknown_36 rfl ?_
      refine m_loc (L2 := [(0, .ref (A 0)), (1, .int a1), (2, .int v_9)]) [2, 3, 0] rfl ?_
      exact hrec2 v_9 s_8
theorem kX9_bearUnknown (l : Launch) (D : va_G) (ct : Nat → ClassId) (A : Nat → Nat) (a1 : Int32) (s0 : Sg) (o : Sg) (ho : fX9_bearUnknown a1 s0 = some o) : Con l yX9_bearUnknown cX9_bearUnknown 4 none 4 D ct A [.ref (A 0), .int a1] s0 (embV o) := by
  refine con_start (by decide +kernel) (Nat.le_of_ble_eq_true rfl) ho (fun p e s m args below meth c C => ?_)
  refine m_loc (L2 := [(0, .ref (A 0)), (1, .int a1)]) [0, 1] rfl ?_
  unfold fX9_bearUnknown
  refine m_iconst C dX9_bearUnknown_0 ci_0 ?_
  refine m_istore_n (L2 := [(2, .int 0), (0, .ref (A 0)), (1, .int a1)]) C dX9_bearUnknown_1 rfl (by decide) rfl ?_
  refine m_loc (L2 := [(0, .ref (A 0)), (1, .int a1), (2, .int 0)]) [1, 2, 0] rfl ?_
  exact wX9_bearUnknown_2 C a1 FU 0 s0
def fX1_prepare_116_b (rec116 : Int32 → Sg → Option (Sg)) (x5_6 : Int32) (s_7 : Sg) : Option (Sg) :=
  if (1 <<< ((gi s_7 7 1) &&& 31)) ≤ x5_6 then
    some s_7
  else
    chk (inb 1024 x5_6) <|
    bnv (fX4_hang (gi s_7 22 (ix x5_6)) (gi s_7 23 (ix x5_6)) s_7) fun s_9 =>
    bnd (fX4_isSafe (gr s_9 1 13) s_9) fun r_10 s_11 =>
    bv (fun (y_12 : Int32) (y_13 : Int32) => 
      chk (inb 1024 y_12) <|
      bv (si s_11 24 (ix y_12) y_13) fun s_16 =>
      bv (x5_6 + 1) fun v_17 =>
      rec116 v_17 s_16)
    fun k_14 =>
    if (b2i r_10) = 0 then
      k_14 x5_6 1000000000
    else
      k_14 x5_6 (iabs (gi s_11 6 4))
def fX1_prepare_28_b (a3 : Int32) (a4 : Int32) (k_5 : Sg → Option (Sg)) (rec28 : Int32 → Sg → Option (Sg)) (x5_18 : Int32) (s_19 : Sg) : Option (Sg) :=
  if (gi s_19 1 6) ≤ x5_18 then
    k_5 s_19
  else
    if 10 ≤ (gi s_19 7 1) then
      k_5 s_19
    else
      bv (fun (s_20 : Sg) => 
        bv (x5_18 + 1) fun v_22 =>
        rec28 v_22 s_20)
      fun k_21 =>
      if ((a3 >>> (x5_18 &&& 31)) &&& 1) = 1 then
        bv ((a4 >>> (x5_18 &&& 31)) &&& 1) fun v_23 =>
        chk (inb 10 (gi s_19 7 1)) <|
        bv (si s_19 21 (ix (gi s_19 7 1)) x5_18) fun s_25 =>
        bnd (fX4_borneOf x5_18 v_23 s_25) fun r_26 s_27 =>
        bnv (fX1_addToParts (1 <<< ((gi s_25 7 1) &&& 31)) v_23 r_26 s_27) fun s_28 =>
        bv (si s_28 7 1 ((gi s_28 7 1) + 1)) fun s_29 =>
        k_21 s_29
      else
        k_21 s_19
def fX1_prepare (a3 : Int32) (a4 : Int32) (s0 : Sg) : Option (Sg) :=
  bv (si s0 22 (ix 0) (gi s0 6 2)) fun s_1 =>
  bv (si s_1 23 (ix 0) (gi s_1 6 3)) fun s_2 =>
  bv (si s_2 7 1 0) fun s_3 =>
  bv (fun (s_4 : Sg) => 
    lo2 (fX1_prepare_116_b) FU 1 s_4)
  fun k_5 =>
  lo2 (fX1_prepare_28_b a3 a4 k_5) FU 0 s_3
theorem wX1_prepare_116 {p : Program} {l : Launch} {e : Env} {s : State} {m : MethodId} {args : Array Value} {below : List Frame} {meth : Method} {c : Code} {D : va_G} {ct : Nat → ClassId} {A : Nat → Nat} (C : Cx p m c cX1_prepare 7 s args yX1_prepare.cls meth none D ct A) : ∀ (n : Nat) (x5_6 : Int32) (s_7 : Sg), Wm p l e (rmD 4) s m args below meth c D ct A 7 embV 116 [(0, .ref (A 7)), (1, .ref (A 1)), (2, .ref (A 6)), (5, .int x5_6)] [] s_7 (lo2 (fX1_prepare_116_b) n x5_6 s_7) := by
  intro n
  induction n with
  | zero => intro x5_6 s_7; exact m_none
  | succ n hrec116 =>
    intro x5_6 s_7
    refine (show Wm p l e (rmD 4) s m args below meth c D ct A 7 embV 116 [(0, .ref (A 7)), (1, .ref (A 1)), (2, .ref (A 6)), (5, .int x5_6)] [] s_7 (fX1_prepare_116_b (lo2 (fX1_prepare_116_b) n) x5_6 s_7) from ?_)
    generalize lo2 (fX1_prepare_116_b) n = rec116 at hrec116 ⊢
    unfold fX1_prepare_116_b
    refine m_iload C dX1_prepare_116 rfl ?_
    refine m_iconst C dX1_prepare_118 ci_1 ?_
    refine m_aload_n C dX1_prepare_119 rfl ?_
    refine m_get (v := .int (gi s_7 7 1)) C fl_X1_34_1 rfl (by decide) rfl dX1_prepare_120 ?_
    refine m_ishl C dX1_prepare_123 ?_
    refine m_icmp_ge (tgt := 182) C dX1_prepare_124 rfl ?_ ?_
    · exact m_vret C dX1_prepare_182
    · refine m_aload_n C dX1_prepare_127 rfl ?_
      refine m_aload_n C dX1_prepare_128 rfl ?_
      refine m_aload_n C dX1_prepare_129 rfl ?_
      refine m_get (v := .ref (A 22)) C fl_X1_15_1 rfl (by decide) rfl dX1_prepare_130 ?_
      refine m_iload C dX1_prepare_133 rfl ?_
      refine m_chk (fun h_8 => ?_)
      refine m_iald C rfl h_8 dX1_prepare_135 ?_
      refine m_aload_n C dX1_prepare_136 rfl ?_
      refine m_get (v := .ref (A 23)) C fl_X1_18_1 rfl (by decide) rfl dX1_prepare_137 ?_
      refine m_iload C dX1_prepare_140 rfl ?_
      refine m_iald C rfl h_8 dX1_prepare_142 ?_
      refine m_callVV C ml_X1_50 ⟨Nat.le_of_ble_eq_true rfl, Nat.le_of_ble_eq_true rfl⟩ rfl rfl [.ref (A 1), .int (gi s_7 22 (ix x5_6)), .int (gi s_7 23 (ix x5_6))] [] rfl rfl (Nat.le_of_ble_eq_true rfl) dX1_prepare_143 (fun o ho => kX4_hang l D ct A (gi s_7 22 (ix x5_6)) (gi s_7 23 (ix x5_6)) s_7 o ho) (fun s_9 => ?_)
      refine m_aload_n C dX1_prepare_146 rfl ?_
      refine m_get (v := .ref (A 24)) C fl_X1_21_1 rfl (by decide) rfl dX1_prepare_147 ?_
      refine m_iload C dX1_prepare_150 rfl ?_
      refine m_aload_n C dX1_prepare_152 rfl ?_
      refine m_aload_n C dX1_prepare_153 rfl ?_
      refine m_get (v := rfv A (gr s_9 1 13)) C fl_X1_54_6 rfl (by decide) rfl dX1_prepare_154 ?_
      refine m_callVZ C ml_X1_58 ⟨Nat.le_of_ble_eq_true rfl, Nat.le_of_ble_eq_true rfl⟩ rfl rfl [rfv A (gr s_9 1 13)] [.int x5_6, .ref (A 24)] rfl rfl (Nat.le_of_ble_eq_true rfl) dX1_prepare_157 (fun o ho => kX4_isSafe l D ct A (gr s_9 1 13) s_9 o ho) (fun r_10 s_11 => ?_)
      refine m_jn (P := fun (k_14 : Int32 → Int32 → Option (Sg)) => ∀ (y_12 : Int32) (y_13 : Int32), Wm p l e (rmD 4) s m args below meth c D ct A 7 embV 175 [(0, .ref (A 7)), (1, .ref (A 1)), (2, .ref (A 6)), (5, .int x5_6)] [.int y_13, .int y_12, .ref (A 24)] s_11 (k_14 y_12 y_13)) ?_ (fun k_14 hk_14 => ?_)
      · intro y_12 y_13
        refine m_chk (fun h_15 => ?_)
        refine m_iast C rfl h_15 dX1_prepare_175 (fun s_16 => ?_)
        refine m_iincb (L2 := fun v_17 => [(5, .int v_17), (0, .ref (A 7)), (1, .ref (A 1)), (2, .ref (A 6))]) (q := 3) C dX1_prepare_176 rfl ci_1 (by decide) (fun _ => rfl) (fun v_17 => ?_)
        refine m_goto (tgt := 116) C dX1_prepare_179 rfl ?_
        refine m_loc (L2 := [(0, .ref (A 7)), (1, .ref (A 1)), (2, .ref (A 6)), (5, .int v_17)]) [1, 2, 3, 0] rfl ?_
        exact hrec116 v_17 s_16
      refine m_if_eq (tgt := 173) C dX1_prepare_160 rfl ?_ ?_
      · refine m_ldc C wd_759 dX1_prepare_173 ?_
        refine m_loc (L2 := [(0, .ref (A 7)), (1, .ref (A 1)), (2, .ref (A 6)), (5, .int x5_6)]) [0, 1, 2, 3] rfl ?_
        exact hk_14 x5_6 1000000000
      · refine m_aload_n C dX1_prepare_163 rfl ?_
        refine m_get (v := .int (gi s_11 6 4)) C fl_X1_62_4 rfl (by decide) rfl dX1_prepare_164 ?_
        refine m_mabs C wd_758 ⟨by decide, Nat.le_of_ble_eq_true rfl⟩ dX1_prepare_167 ?_
        refine m_goto (tgt := 175) C dX1_prepare_170 rfl ?_
        refine m_loc (L2 := [(0, .ref (A 7)), (1, .ref (A 1)), (2, .ref (A 6)), (5, .int x5_6)]) [0, 1, 2, 3] rfl ?_
        exact hk_14 x5_6 (iabs (gi s_11 6 4))
theorem wX1_prepare_28 {p : Program} {l : Launch} {e : Env} {s : State} {m : MethodId} {args : Array Value} {below : List Frame} {meth : Method} {c : Code} {D : va_G} {ct : Nat → ClassId} {A : Nat → Nat} (C : Cx p m c cX1_prepare 7 s args yX1_prepare.cls meth none D ct A) (a3 : Int32) (a4 : Int32) (k_5 : Sg → Option (Sg)) (hk_5 : ∀ (s_4 : Sg), Wm p l e (rmD 4) s m args below meth c D ct A 7 embV 113 [(0, .ref (A 7)), (1, .ref (A 1)), (2, .ref (A 6))] [] s_4 (k_5 s_4)) : ∀ (n : Nat) (x5_18 : Int32) (s_19 : Sg), Wm p l e (rmD 4) s m args below meth c D ct A 7 embV 28 [(0, .ref (A 7)), (1, .ref (A 1)), (2, .ref (A 6)), (3, .int a3), (4, .int a4), (5, .int x5_18)] [] s_19 (lo2 (fX1_prepare_28_b a3 a4 k_5) n x5_18 s_19) := by
  intro n
  induction n with
  | zero => intro x5_18 s_19; exact m_none
  | succ n hrec28 =>
    intro x5_18 s_19
    refine (show Wm p l e (rmD 4) s m args below meth c D ct A 7 embV 28 [(0, .ref (A 7)), (1, .ref (A 1)), (2, .ref (A 6)), (3, .int a3), (4, .int a4), (5, .int x5_18)] [] s_19 (fX1_prepare_28_b a3 a4 k_5 (lo2 (fX1_prepare_28_b a3 a4 k_5) n) x5_18 s_19) from ?_)
    generalize lo2 (fX1_prepare_28_b a3 a4 k_5) n = rec28 at hrec28 ⊢
    unfold fX1_prepare_28_b
    refine m_iload C dX1_prepare_28 rfl ?_
    refine m_aload_n C dX1_prepare_30 rfl ?_
    refine m_get (v := .int (gi s_19 1 6)) C fl_X1_37_6 rfl (by decide) rfl dX1_prepare_31 ?_
    refine m_icmp_ge (tgt := 113) C dX1_prepare_34 rfl ?_ ?_
    · refine m_loc (L2 := [(0, .ref (A 7)), (1, .ref (A 1)), (2, .ref (A 6))]) [0, 1, 2] rfl ?_
      exact hk_5 s_19
    · refine m_aload_n C dX1_prepare_37 rfl ?_
      refine m_get (v := .int (gi s_19 7 1)) C fl_X1_34_1 rfl (by decide) rfl dX1_prepare_38 ?_
      refine m_bipush C dX1_prepare_41 cb_10 ?_
      refine m_icmp_ge (tgt := 113) C dX1_prepare_43 rfl ?_ ?_
      · refine m_loc (L2 := [(0, .ref (A 7)), (1, .ref (A 1)), (2, .ref (A 6))]) [0, 1, 2] rfl ?_
        exact hk_5 s_19
      · refine m_iload_n C dX1_prepare_46 rfl ?_
        refine m_iload C dX1_prepare_47 rfl ?_
        refine m_ishr C dX1_prepare_49 ?_
        refine m_iconst C dX1_prepare_50 ci_1 ?_
        refine m_iand C dX1_prepare_51 ?_
        refine m_iconst C dX1_prepare_52 ci_1 ?_
        refine m_jn (P := fun (k_21 : Sg → Option (Sg)) => ∀ (s_20 : Sg), Wm p l e (rmD 4) s m args below meth c D ct A 7 embV 107 [(0, .ref (A 7)), (1, .ref (A 1)), (2, .ref (A 6)), (3, .int a3), (4, .int a4), (5, .int x5_18)] [] s_20 (k_21 s_20)) ?_ (fun k_21 hk_21 => ?_)
        · intro s_20
          refine m_iincb (L2 := fun v_22 => [(5, .int v_22), (0, .ref (A 7)), (1, .ref (A 1)), (2, .ref (A 6)), (3, .int a3), (4, .int a4)]) (q := 5) C dX1_prepare_107 rfl ci_1 (by decide) (fun _ => rfl) (fun v_22 => ?_)
          refine m_goto (tgt := 28) C dX1_prepare_110 rfl ?_
          refine m_loc (L2 := [(0, .ref (A 7)), (1, .ref (A 1)), (2, .ref (A 6)), (3, .int a3), (4, .int a4), (5, .int v_22)]) [1, 2, 3, 4, 5, 0] rfl ?_
          exact hrec28 v_22 s_20
        refine m_icmp_ne (tgt := 107) C dX1_prepare_53 rfl ?_ ?_
        · refine m_loc (L2 := [(0, .ref (A 7)), (1, .ref (A 1)), (2, .ref (A 6)), (3, .int a3), (4, .int a4), (5, .int x5_18)]) [0, 1, 2, 3, 4, 5] rfl ?_
          exact hk_21 s_19
        · refine m_iload C dX1_prepare_56 rfl ?_
          refine m_iload C dX1_prepare_58 rfl ?_
          refine m_ishr C dX1_prepare_60 ?_
          refine m_iconst C dX1_prepare_61 ci_1 ?_
          refine m_iand C dX1_prepare_62 ?_
          refine m_let (fun v_23 => ?_)
          refine m_istore (L2 := [(6, .int v_23), (0, .ref (A 7)), (1, .ref (A 1)), (2, .ref (A 6)), (3, .int a3), (4, .int a4), (5, .int x5_18)]) C dX1_prepare_63 (by decide) rfl ?_
          refine m_aload_n C dX1_prepare_65 rfl ?_
          refine m_get (v := .ref (A 21)) C fl_X1_9_1 rfl (by decide) rfl dX1_prepare_66 ?_
          refine m_aload_n C dX1_prepare_69 rfl ?_
          refine m_get (v := .int (gi s_19 7 1)) C fl_X1_34_1 rfl (by decide) rfl dX1_prepare_70 ?_
          refine m_iload C dX1_prepare_73 rfl ?_
          refine m_chk (fun h_24 => ?_)
          refine m_iast C rfl h_24 dX1_prepare_75 (fun s_25 => ?_)
          refine m_aload_n C dX1_prepare_76 rfl ?_
          refine m_iconst C dX1_prepare_77 ci_1 ?_
          refine m_aload_n C dX1_prepare_78 rfl ?_
          refine m_get (v := .int (gi s_25 7 1)) C fl_X1_34_1 rfl (by decide) rfl dX1_prepare_79 ?_
          refine m_ishl C dX1_prepare_82 ?_
          refine m_iload C dX1_prepare_83 rfl ?_
          refine m_aload_n C dX1_prepare_85 rfl ?_
          refine m_aload_n C dX1_prepare_86 rfl ?_
          refine m_iload C dX1_prepare_87 rfl ?_
          refine m_iload C dX1_prepare_89 rfl ?_
          refine m_callVI C ml_X1_42 ⟨Nat.le_of_ble_eq_true rfl, Nat.le_of_ble_eq_true rfl⟩ rfl rfl [.ref (A 1), .int x5_18, .int v_23] [.int v_23, .int (1 <<< ((gi s_25 7 1) &&& 31)), .ref (A 7)] rfl rfl (Nat.le_of_ble_eq_true rfl) dX1_prepare_91 (fun o ho => kX4_borneOf l D ct A x5_18 v_23 s_25 o ho) (fun r_26 s_27 => ?_)
          refine m_callVV C ml_X1_46 ⟨Nat.le_of_ble_eq_true rfl, Nat.le_of_ble_eq_true rfl⟩ rfl rfl [.int (1 <<< ((gi s_25 7 1) &&& 31)), .int v_23, .int r_26] [] rfl rfl (Nat.le_of_ble_eq_true rfl) dX1_prepare_94 (fun o ho => kX1_addToParts l D ct A (1 <<< ((gi s_25 7 1) &&& 31)) v_23 r_26 s_27 o ho) (fun s_28 => ?_)
          refine m_aload_n C dX1_prepare_97 rfl ?_
          refine m_dup C dX1_prepare_98 rfl ?_
          refine m_get (v := .int (gi s_28 7 1)) C fl_X1_34_1 rfl (by decide) rfl dX1_prepare_99 ?_
          refine m_iconst C dX1_prepare_102 ci_1 ?_
          refine m_iadd C dX1_prepare_103 ?_
          refine m_puti C fl_X1_34_1 fw_1_1 rfl (by decide) rfl dX1_prepare_104 (fun s_29 => ?_)
          refine m_loc (L2 := [(0, .ref (A 7)), (1, .ref (A 1)), (2, .ref (A 6)), (3, .int a3), (4, .int a4), (5, .int x5_18)]) [1, 2, 3, 4, 5, 6] rfl ?_
          exact hk_21 s_29
theorem kX1_prepare (l : Launch) (D : va_G) (ct : Nat → ClassId) (A : Nat → Nat) (a3 : Int32) (a4 : Int32) (s0 : Sg) (o : Sg) (ho : fX1_prepare a3 a4 s0 = some o) : Con l yX1_prepare cX1_prepare 7 none 4 D ct A [.ref (A 7), .ref (A 1), .ref (A 6), .int a3, .int a4] s0 (embV o) := by
  refine con_start (by decide +kernel) (Nat.le_of_ble_eq_true rfl) ho (fun p e s m args below meth c C => ?_)
  refine m_loc (L2 := [(0, .ref (A 7)), (1, .ref (A 1)), (2, .ref (A 6)), (3, .int a3), (4, .int a4)]) [0, 1, 2, 3, 4] rfl ?_
  unfold fX1_prepare
  refine m_aload_n C dX1_prepare_0 rfl ?_
  refine m_get (v := .ref (A 22)) C fl_X1_15_1 rfl (by decide) rfl dX1_prepare_1 ?_
  refine m_iconst C dX1_prepare_4 ci_0 ?_
  refine m_aload_n C dX1_prepare_5 rfl ?_
  refine m_get (v := .int (gi s0 6 2)) C fl_X1_27_4 rfl (by decide) rfl dX1_prepare_6 ?_
  refine m_iast C rfl (by decide +kernel) dX1_prepare_9 (fun s_1 => ?_)
  refine m_aload_n C dX1_prepare_10 rfl ?_
  refine m_get (v := .ref (A 23)) C fl_X1_18_1 rfl (by decide) rfl dX1_prepare_11 ?_
  refine m_iconst C dX1_prepare_14 ci_0 ?_
  refine m_aload_n C dX1_prepare_15 rfl ?_
  refine m_get (v := .int (gi s_1 6 3)) C fl_X1_32_4 rfl (by decide) rfl dX1_prepare_16 ?_
  refine m_iast C rfl (by decide +kernel) dX1_prepare_19 (fun s_2 => ?_)
  refine m_aload_n C dX1_prepare_20 rfl ?_
  refine m_iconst C dX1_prepare_21 ci_0 ?_
  refine m_puti C fl_X1_34_1 fw_1_1 rfl (by decide) rfl dX1_prepare_22 (fun s_3 => ?_)
  refine m_iconst C dX1_prepare_25 ci_0 ?_
  refine m_istore (L2 := [(5, .int 0), (0, .ref (A 7)), (1, .ref (A 1)), (2, .ref (A 6)), (3, .int a3), (4, .int a4)]) C dX1_prepare_26 (by decide) rfl ?_
  refine m_jn (P := fun (k_5 : Sg → Option (Sg)) => ∀ (s_4 : Sg), Wm p l e (rmD 4) s m args below meth c D ct A 7 embV 113 [(0, .ref (A 7)), (1, .ref (A 1)), (2, .ref (A 6))] [] s_4 (k_5 s_4)) ?_ (fun k_5 hk_5 => ?_)
  · intro s_4
    refine m_iconst C dX1_prepare_113 ci_1 ?_
    refine m_istore (L2 := [(5, .int 1), (0, .ref (A 7)), (1, .ref (A 1)), (2, .ref (A 6))]) C dX1_prepare_114 (by decide) rfl ?_
    refine m_loc (L2 := [(0, .ref (A 7)), (1, .ref (A 1)), (2, .ref (A 6)), (5, .int 1)]) [1, 2, 3, 0] rfl ?_
    exact wX1_prepare_116 C FU 1 s_4
  refine m_loc (L2 := [(0, .ref (A 7)), (1, .ref (A 1)), (2, .ref (A 6)), (3, .int a3), (4, .int a4), (5, .int 0)]) [1, 2, 3, 4, 5, 0] rfl ?_
  exact wX1_prepare_28 C a3 a4 k_5 hk_5 FU 0 s_3
def fX7_advance_95_b (k_8 : Sg → Option (Sg)) (rec95 : Sg → Option (Sg)) (s_12 : Sg) : Option (Sg) :=
  if (gi s_12 3 1) ≤ (gi s_12 3 4) then
    k_8 s_12
  else
    chk (inb 300 (gi s_12 3 4)) <|
    bnd (fX7_isLetter (gi s_12 17 (ix (gi s_12 3 4))) s_12) fun r_14 s_15 =>
    if (b2i r_14) = 0 then
      k_8 s_15
    else
      bv (si s_15 3 4 ((gi s_15 3 4) + 1)) fun s_16 =>
      rec95 s_16
def fX7_advance_0_b (k_2 : Sg → Option (Sg)) (rec0 : Sg → Option (Sg)) (s_38 : Sg) : Option (Sg) :=
  if (gi s_38 3 1) ≤ (gi s_38 3 4) then
    k_2 s_38
  else
    chk (inb 300 (gi s_38 3 4)) <|
    bv (
      bv (si s_38 3 4 ((gi s_38 3 4) + 1)) fun s_41 =>
      rec0 s_41)
    fun k_40 =>
    if (gi s_38 17 (ix (gi s_38 3 4))) = 32 then
      k_40
    else
      if (gi s_38 17 (ix (gi s_38 3 4))) = 10 then
        k_40
      else
        k_2 s_38
def fX7_advance (s0 : Sg) : Option (Sg) :=
  bv (fun (s_1 : Sg) => 
    bv (si s_1 3 3 (gi s_1 3 4)) fun s_3 =>
    if (gi s_3 3 4) < (gi s_3 3 1) then
      chk (inb 300 (gi s_3 3 4)) <|
      bnd (fX7_isLetter (gi s_3 17 (ix (gi s_3 3 4))) s_3) fun r_5 s_6 =>
      bv (fun (s_7 : Sg) => 
        bnd (fX7_wordToken s_7) fun r_9 s_10 =>
        bv (si s_10 3 2 r_9) fun s_11 =>
        some s_11)
      fun k_8 =>
      if (b2i r_5) = 0 then
        chk (inb 300 (gi s_6 3 4)) <|
        bnd (fX7_isDigit (gi s_6 17 (ix (gi s_6 3 4))) s_6) fun r_18 s_19 =>
        if (b2i r_18) = 0 then
          chk (inb 300 (gi s_19 3 4)) <|
          bv (fun (y_21 : Int32) (y_22 : Bool) => 
            bnd (fX7_signToken y_21 (b2i y_22) s_19) fun r_24 s_25 =>
            bv (si s_25 3 2 r_24) fun s_26 =>
            bv (fun (y_27 : Int32) (y_28 : Int32) => 
              bv (si s_26 3 4 (y_27 + y_28)) fun s_30 =>
              some s_30)
            fun k_29 =>
            bv (fun (y_31 : Int32) => 
              k_29 y_31 2)
            fun k_32 =>
            if (gi s_26 3 2) = 5 then
              k_32 (gi s_26 3 4)
            else
              if (gi s_26 3 2) = 7 then
                k_32 (gi s_26 3 4)
              else
                k_29 (gi s_26 3 4) 1)
          fun k_23 =>
          bv (fun (y_33 : Int32) => 
            k_23 y_33 false)
          fun k_34 =>
          if (gi s_19 3 1) ≤ ((gi s_19 3 4) + 1) then
            k_34 (gi s_19 17 (ix (gi s_19 3 4)))
          else
            chk (inb 300 ((gi s_19 3 4) + 1)) <|
            if (gi s_19 17 (ix ((gi s_19 3 4) + 1))) = 61 then
              k_23 (gi s_19 17 (ix (gi s_19 3 4))) true
            else
              k_34 (gi s_19 17 (ix (gi s_19 3 4)))
        else
          bnv (fX7_readNumber s_19) fun s_36 =>
          some s_36
      else
        lo1 (fX7_advance_95_b k_8) FU s_6
    else
      bv (si s_3 3 2 24) fun s_37 =>
      some s_37)
  fun k_2 =>
  lo1 (fX7_advance_0_b k_2) FU s0
theorem wX7_advance_95 {p : Program} {l : Launch} {e : Env} {s : State} {m : MethodId} {args : Array Value} {below : List Frame} {meth : Method} {c : Code} {D : va_G} {ct : Nat → ClassId} {A : Nat → Nat} (C : Cx p m c cX7_advance 1 s args yX7_advance.cls meth none D ct A) (k_8 : Sg → Option (Sg)) (hk_8 : ∀ (s_7 : Sg), Wm p l e (rmD 6) s m args below meth c D ct A 1 embV 134 [(0, .ref (A 3))] [] s_7 (k_8 s_7)) : ∀ (n : Nat) (s_12 : Sg), Wm p l e (rmD 6) s m args below meth c D ct A 1 embV 95 [(0, .ref (A 3))] [] s_12 (lo1 (fX7_advance_95_b k_8) n s_12) := by
  intro n
  induction n with
  | zero => intro s_12; exact m_none
  | succ n hrec95 =>
    intro s_12
    refine (show Wm p l e (rmD 6) s m args below meth c D ct A 1 embV 95 [(0, .ref (A 3))] [] s_12 (fX7_advance_95_b k_8 (lo1 (fX7_advance_95_b k_8) n) s_12) from ?_)
    generalize lo1 (fX7_advance_95_b k_8) n = rec95 at hrec95 ⊢
    unfold fX7_advance_95_b
    refine m_aload_n C dX7_advance_95 rfl ?_
    refine m_get (v := .int (gi s_12 3 4)) C fl_X7_19_7 rfl (by decide) rfl dX7_advance_96 ?_
    refine m_aload_n C dX7_advance_99 rfl ?_
    refine m_get (v := .int (gi s_12 3 1)) C fl_X7_15_7 rfl (by decide) rfl dX7_advance_100 ?_
    refine m_icmp_ge (tgt := 134) C dX7_advance_103 rfl ?_ ?_
    · refine m_loc (L2 := [(0, .ref (A 3))]) [0] rfl ?_
      exact hk_8 s_12
    · refine m_aload_n C dX7_advance_106 rfl ?_
      refine m_get (v := .ref (A 17)) C fl_X7_9_7 rfl (by decide) rfl dX7_advance_107 ?_
      refine m_aload_n C dX7_advance_110 rfl ?_
      refine m_get (v := .int (gi s_12 3 4)) C fl_X7_19_7 rfl (by decide) rfl dX7_advance_111 ?_
      refine m_chk (fun h_13 => ?_)
      refine m_bald C rfl h_13 dX7_advance_114 ?_
      refine m_callSZ C ml_X7_31 ⟨Nat.le_of_ble_eq_true rfl, Nat.le_of_ble_eq_true rfl⟩ [.int (gi s_12 17 (ix (gi s_12 3 4)))] [] rfl rfl (Nat.le_of_ble_eq_true rfl) dX7_advance_115 (fun o ho => kX7_isLetter l D ct A (gi s_12 17 (ix (gi s_12 3 4))) s_12 o ho) (fun r_14 s_15 => ?_)
      refine m_if_eq (tgt := 134) C dX7_advance_118 rfl ?_ ?_
      · refine m_loc (L2 := [(0, .ref (A 3))]) [0] rfl ?_
        exact hk_8 s_15
      · refine m_aload_n C dX7_advance_121 rfl ?_
        refine m_dup C dX7_advance_122 rfl ?_
        refine m_get (v := .int (gi s_15 3 4)) C fl_X7_19_7 rfl (by decide) rfl dX7_advance_123 ?_
        refine m_iconst C dX7_advance_126 ci_1 ?_
        refine m_iadd C dX7_advance_127 ?_
        refine m_puti C fl_X7_19_7 fw_7_4 rfl (by decide) rfl dX7_advance_128 (fun s_16 => ?_)
        refine m_goto (tgt := 95) C dX7_advance_131 rfl ?_
        refine m_loc (L2 := [(0, .ref (A 3))]) [0] rfl ?_
        exact hrec95 s_16
theorem wX7_advance_0 {p : Program} {l : Launch} {e : Env} {s : State} {m : MethodId} {args : Array Value} {below : List Frame} {meth : Method} {c : Code} {D : va_G} {ct : Nat → ClassId} {A : Nat → Nat} (C : Cx p m c cX7_advance 1 s args yX7_advance.cls meth none D ct A) (k_2 : Sg → Option (Sg)) (hk_2 : ∀ (s_1 : Sg), Wm p l e (rmD 6) s m args below meth c D ct A 1 embV 52 [(0, .ref (A 3))] [] s_1 (k_2 s_1)) : ∀ (n : Nat) (s_38 : Sg), Wm p l e (rmD 6) s m args below meth c D ct A 1 embV 0 [(0, .ref (A 3))] [] s_38 (lo1 (fX7_advance_0_b k_2) n s_38) := by
  intro n
  induction n with
  | zero => intro s_38; exact m_none
  | succ n hrec0 =>
    intro s_38
    refine (show Wm p l e (rmD 6) s m args below meth c D ct A 1 embV 0 [(0, .ref (A 3))] [] s_38 (fX7_advance_0_b k_2 (lo1 (fX7_advance_0_b k_2) n) s_38) from ?_)
    generalize lo1 (fX7_advance_0_b k_2) n = rec0 at hrec0 ⊢
    unfold fX7_advance_0_b
    refine m_aload_n C dX7_advance_0 rfl ?_
    refine m_get (v := .int (gi s_38 3 4)) C fl_X7_19_7 rfl (by decide) rfl dX7_advance_1 ?_
    refine m_aload_n C dX7_advance_4 rfl ?_
    refine m_get (v := .int (gi s_38 3 1)) C fl_X7_15_7 rfl (by decide) rfl dX7_advance_5 ?_
    refine m_icmp_ge (tgt := 52) C dX7_advance_8 rfl ?_ ?_
    · refine m_loc (L2 := [(0, .ref (A 3))]) [0] rfl ?_
      exact hk_2 s_38
    · refine m_aload_n C dX7_advance_11 rfl ?_
      refine m_get (v := .ref (A 17)) C fl_X7_9_7 rfl (by decide) rfl dX7_advance_12 ?_
      refine m_aload_n C dX7_advance_15 rfl ?_
      refine m_get (v := .int (gi s_38 3 4)) C fl_X7_19_7 rfl (by decide) rfl dX7_advance_16 ?_
      refine m_chk (fun h_39 => ?_)
      refine m_bald C rfl h_39 dX7_advance_19 ?_
      refine m_bipush C dX7_advance_20 cb_32 ?_
      refine m_jn (P := fun (k_40 : Option (Sg)) => Wm p l e (rmD 6) s m args below meth c D ct A 1 embV 39 [(0, .ref (A 3))] [] s_38 (k_40)) ?_ (fun k_40 hk_40 => ?_)
      · refine m_aload_n C dX7_advance_39 rfl ?_
        refine m_dup C dX7_advance_40 rfl ?_
        refine m_get (v := .int (gi s_38 3 4)) C fl_X7_19_7 rfl (by decide) rfl dX7_advance_41 ?_
        refine m_iconst C dX7_advance_44 ci_1 ?_
        refine m_iadd C dX7_advance_45 ?_
        refine m_puti C fl_X7_19_7 fw_7_4 rfl (by decide) rfl dX7_advance_46 (fun s_41 => ?_)
        refine m_goto (tgt := 0) C dX7_advance_49 rfl ?_
        refine m_loc (L2 := [(0, .ref (A 3))]) [0] rfl ?_
        exact hrec0 s_41
      refine m_icmp_eq (tgt := 39) C dX7_advance_22 rfl ?_ ?_
      · refine m_loc (L2 := [(0, .ref (A 3))]) [0] rfl ?_
        exact hk_40
      · refine m_aload_n C dX7_advance_25 rfl ?_
        refine m_get (v := .ref (A 17)) C fl_X7_9_7 rfl (by decide) rfl dX7_advance_26 ?_
        refine m_aload_n C dX7_advance_29 rfl ?_
        refine m_get (v := .int (gi s_38 3 4)) C fl_X7_19_7 rfl (by decide) rfl dX7_advance_30 ?_
        refine m_bald C rfl h_39 dX7_advance_33 ?_
        refine m_bipush C dX7_advance_34 cb_10 ?_
        refine m_icmp_ne (tgt := 52) C dX7_advance_36 rfl ?_ ?_
        · refine m_loc (L2 := [(0, .ref (A 3))]) [0] rfl ?_
          exact hk_2 s_38
        · refine m_loc (L2 := [(0, .ref (A 3))]) [0] rfl ?_
          exact hk_40
theorem kX7_advance (l : Launch) (D : va_G) (ct : Nat → ClassId) (A : Nat → Nat) (s0 : Sg) (o : Sg) (ho : fX7_advance s0 = some o) : Con l yX7_advance cX7_advance 1 none 6 D ct A [.ref (A 3)] s0 (embV o) := by
  refine con_start (by decide +kernel) (Nat.le_of_ble_eq_true rfl) ho (fun p e s m args below meth c C => ?_)
  refine m_loc (L2 := [(0, .ref (A 3))]) [0] rfl ?_
  unfold fX7_advance
  refine m_jn (P := fun (k_2 : Sg → Option (Sg)) => ∀ (s_1 : Sg), Wm p l e (rmD 6) s m args below meth c D ct A 1 embV 52 [(0, .ref (A 3))] [] s_1 (k_2 s_1)) ?_ (fun k_2 hk_2 => ?_)
  · intro s_1
    refine m_aload_n C dX7_advance_52 rfl ?_
    refine m_aload_n C dX7_advance_53 rfl ?_
    refine m_get (v := .int (gi s_1 3 4)) C fl_X7_19_7 rfl (by decide) rfl dX7_advance_54 ?_
    refine m_puti C fl_X7_25_7 fw_7_3 rfl (by decide) rfl dX7_advance_57 (fun s_3 => ?_)
    refine m_aload_n C dX7_advance_60 rfl ?_
    refine m_get (v := .int (gi s_3 3 4)) C fl_X7_19_7 rfl (by decide) rfl dX7_advance_61 ?_
    refine m_aload_n C dX7_advance_64 rfl ?_
    refine m_get (v := .int (gi s_3 3 1)) C fl_X7_15_7 rfl (by decide) rfl dX7_advance_65 ?_
    refine m_icmp_lt (tgt := 80) C dX7_advance_68 rfl ?_ ?_
    · refine m_aload_n C dX7_advance_80 rfl ?_
      refine m_get (v := .ref (A 17)) C fl_X7_9_7 rfl (by decide) rfl dX7_advance_81 ?_
      refine m_aload_n C dX7_advance_84 rfl ?_
      refine m_get (v := .int (gi s_3 3 4)) C fl_X7_19_7 rfl (by decide) rfl dX7_advance_85 ?_
      refine m_chk (fun h_4 => ?_)
      refine m_bald C rfl h_4 dX7_advance_88 ?_
      refine m_callSZ C ml_X7_31 ⟨Nat.le_of_ble_eq_true rfl, Nat.le_of_ble_eq_true rfl⟩ [.int (gi s_3 17 (ix (gi s_3 3 4)))] [] rfl rfl (Nat.le_of_ble_eq_true rfl) dX7_advance_89 (fun o ho => kX7_isLetter l D ct A (gi s_3 17 (ix (gi s_3 3 4))) s_3 o ho) (fun r_5 s_6 => ?_)
      refine m_jn (P := fun (k_8 : Sg → Option (Sg)) => ∀ (s_7 : Sg), Wm p l e (rmD 6) s m args below meth c D ct A 1 embV 134 [(0, .ref (A 3))] [] s_7 (k_8 s_7)) ?_ (fun k_8 hk_8 => ?_)
      · intro s_7
        refine m_aload_n C dX7_advance_134 rfl ?_
        refine m_aload_n C dX7_advance_135 rfl ?_
        refine m_callVI C ml_X7_35 ⟨Nat.le_of_ble_eq_true rfl, Nat.le_of_ble_eq_true rfl⟩ rfl rfl [] [.ref (A 3)] rfl rfl (Nat.le_of_ble_eq_true rfl) dX7_advance_136 (fun o ho => kX7_wordToken l D ct A s_7 o ho) (fun r_9 s_10 => ?_)
        refine m_puti C fl_X7_28_7 fw_7_2 rfl (by decide) rfl dX7_advance_139 (fun s_11 => ?_)
        refine m_goto (tgt := 248) C dX7_advance_142 rfl ?_
        exact m_vret C dX7_advance_248
      refine m_if_eq (tgt := 145) C dX7_advance_92 rfl ?_ ?_
      · refine m_aload_n C dX7_advance_145 rfl ?_
        refine m_get (v := .ref (A 17)) C fl_X7_9_7 rfl (by decide) rfl dX7_advance_146 ?_
        refine m_aload_n C dX7_advance_149 rfl ?_
        refine m_get (v := .int (gi s_6 3 4)) C fl_X7_19_7 rfl (by decide) rfl dX7_advance_150 ?_
        refine m_chk (fun h_17 => ?_)
        refine m_bald C rfl h_17 dX7_advance_153 ?_
        refine m_callSZ C ml_X7_39 ⟨Nat.le_of_ble_eq_true rfl, Nat.le_of_ble_eq_true rfl⟩ [.int (gi s_6 17 (ix (gi s_6 3 4)))] [] rfl rfl (Nat.le_of_ble_eq_true rfl) dX7_advance_154 (fun o ho => kX7_isDigit l D ct A (gi s_6 17 (ix (gi s_6 3 4))) s_6 o ho) (fun r_18 s_19 => ?_)
        refine m_if_eq (tgt := 167) C dX7_advance_157 rfl ?_ ?_
        · refine m_aload_n C dX7_advance_167 rfl ?_
          refine m_aload_n C dX7_advance_168 rfl ?_
          refine m_get (v := .ref (A 17)) C fl_X7_9_7 rfl (by decide) rfl dX7_advance_169 ?_
          refine m_aload_n C dX7_advance_172 rfl ?_
          refine m_get (v := .int (gi s_19 3 4)) C fl_X7_19_7 rfl (by decide) rfl dX7_advance_173 ?_
          refine m_chk (fun h_20 => ?_)
          refine m_bald C rfl h_20 dX7_advance_176 ?_
          refine m_aload_n C dX7_advance_177 rfl ?_
          refine m_get (v := .int (gi s_19 3 4)) C fl_X7_19_7 rfl (by decide) rfl dX7_advance_178 ?_
          refine m_iconst C dX7_advance_181 ci_1 ?_
          refine m_iadd C dX7_advance_182 ?_
          refine m_aload_n C dX7_advance_183 rfl ?_
          refine m_get (v := .int (gi s_19 3 1)) C fl_X7_15_7 rfl (by decide) rfl dX7_advance_184 ?_
          refine m_jn (P := fun (k_23 : Int32 → Bool → Option (Sg)) => ∀ (y_21 : Int32) (y_22 : Bool), Wm p l e (rmD 6) s m args below meth c D ct A 1 embV 211 [(0, .ref (A 3))] [.int (b2i y_22), .int y_21, .ref (A 3)] s_19 (k_23 y_21 y_22)) ?_ (fun k_23 hk_23 => ?_)
          · intro y_21 y_22
            refine m_callSI C ml_X7_45 ⟨Nat.le_of_ble_eq_true rfl, Nat.le_of_ble_eq_true rfl⟩ [.int y_21, .int (b2i y_22)] [.ref (A 3)] rfl rfl (Nat.le_of_ble_eq_true rfl) dX7_advance_211 (fun o ho => kX7_signToken l D ct A y_21 (b2i y_22) s_19 o ho) (fun r_24 s_25 => ?_)
            refine m_puti C fl_X7_28_7 fw_7_2 rfl (by decide) rfl dX7_advance_214 (fun s_26 => ?_)
            refine m_aload_n C dX7_advance_217 rfl ?_
            refine m_dup C dX7_advance_218 rfl ?_
            refine m_get (v := .int (gi s_26 3 4)) C fl_X7_19_7 rfl (by decide) rfl dX7_advance_219 ?_
            refine m_aload_n C dX7_advance_222 rfl ?_
            refine m_get (v := .int (gi s_26 3 2)) C fl_X7_28_7 rfl (by decide) rfl dX7_advance_223 ?_
            refine m_iconst C dX7_advance_226 ci_5 ?_
            refine m_jn (P := fun (k_29 : Int32 → Int32 → Option (Sg)) => ∀ (y_27 : Int32) (y_28 : Int32), Wm p l e (rmD 6) s m args below meth c D ct A 1 embV 244 [] [.int y_28, .int y_27, .ref (A 3)] s_26 (k_29 y_27 y_28)) ?_ (fun k_29 hk_29 => ?_)
            · intro y_27 y_28
              refine m_iadd C dX7_advance_244 ?_
              refine m_puti C fl_X7_19_7 fw_7_4 rfl (by decide) rfl dX7_advance_245 (fun s_30 => ?_)
              exact m_vret C dX7_advance_248
            refine m_jn (P := fun (k_32 : Int32 → Option (Sg)) => ∀ (y_31 : Int32), Wm p l e (rmD 6) s m args below meth c D ct A 1 embV 239 [] [.int y_31, .ref (A 3)] s_26 (k_32 y_31)) ?_ (fun k_32 hk_32 => ?_)
            · intro y_31
              refine m_iconst C dX7_advance_239 ci_2 ?_
              refine m_goto (tgt := 244) C dX7_advance_240 rfl ?_
              refine m_loc (L2 := []) [] rfl ?_
              exact hk_29 y_31 2
            refine m_icmp_eq (tgt := 239) C dX7_advance_227 rfl ?_ ?_
            · refine m_loc (L2 := []) [] rfl ?_
              exact hk_32 (gi s_26 3 4)
            · refine m_aload_n C dX7_advance_230 rfl ?_
              refine m_get (v := .int (gi s_26 3 2)) C fl_X7_28_7 rfl (by decide) rfl dX7_advance_231 ?_
              refine m_bipush C dX7_advance_234 cb_7 ?_
              refine m_icmp_ne (tgt := 243) C dX7_advance_236 rfl ?_ ?_
              · refine m_iconst C dX7_advance_243 ci_1 ?_
                refine m_loc (L2 := []) [] rfl ?_
                exact hk_29 (gi s_26 3 4) 1
              · refine m_loc (L2 := []) [] rfl ?_
                exact hk_32 (gi s_26 3 4)
          refine m_jn (P := fun (k_34 : Int32 → Option (Sg)) => ∀ (y_33 : Int32), Wm p l e (rmD 6) s m args below meth c D ct A 1 embV 210 [(0, .ref (A 3))] [.int y_33, .ref (A 3)] s_19 (k_34 y_33)) ?_ (fun k_34 hk_34 => ?_)
          · intro y_33
            refine m_iconst C dX7_advance_210 ci_0 ?_
            refine m_loc (L2 := [(0, .ref (A 3))]) [0] rfl ?_
            exact hk_23 y_33 false
          refine m_icmp_ge (tgt := 210) C dX7_advance_187 rfl ?_ ?_
          · refine m_loc (L2 := [(0, .ref (A 3))]) [0] rfl ?_
            exact hk_34 (gi s_19 17 (ix (gi s_19 3 4)))
          · refine m_aload_n C dX7_advance_190 rfl ?_
            refine m_get (v := .ref (A 17)) C fl_X7_9_7 rfl (by decide) rfl dX7_advance_191 ?_
            refine m_aload_n C dX7_advance_194 rfl ?_
            refine m_get (v := .int (gi s_19 3 4)) C fl_X7_19_7 rfl (by decide) rfl dX7_advance_195 ?_
            refine m_iconst C dX7_advance_198 ci_1 ?_
            refine m_iadd C dX7_advance_199 ?_
            refine m_chk (fun h_35 => ?_)
            refine m_bald C rfl h_35 dX7_advance_200 ?_
            refine m_bipush C dX7_advance_201 cb_61 ?_
            refine m_icmp_ne (tgt := 210) C dX7_advance_203 rfl ?_ ?_
            · refine m_loc (L2 := [(0, .ref (A 3))]) [0] rfl ?_
              exact hk_34 (gi s_19 17 (ix (gi s_19 3 4)))
            · refine m_iconst C dX7_advance_206 ci_1 ?_
              refine m_goto (tgt := 211) C dX7_advance_207 rfl ?_
              refine m_loc (L2 := [(0, .ref (A 3))]) [0] rfl ?_
              exact hk_23 (gi s_19 17 (ix (gi s_19 3 4))) true
        · refine m_aload_n C dX7_advance_160 rfl ?_
          refine m_callVV C ml_X7_42 ⟨Nat.le_of_ble_eq_true rfl, Nat.le_of_ble_eq_true rfl⟩ rfl rfl [] [] rfl rfl (Nat.le_of_ble_eq_true rfl) dX7_advance_161 (fun o ho => kX7_readNumber l D ct A s_19 o ho) (fun s_36 => ?_)
          refine m_goto (tgt := 248) C dX7_advance_164 rfl ?_
          exact m_vret C dX7_advance_248
      · refine m_loc (L2 := [(0, .ref (A 3))]) [0] rfl ?_
        exact wX7_advance_95 C k_8 hk_8 FU s_6
    · refine m_aload_n C dX7_advance_71 rfl ?_
      refine m_bipush C dX7_advance_72 cb_24 ?_
      refine m_puti C fl_X7_28_7 fw_7_2 rfl (by decide) rfl dX7_advance_74 (fun s_37 => ?_)
      refine m_goto (tgt := 248) C dX7_advance_77 rfl ?_
      exact m_vret C dX7_advance_248
  refine m_loc (L2 := [(0, .ref (A 3))]) [0] rfl ?_
  exact wX7_advance_0 C k_2 hk_2 FU s0
def fX9_now (a1 : Int32) (s0 : Sg) : Option (Int32 × Sg) :=
  bnv (fX9_weighWhatLies s0) fun s_1 =>
  if a1 = 0 then
    some (gi s_1 6 2, s_1)
  else
    if a1 = 1 then
      some (gi s_1 6 3, s_1)
    else
      if a1 = 2 then
        some (gi s_1 6 4, s_1)
      else
        if a1 = 3 then
          bnd (fX9_leaning (gi s_1 6 4) (gi s_1 1 2) s_1) fun r_5 s_6 =>
          some (r_5, s_6)
        else
          if a1 = 4 then
            bnd (fX4_isSafe (gr s_1 1 13) s_1) fun r_8 s_9 =>
            if (b2i r_8) = 0 then
              some (0, s_9)
            else
              some (1, s_9)
          else
            some ((-100000000), s_1)
theorem kX9_now (l : Launch) (D : va_G) (ct : Nat → ClassId) (A : Nat → Nat) (a1 : Int32) (s0 : Sg) (o : Int32 × Sg) (ho : fX9_now a1 s0 = some o) : Con l yX9_now cX9_now 2 (some .int) 5 D ct A [.ref (A 0), .int a1] s0 (embI o) := by
  refine con_start (by decide +kernel) (Nat.le_of_ble_eq_true rfl) ho (fun p e s m args below meth c C => ?_)
  refine m_loc (L2 := [(0, .ref (A 0)), (1, .int a1)]) [0, 1] rfl ?_
  unfold fX9_now
  refine m_aload_n C dX9_now_0 rfl ?_
  refine m_callVV C ml_X9_174 ⟨Nat.le_of_ble_eq_true rfl, Nat.le_of_ble_eq_true rfl⟩ rfl rfl [] [] rfl rfl (Nat.le_of_ble_eq_true rfl) dX9_now_1 (fun o ho => kX9_weighWhatLies l D ct A s0 o ho) (fun s_1 => ?_)
  refine m_iload_n C dX9_now_4 rfl ?_
  refine m_tbl (n := 0) C dX9_now_5 0 35 40 (by decide +kernel) ?_ (fun h_2 => ?_)
  · refine m_aload_n C dX9_now_40 rfl ?_
    refine m_get (v := .ref (A 6)) C fl_X9_44_8 rfl (by decide) rfl dX9_now_41 ?_
    refine m_get (v := .int (gi s_1 6 2)) C fl_X9_131_4 rfl (by decide) rfl dX9_now_44 ?_
    refine m_goto (tgt := 117) C dX9_now_47 rfl ?_
    exact m_iret C dX9_now_117
  · refine m_tbl (n := 0) C dX9_now_5 1 45 50 (by decide +kernel) ?_ (fun h_3 => ?_)
    · refine m_aload_n C dX9_now_50 rfl ?_
      refine m_get (v := .ref (A 6)) C fl_X9_44_8 rfl (by decide) rfl dX9_now_51 ?_
      refine m_get (v := .int (gi s_1 6 3)) C fl_X9_134_4 rfl (by decide) rfl dX9_now_54 ?_
      refine m_goto (tgt := 117) C dX9_now_57 rfl ?_
      exact m_iret C dX9_now_117
    · refine m_tbl (n := 0) C dX9_now_5 2 55 60 (by decide +kernel) ?_ (fun h_4 => ?_)
      · refine m_aload_n C dX9_now_60 rfl ?_
        refine m_get (v := .ref (A 6)) C fl_X9_44_8 rfl (by decide) rfl dX9_now_61 ?_
        refine m_get (v := .int (gi s_1 6 4)) C fl_X9_177_4 rfl (by decide) rfl dX9_now_64 ?_
        refine m_goto (tgt := 117) C dX9_now_67 rfl ?_
        exact m_iret C dX9_now_117
      · refine m_tbl (n := 0) C dX9_now_5 3 65 70 (by decide +kernel) ?_ (fun h_7 => ?_)
        · refine m_aload_n C dX9_now_70 rfl ?_
          refine m_get (v := .ref (A 6)) C fl_X9_44_8 rfl (by decide) rfl dX9_now_71 ?_
          refine m_get (v := .int (gi s_1 6 4)) C fl_X9_177_4 rfl (by decide) rfl dX9_now_74 ?_
          refine m_aload_n C dX9_now_77 rfl ?_
          refine m_get (v := .ref (A 1)) C fl_X9_10_8 rfl (by decide) rfl dX9_now_78 ?_
          refine m_get (v := .int (gi s_1 1 2)) C fl_X9_74_6 rfl (by decide) rfl dX9_now_81 ?_
          refine m_callSI C ml_X9_180 ⟨Nat.le_of_ble_eq_true rfl, Nat.le_of_ble_eq_true rfl⟩ [.int (gi s_1 6 4), .int (gi s_1 1 2)] [] rfl rfl (Nat.le_of_ble_eq_true rfl) dX9_now_84 (fun o ho => kX9_leaning l D ct A (gi s_1 6 4) (gi s_1 1 2) s_1 o ho) (fun r_5 s_6 => ?_)
          refine m_goto (tgt := 117) C dX9_now_87 rfl ?_
          exact m_iret C dX9_now_117
        · refine m_tbl (n := 0) C dX9_now_5 4 85 90 (by decide +kernel) ?_ (fun h_10 => ?_)
          · refine m_aload_n C dX9_now_90 rfl ?_
            refine m_get (v := .ref (A 6)) C fl_X9_44_8 rfl (by decide) rfl dX9_now_91 ?_
            refine m_aload_n C dX9_now_94 rfl ?_
            refine m_get (v := .ref (A 1)) C fl_X9_10_8 rfl (by decide) rfl dX9_now_95 ?_
            refine m_get (v := rfv A (gr s_1 1 13)) C fl_X9_123_6 rfl (by decide) rfl dX9_now_98 ?_
            refine m_callVZ C ml_X9_184 ⟨Nat.le_of_ble_eq_true rfl, Nat.le_of_ble_eq_true rfl⟩ rfl rfl [rfv A (gr s_1 1 13)] [] rfl rfl (Nat.le_of_ble_eq_true rfl) dX9_now_101 (fun o ho => kX4_isSafe l D ct A (gr s_1 1 13) s_1 o ho) (fun r_8 s_9 => ?_)
            refine m_if_eq (tgt := 111) C dX9_now_104 rfl ?_ ?_
            · refine m_iconst C dX9_now_111 ci_0 ?_
              refine m_goto (tgt := 117) C dX9_now_112 rfl ?_
              exact m_iret C dX9_now_117
            · refine m_iconst C dX9_now_107 ci_1 ?_
              refine m_goto (tgt := 117) C dX9_now_108 rfl ?_
              exact m_iret C dX9_now_117
          · refine m_tblD C dX9_now_5 115 rfl (tbl_dflt [0, 1, 2, 3, 4] (fun w hw => by simp only [List.mem_cons, List.not_mem_nil, or_false] at hw; rcases hw with rfl | rfl | rfl | rfl | rfl <;> assumption) 4 (by decide) (by decide +kernel)) ?_
            refine m_ldc C wd_731 dX9_now_115 ?_
            exact m_iret C dX9_now_117
def fX9_loadings (a1 : Int32) (a2 : Int32) (s0 : Sg) : Option (Int64 × Sg) :=
  bnd (fX9_isLoadable a1 a2 s0) fun r_1 s_2 =>
  if (b2i r_1) = 0 then
    some ((-1), s_2)
  else
    bnv (fX9_weighWhatLies s_2) fun s_3 =>
    bnv (fX1_prepare a1 a2 s_3) fun s_4 =>
    bnd (fX1_count s_4) fun r_5 s_6 =>
    some (Int32.toInt64 r_5, s_6)
theorem kX9_loadings (l : Launch) (D : va_G) (ct : Nat → ClassId) (A : Nat → Nat) (a1 : Int32) (a2 : Int32) (s0 : Sg) (o : Int64 × Sg) (ho : fX9_loadings a1 a2 s0 = some o) : Con l yX9_loadings cX9_loadings 3 (some .long) 5 D ct A [.ref (A 0), .int a1, .int a2] s0 (embL o) := by
  refine con_start (by decide +kernel) (Nat.le_of_ble_eq_true rfl) ho (fun p e s m args below meth c C => ?_)
  refine m_loc (L2 := [(0, .ref (A 0)), (1, .int a1), (2, .int a2)]) [0, 1, 2] rfl ?_
  unfold fX9_loadings
  refine m_aload_n C dX9_loadings_0 rfl ?_
  refine m_iload_n C dX9_loadings_1 rfl ?_
  refine m_iload_n C dX9_loadings_2 rfl ?_
  refine m_callVZ C ml_X9_188 ⟨Nat.le_of_ble_eq_true rfl, Nat.le_of_ble_eq_true rfl⟩ rfl rfl [.int a1, .int a2] [] rfl rfl (Nat.le_of_ble_eq_true rfl) dX9_loadings_3 (fun o ho => kX9_isLoadable l D ct A a1 a2 s0 o ho) (fun r_1 s_2 => ?_)
  refine m_if_ne (tgt := 13) C dX9_loadings_6 rfl ?_ ?_
  · refine m_aload_n C dX9_loadings_13 rfl ?_
    refine m_callVV C ml_X9_174 ⟨Nat.le_of_ble_eq_true rfl, Nat.le_of_ble_eq_true rfl⟩ rfl rfl [] [] rfl rfl (Nat.le_of_ble_eq_true rfl) dX9_loadings_14 (fun o ho => kX9_weighWhatLies l D ct A s_2 o ho) (fun s_3 => ?_)
    refine m_aload_n C dX9_loadings_17 rfl ?_
    refine m_get (v := .ref (A 7)) C fl_X9_51_8 rfl (by decide) rfl dX9_loadings_18 ?_
    refine m_aload_n C dX9_loadings_21 rfl ?_
    refine m_get (v := .ref (A 1)) C fl_X9_10_8 rfl (by decide) rfl dX9_loadings_22 ?_
    refine m_aload_n C dX9_loadings_25 rfl ?_
    refine m_get (v := .ref (A 6)) C fl_X9_44_8 rfl (by decide) rfl dX9_loadings_26 ?_
    refine m_iload_n C dX9_loadings_29 rfl ?_
    refine m_iload_n C dX9_loadings_30 rfl ?_
    refine m_callVV C ml_X9_193 ⟨Nat.le_of_ble_eq_true rfl, Nat.le_of_ble_eq_true rfl⟩ rfl rfl [.ref (A 1), .ref (A 6), .int a1, .int a2] [] rfl rfl (Nat.le_of_ble_eq_true rfl) dX9_loadings_31 (fun o ho => kX1_prepare l D ct A a1 a2 s_3 o ho) (fun s_4 => ?_)
    refine m_aload_n C dX9_loadings_34 rfl ?_
    refine m_get (v := .ref (A 7)) C fl_X9_51_8 rfl (by decide) rfl dX9_loadings_35 ?_
    refine m_callVI C ml_X9_197 ⟨Nat.le_of_ble_eq_true rfl, Nat.le_of_ble_eq_true rfl⟩ rfl rfl [] [] rfl rfl (Nat.le_of_ble_eq_true rfl) dX9_loadings_38 (fun o ho => kX1_count l D ct A s_4 o ho) (fun r_5 s_6 => ?_)
    refine m_i2l C dX9_loadings_41 ?_
    exact m_lret C dX9_loadings_42
  · refine m_ldc2 C wd_746 dX9_loadings_9 ?_
    exact m_lret C dX9_loadings_12
def fX9_gentle (a1 : Int32) (a2 : Int32) (a3 : Int32) (s0 : Sg) : Option (Int32 × Sg) :=
  bnd (fX9_isLoadable a1 a2 s0) fun r_1 s_2 =>
  if (b2i r_1) = 0 then
    some ((-1), s_2)
  else
    bnd (fJ6_bitCount_0f7a4 a1 s_2) fun r_3 s_4 =>
    bnd (fX9_within a3 (-1) (r_3 - 1) s_4) fun r_5 s_6 =>
    if (b2i r_5) = 0 then
      some ((-1), s_6)
    else
      bnv (fX9_weighWhatLies s_6) fun s_7 =>
      bnv (fX1_prepare a1 a2 s_7) fun s_8 =>
      bnd (fX1_leastTurn s_8) fun r_9 s_10 =>
      if a3 = (-1) then
        some (r_9, s_10)
      else
        if r_9 = (-1) then
          some (r_9, s_10)
        else
          bnd (fX1_gentleThing a3 r_9 s_10) fun r_11 s_12 =>
          some (r_11, s_12)
theorem kX9_gentle (l : Launch) (D : va_G) (ct : Nat → ClassId) (A : Nat → Nat) (a1 : Int32) (a2 : Int32) (a3 : Int32) (s0 : Sg) (o : Int32 × Sg) (ho : fX9_gentle a1 a2 a3 s0 = some o) : Con l yX9_gentle cX9_gentle 5 (some .int) 5 D ct A [.ref (A 0), .int a1, .int a2, .int a3] s0 (embI o) := by
  refine con_start (by decide +kernel) (Nat.le_of_ble_eq_true rfl) ho (fun p e s m args below meth c C => ?_)
  refine m_loc (L2 := [(0, .ref (A 0)), (1, .int a1), (2, .int a2), (3, .int a3)]) [0, 1, 2, 3] rfl ?_
  unfold fX9_gentle
  refine m_aload_n C dX9_gentle_0 rfl ?_
  refine m_iload_n C dX9_gentle_1 rfl ?_
  refine m_iload_n C dX9_gentle_2 rfl ?_
  refine m_callVZ C ml_X9_188 ⟨Nat.le_of_ble_eq_true rfl, Nat.le_of_ble_eq_true rfl⟩ rfl rfl [.int a1, .int a2] [] rfl rfl (Nat.le_of_ble_eq_true rfl) dX9_gentle_3 (fun o ho => kX9_isLoadable l D ct A a1 a2 s0 o ho) (fun r_1 s_2 => ?_)
  refine m_if_eq (tgt := 23) C dX9_gentle_6 rfl ?_ ?_
  · refine m_iconst C dX9_gentle_23 ci_m1 ?_
    exact m_iret C dX9_gentle_24
  · refine m_iload_n C dX9_gentle_9 rfl ?_
    refine m_iconst C dX9_gentle_10 ci_m1 ?_
    refine m_iload_n C dX9_gentle_11 rfl ?_
    refine m_callSI C ml_X9_201 ⟨Nat.le_of_ble_eq_true rfl, Nat.le_of_ble_eq_true rfl⟩ [.int a1] [.int (-1), .int a3] rfl rfl (Nat.le_of_ble_eq_true rfl) dX9_gentle_12 (fun o ho => kJ6_bitCount_0f7a4 l D ct A a1 s_2 o ho) (fun r_3 s_4 => ?_)
    refine m_iconst C dX9_gentle_15 ci_1 ?_
    refine m_isub C dX9_gentle_16 ?_
    refine m_callSZ C ml_X9_63 ⟨Nat.le_of_ble_eq_true rfl, Nat.le_of_ble_eq_true rfl⟩ [.int a3, .int (-1), .int (r_3 - 1)] [] rfl rfl (Nat.le_of_ble_eq_true rfl) dX9_gentle_17 (fun o ho => kX9_within l D ct A a3 (-1) (r_3 - 1) s_4 o ho) (fun r_5 s_6 => ?_)
    refine m_if_ne (tgt := 25) C dX9_gentle_20 rfl ?_ ?_
    · refine m_aload_n C dX9_gentle_25 rfl ?_
      refine m_callVV C ml_X9_174 ⟨Nat.le_of_ble_eq_true rfl, Nat.le_of_ble_eq_true rfl⟩ rfl rfl [] [] rfl rfl (Nat.le_of_ble_eq_true rfl) dX9_gentle_26 (fun o ho => kX9_weighWhatLies l D ct A s_6 o ho) (fun s_7 => ?_)
      refine m_aload_n C dX9_gentle_29 rfl ?_
      refine m_get (v := .ref (A 7)) C fl_X9_51_8 rfl (by decide) rfl dX9_gentle_30 ?_
      refine m_aload_n C dX9_gentle_33 rfl ?_
      refine m_get (v := .ref (A 1)) C fl_X9_10_8 rfl (by decide) rfl dX9_gentle_34 ?_
      refine m_aload_n C dX9_gentle_37 rfl ?_
      refine m_get (v := .ref (A 6)) C fl_X9_44_8 rfl (by decide) rfl dX9_gentle_38 ?_
      refine m_iload_n C dX9_gentle_41 rfl ?_
      refine m_iload_n C dX9_gentle_42 rfl ?_
      refine m_callVV C ml_X9_193 ⟨Nat.le_of_ble_eq_true rfl, Nat.le_of_ble_eq_true rfl⟩ rfl rfl [.ref (A 1), .ref (A 6), .int a1, .int a2] [] rfl rfl (Nat.le_of_ble_eq_true rfl) dX9_gentle_43 (fun o ho => kX1_prepare l D ct A a1 a2 s_7 o ho) (fun s_8 => ?_)
      refine m_aload_n C dX9_gentle_46 rfl ?_
      refine m_get (v := .ref (A 7)) C fl_X9_51_8 rfl (by decide) rfl dX9_gentle_47 ?_
      refine m_callVI C ml_X9_206 ⟨Nat.le_of_ble_eq_true rfl, Nat.le_of_ble_eq_true rfl⟩ rfl rfl [] [] rfl rfl (Nat.le_of_ble_eq_true rfl) dX9_gentle_50 (fun o ho => kX1_leastTurn l D ct A s_8 o ho) (fun r_9 s_10 => ?_)
      refine m_istore (L2 := [(4, .int r_9), (0, .ref (A 0)), (1, .int a1), (2, .int a2), (3, .int a3)]) C dX9_gentle_53 (by decide) rfl ?_
      refine m_iload_n C dX9_gentle_55 rfl ?_
      refine m_iconst C dX9_gentle_56 ci_m1 ?_
      refine m_icmp_eq (tgt := 66) C dX9_gentle_57 rfl ?_ ?_
      · refine m_iload C dX9_gentle_66 rfl ?_
        exact m_iret C dX9_gentle_68
      · refine m_iload C dX9_gentle_60 rfl ?_
        refine m_iconst C dX9_gentle_62 ci_m1 ?_
        refine m_icmp_ne (tgt := 69) C dX9_gentle_63 rfl ?_ ?_
        · refine m_aload_n C dX9_gentle_69 rfl ?_
          refine m_get (v := .ref (A 7)) C fl_X9_51_8 rfl (by decide) rfl dX9_gentle_70 ?_
          refine m_iload_n C dX9_gentle_73 rfl ?_
          refine m_iload C dX9_gentle_74 rfl ?_
          refine m_callVI C ml_X9_209 ⟨Nat.le_of_ble_eq_true rfl, Nat.le_of_ble_eq_true rfl⟩ rfl rfl [.int a3, .int r_9] [] rfl rfl (Nat.le_of_ble_eq_true rfl) dX9_gentle_76 (fun o ho => kX1_gentleThing l D ct A a3 r_9 s_10 o ho) (fun r_11 s_12 => ?_)
          exact m_iret C dX9_gentle_79
        · refine m_iload C dX9_gentle_66 rfl ?_
          exact m_iret C dX9_gentle_68
    · refine m_iconst C dX9_gentle_23 ci_m1 ?_
      exact m_iret C dX9_gentle_24
def fX9_reading (a1 : Int32) (a2 : Int32) (s0 : Sg) : Option (Int32 × Sg) :=
  bnd (fX9_isPan a1 s0) fun r_1 s_2 =>
  if (b2i r_1) = 0 then
    some ((-1), s_2)
  else
    bnd (fX9_within a2 0 2 s_2) fun r_3 s_4 =>
    if (b2i r_3) = 0 then
      some ((-1), s_4)
    else
      if (gi s_4 1 17) < 10 then
        bnv (fX9_weighWhatLies s_4) fun s_5 =>
        chk (inb 10 (gi s_5 1 17)) <|
        bv (68 + 1 * ix (gi s_5 1 17)) fun q_7 =>
        chk (isRd q_7) <|
        bv (si s_5 q_7 6 a1) fun s_9 =>
        bv (si s_9 q_7 7 a2) fun s_10 =>
        bnv (fX8_copyWorld_r q_7 s_10) fun s_11 =>
        bv (si s_11 q_7 8 (gi s_11 6 2)) fun s_12 =>
        bv (si s_12 q_7 9 (gi s_12 6 3)) fun s_13 =>
        bv (si s_13 1 17 ((gi s_13 1 17) + 1)) fun s_14 =>
        some (gi s_14 1 17, s_14)
      else
        some ((-1), s_4)
theorem kX9_reading (l : Launch) (D : va_G) (ct : Nat → ClassId) (A : Nat → Nat) (a1 : Int32) (a2 : Int32) (s0 : Sg) (o : Int32 × Sg) (ho : fX9_reading a1 a2 s0 = some o) : Con l yX9_reading cX9_reading 4 (some .int) 5 D ct A [.ref (A 0), .int a1, .int a2] s0 (embI o) := by
  refine con_start (by decide +kernel) (Nat.le_of_ble_eq_true rfl) ho (fun p e s m args below meth c C => ?_)
  refine m_loc (L2 := [(0, .ref (A 0)), (1, .int a1), (2, .int a2)]) [0, 1, 2] rfl ?_
  unfold fX9_reading
  refine m_iload_n C dX9_reading_0 rfl ?_
  refine m_callSZ C ml_X9_212 ⟨Nat.le_of_ble_eq_true rfl, Nat.le_of_ble_eq_true rfl⟩ [.int a1] [] rfl rfl (Nat.le_of_ble_eq_true rfl) dX9_reading_1 (fun o ho => kX9_isPan l D ct A a1 s0 o ho) (fun r_1 s_2 => ?_)
  refine m_if_eq (tgt := 28) C dX9_reading_4 rfl ?_ ?_
  · refine m_iconst C dX9_reading_28 ci_m1 ?_
    exact m_iret C dX9_reading_29
  · refine m_iload_n C dX9_reading_7 rfl ?_
    refine m_iconst C dX9_reading_8 ci_0 ?_
    refine m_iconst C dX9_reading_9 ci_2 ?_
    refine m_callSZ C ml_X9_63 ⟨Nat.le_of_ble_eq_true rfl, Nat.le_of_ble_eq_true rfl⟩ [.int a2, .int 0, .int 2] [] rfl rfl (Nat.le_of_ble_eq_true rfl) dX9_reading_10 (fun o ho => kX9_within l D ct A a2 0 2 s_2 o ho) (fun r_3 s_4 => ?_)
    refine m_if_eq (tgt := 28) C dX9_reading_13 rfl ?_ ?_
    · refine m_iconst C dX9_reading_28 ci_m1 ?_
      exact m_iret C dX9_reading_29
    · refine m_aload_n C dX9_reading_16 rfl ?_
      refine m_get (v := .ref (A 1)) C fl_X9_10_8 rfl (by decide) rfl dX9_reading_17 ?_
      refine m_get (v := .int (gi s_4 1 17)) C fl_X9_215_6 rfl (by decide) rfl dX9_reading_20 ?_
      refine m_bipush C dX9_reading_23 cb_10 ?_
      refine m_icmp_lt (tgt := 30) C dX9_reading_25 rfl ?_ ?_
      · refine m_aload_n C dX9_reading_30 rfl ?_
        refine m_callVV C ml_X9_174 ⟨Nat.le_of_ble_eq_true rfl, Nat.le_of_ble_eq_true rfl⟩ rfl rfl [] [] rfl rfl (Nat.le_of_ble_eq_true rfl) dX9_reading_31 (fun o ho => kX9_weighWhatLies l D ct A s_4 o ho) (fun s_5 => ?_)
        refine m_aload_n C dX9_reading_34 rfl ?_
        refine m_get (v := .ref (A 1)) C fl_X9_10_8 rfl (by decide) rfl dX9_reading_35 ?_
        refine m_get (v := .ref (A 12)) C fl_X9_218_6 rfl (by decide) rfl dX9_reading_38 ?_
        refine m_aload_n C dX9_reading_41 rfl ?_
        refine m_get (v := .ref (A 1)) C fl_X9_10_8 rfl (by decide) rfl dX9_reading_42 ?_
        refine m_get (v := .int (gi s_5 1 17)) C fl_X9_215_6 rfl (by decide) rfl dX9_reading_45 ?_
        refine m_chk (fun h_6 => ?_)
        refine m_aald (cn := "DownByAHair$Reading") C rfl rfl h_6 dX9_reading_48 ?_
        refine m_letr (x := 68 + 1 * ix (gi s_5 1 17)) (fun q_7 => ?_)
        refine m_chk (fun h_8 => ?_)
        refine m_astore_n (L2 := [(3, .ref (A q_7)), (0, .ref (A 0)), (1, .int a1), (2, .int a2)]) C dX9_reading_49 rfl (by decide) rfl ?_
        refine m_aload_n C dX9_reading_50 rfl ?_
        refine m_iload_n C dX9_reading_51 rfl ?_
        refine m_puti C fl_X9_222_3 fw_3_6 (lay_rd h_8) (by decide) (fk_rd h_8 6) dX9_reading_52 (fun s_9 => ?_)
        refine m_aload_n C dX9_reading_55 rfl ?_
        refine m_iload_n C dX9_reading_56 rfl ?_
        refine m_puti C fl_X9_227_3 fw_3_7 (lay_rd h_8) (by decide) (fk_rd h_8 7) dX9_reading_57 (fun s_10 => ?_)
        refine m_aload_n C dX9_reading_60 rfl ?_
        refine m_aload_n C dX9_reading_61 rfl ?_
        refine m_get (v := .ref (A 1)) C fl_X9_10_8 rfl (by decide) rfl dX9_reading_62 ?_
        refine m_callUV C ml_X9_230 ⟨Nat.le_of_ble_eq_true rfl, Nat.le_of_ble_eq_true rfl⟩ (lay_rd h_8) rfl [.ref (A 1)] [] rfl rfl (Nat.le_of_ble_eq_true rfl) dX9_reading_65 (fun o ho => kX8_copyWorld_r l D ct A q_7 h_8 s_10 o ho) (fun s_11 => ?_)
        refine m_aload_n C dX9_reading_68 rfl ?_
        refine m_aload_n C dX9_reading_69 rfl ?_
        refine m_get (v := .ref (A 6)) C fl_X9_44_8 rfl (by decide) rfl dX9_reading_70 ?_
        refine m_get (v := .int (gi s_11 6 2)) C fl_X9_131_4 rfl (by decide) rfl dX9_reading_73 ?_
        refine m_puti C fl_X9_234_3 fw_3_8 (lay_rd h_8) (by decide) (fk_rd h_8 8) dX9_reading_76 (fun s_12 => ?_)
        refine m_aload_n C dX9_reading_79 rfl ?_
        refine m_aload_n C dX9_reading_80 rfl ?_
        refine m_get (v := .ref (A 6)) C fl_X9_44_8 rfl (by decide) rfl dX9_reading_81 ?_
        refine m_get (v := .int (gi s_12 6 3)) C fl_X9_134_4 rfl (by decide) rfl dX9_reading_84 ?_
        refine m_puti C fl_X9_235_3 fw_3_9 (lay_rd h_8) (by decide) (fk_rd h_8 9) dX9_reading_87 (fun s_13 => ?_)
        refine m_aload_n C dX9_reading_90 rfl ?_
        refine m_get (v := .ref (A 1)) C fl_X9_10_8 rfl (by decide) rfl dX9_reading_91 ?_
        refine m_dup C dX9_reading_94 rfl ?_
        refine m_get (v := .int (gi s_13 1 17)) C fl_X9_215_6 rfl (by decide) rfl dX9_reading_95 ?_
        refine m_iconst C dX9_reading_98 ci_1 ?_
        refine m_iadd C dX9_reading_99 ?_
        refine m_puti C fl_X9_215_6 fw_6_17 rfl (by decide) rfl dX9_reading_100 (fun s_14 => ?_)
        refine m_aload_n C dX9_reading_103 rfl ?_
        refine m_get (v := .ref (A 1)) C fl_X9_10_8 rfl (by decide) rfl dX9_reading_104 ?_
        refine m_get (v := .int (gi s_14 1 17)) C fl_X9_215_6 rfl (by decide) rfl dX9_reading_107 ?_
        exact m_iret C dX9_reading_110
      · refine m_iconst C dX9_reading_28 ci_m1 ?_
        exact m_iret C dX9_reading_29
def fX9_span_21_b (k_7 : Int32 → Int32 → Int32 → Sg → Option (Int32 × Sg)) (rec21 : Int32 → Int32 → Int32 → Int32 → Sg → Option (Int32 × Sg)) (x2_8 : Int32) (x3_9 : Int32) (x4_10 : Int32) (x5_11 : Int32) (s_12 : Sg) : Option (Int32 × Sg) :=
  if 999 < x5_11 then
    k_7 x2_8 x3_9 x4_10 s_12
  else
    bnd (fX9_fitsReadings x5_11 s_12) fun r_13 s_14 =>
    bv (fun (x2_15 : Int32) (x3_16 : Int32) (x4_17 : Int32) => 
      bv (x5_11 + 1) fun v_19 =>
      rec21 x2_15 x3_16 x4_17 v_19 s_14)
    fun k_18 =>
    if (b2i r_13) = 0 then
      k_18 x2_8 x3_9 x4_10
    else
      bv (x2_8 + 1) fun v_20 =>
      bv (fun (y_21 : Int32) => 
        k_18 v_20 y_21 x5_11)
      fun k_22 =>
      if x3_9 = (-1) then
        k_22 x5_11
      else
        k_22 x3_9
def fX9_span (a1 : Int32) (s0 : Sg) : Option (Int32 × Sg) :=
  bnd (fX9_within a1 0 2 s0) fun r_1 s_2 =>
  if (b2i r_1) = 0 then
    some ((-1), s_2)
  else
    bv (fun (x2_3 : Int32) (x3_4 : Int32) (x4_5 : Int32) (s_6 : Sg) => 
      if a1 = 0 then
        some (x2_3, s_6)
      else
        if a1 = 1 then
          some (x3_4, s_6)
        else
          some (x4_5, s_6))
    fun k_7 =>
    lo5 (fX9_span_21_b k_7) FU 0 (-1) (-1) 1 s_2
theorem wX9_span_21 {p : Program} {l : Launch} {e : Env} {s : State} {m : MethodId} {args : Array Value} {below : List Frame} {meth : Method} {c : Code} {D : va_G} {ct : Nat → ClassId} {A : Nat → Nat} (C : Cx p m c cX9_span 6 s args yX9_span.cls meth (some .int) D ct A) (a1 : Int32) (k_7 : Int32 → Int32 → Int32 → Sg → Option (Int32 × Sg)) (hk_7 : ∀ (x2_3 : Int32) (x3_4 : Int32) (x4_5 : Int32) (s_6 : Sg), Wm p l e (rmD 5) s m args below meth c D ct A 6 embI 63 [(1, .int a1), (2, .int x2_3), (3, .int x3_4), (4, .int x4_5)] [] s_6 (k_7 x2_3 x3_4 x4_5 s_6)) : ∀ (n : Nat) (x2_8 : Int32) (x3_9 : Int32) (x4_10 : Int32) (x5_11 : Int32) (s_12 : Sg), Wm p l e (rmD 5) s m args below meth c D ct A 6 embI 21 [(0, .ref (A 0)), (1, .int a1), (2, .int x2_8), (3, .int x3_9), (4, .int x4_10), (5, .int x5_11)] [] s_12 (lo5 (fX9_span_21_b k_7) n x2_8 x3_9 x4_10 x5_11 s_12) := by
  intro n
  induction n with
  | zero => intro x2_8 x3_9 x4_10 x5_11 s_12; exact m_none
  | succ n hrec21 =>
    intro x2_8 x3_9 x4_10 x5_11 s_12
    refine (show Wm p l e (rmD 5) s m args below meth c D ct A 6 embI 21 [(0, .ref (A 0)), (1, .int a1), (2, .int x2_8), (3, .int x3_9), (4, .int x4_10), (5, .int x5_11)] [] s_12 (fX9_span_21_b k_7 (lo5 (fX9_span_21_b k_7) n) x2_8 x3_9 x4_10 x5_11 s_12) from ?_)
    generalize lo5 (fX9_span_21_b k_7) n = rec21 at hrec21 ⊢
    unfold fX9_span_21_b
    refine m_iload C dX9_span_21 rfl ?_
    refine m_sipush C dX9_span_23 cs_999 ?_
    refine m_icmp_gt (tgt := 63) C dX9_span_26 rfl ?_ ?_
    · refine m_loc (L2 := [(1, .int a1), (2, .int x2_8), (3, .int x3_9), (4, .int x4_10)]) [1, 2, 3, 4] rfl ?_
      exact hk_7 x2_8 x3_9 x4_10 s_12
    · refine m_aload_n C dX9_span_29 rfl ?_
      refine m_iload C dX9_span_30 rfl ?_
      refine m_callVZ C ml_X9_236 ⟨Nat.le_of_ble_eq_true rfl, Nat.le_of_ble_eq_true rfl⟩ rfl rfl [.int x5_11] [] rfl rfl (Nat.le_of_ble_eq_true rfl) dX9_span_32 (fun o ho => kX9_fitsReadings l D ct A x5_11 s_12 o ho) (fun r_13 s_14 => ?_)
      refine m_jn (P := fun (k_18 : Int32 → Int32 → Int32 → Option (Int32 × Sg)) => ∀ (x2_15 : Int32) (x3_16 : Int32) (x4_17 : Int32), Wm p l e (rmD 5) s m args below meth c D ct A 6 embI 57 [(0, .ref (A 0)), (1, .int a1), (2, .int x2_15), (3, .int x3_16), (4, .int x4_17), (5, .int x5_11)] [] s_14 (k_18 x2_15 x3_16 x4_17)) ?_ (fun k_18 hk_18 => ?_)
      · intro x2_15 x3_16 x4_17
        refine m_iincb (L2 := fun v_19 => [(5, .int v_19), (0, .ref (A 0)), (1, .int a1), (2, .int x2_15), (3, .int x3_16), (4, .int x4_17)]) (q := 5) C dX9_span_57 rfl ci_1 (by decide) (fun _ => rfl) (fun v_19 => ?_)
        refine m_goto (tgt := 21) C dX9_span_60 rfl ?_
        refine m_loc (L2 := [(0, .ref (A 0)), (1, .int a1), (2, .int x2_15), (3, .int x3_16), (4, .int x4_17), (5, .int v_19)]) [1, 2, 3, 4, 5, 0] rfl ?_
        exact hrec21 x2_15 x3_16 x4_17 v_19 s_14
      refine m_if_eq (tgt := 57) C dX9_span_35 rfl ?_ ?_
      · refine m_loc (L2 := [(0, .ref (A 0)), (1, .int a1), (2, .int x2_8), (3, .int x3_9), (4, .int x4_10), (5, .int x5_11)]) [0, 1, 2, 3, 4, 5] rfl ?_
        exact hk_18 x2_8 x3_9 x4_10
      · refine m_iincb (L2 := fun v_20 => [(2, .int v_20), (0, .ref (A 0)), (1, .int a1), (3, .int x3_9), (4, .int x4_10), (5, .int x5_11)]) (q := 2) C dX9_span_38 rfl ci_1 (by decide) (fun _ => rfl) (fun v_20 => ?_)
        refine m_iload C dX9_span_41 rfl ?_
        refine m_istore (L2 := [(4, .int x5_11), (2, .int v_20), (0, .ref (A 0)), (1, .int a1), (3, .int x3_9), (5, .int x5_11)]) C dX9_span_43 (by decide) rfl ?_
        refine m_iload_n C dX9_span_45 rfl ?_
        refine m_iconst C dX9_span_46 ci_m1 ?_
        refine m_jn (P := fun (k_22 : Int32 → Option (Int32 × Sg)) => ∀ (y_21 : Int32), Wm p l e (rmD 5) s m args below meth c D ct A 6 embI 56 [(0, .ref (A 0)), (1, .int a1), (2, .int v_20), (4, .int x5_11), (5, .int x5_11)] [.int y_21] s_14 (k_22 y_21)) ?_ (fun k_22 hk_22 => ?_)
        · intro y_21
          refine m_istore_n (L2 := [(3, .int y_21), (0, .ref (A 0)), (1, .int a1), (2, .int v_20), (4, .int x5_11), (5, .int x5_11)]) C dX9_span_56 rfl (by decide) rfl ?_
          refine m_loc (L2 := [(0, .ref (A 0)), (1, .int a1), (2, .int v_20), (3, .int y_21), (4, .int x5_11), (5, .int x5_11)]) [1, 2, 3, 0, 4, 5] rfl ?_
          exact hk_18 v_20 y_21 x5_11
        refine m_icmp_ne (tgt := 55) C dX9_span_47 rfl ?_ ?_
        · refine m_iload_n C dX9_span_55 rfl ?_
          refine m_loc (L2 := [(0, .ref (A 0)), (1, .int a1), (2, .int v_20), (4, .int x5_11), (5, .int x5_11)]) [2, 3, 1, 0, 5] rfl ?_
          exact hk_22 x3_9
        · refine m_iload C dX9_span_50 rfl ?_
          refine m_goto (tgt := 56) C dX9_span_52 rfl ?_
          refine m_loc (L2 := [(0, .ref (A 0)), (1, .int a1), (2, .int v_20), (4, .int x5_11), (5, .int x5_11)]) [2, 3, 1, 0, 5] rfl ?_
          exact hk_22 x5_11
theorem kX9_span (l : Launch) (D : va_G) (ct : Nat → ClassId) (A : Nat → Nat) (a1 : Int32) (s0 : Sg) (o : Int32 × Sg) (ho : fX9_span a1 s0 = some o) : Con l yX9_span cX9_span 6 (some .int) 5 D ct A [.ref (A 0), .int a1] s0 (embI o) := by
  refine con_start (by decide +kernel) (Nat.le_of_ble_eq_true rfl) ho (fun p e s m args below meth c C => ?_)
  refine m_loc (L2 := [(0, .ref (A 0)), (1, .int a1)]) [0, 1] rfl ?_
  unfold fX9_span
  refine m_iload_n C dX9_span_0 rfl ?_
  refine m_iconst C dX9_span_1 ci_0 ?_
  refine m_iconst C dX9_span_2 ci_2 ?_
  refine m_callSZ C ml_X9_63 ⟨Nat.le_of_ble_eq_true rfl, Nat.le_of_ble_eq_true rfl⟩ [.int a1, .int 0, .int 2] [] rfl rfl (Nat.le_of_ble_eq_true rfl) dX9_span_3 (fun o ho => kX9_within l D ct A a1 0 2 s0 o ho) (fun r_1 s_2 => ?_)
  refine m_if_ne (tgt := 11) C dX9_span_6 rfl ?_ ?_
  · refine m_iconst C dX9_span_11 ci_0 ?_
    refine m_istore_n (L2 := [(2, .int 0), (0, .ref (A 0)), (1, .int a1)]) C dX9_span_12 rfl (by decide) rfl ?_
    refine m_iconst C dX9_span_13 ci_m1 ?_
    refine m_istore_n (L2 := [(3, .int (-1)), (2, .int 0), (0, .ref (A 0)), (1, .int a1)]) C dX9_span_14 rfl (by decide) rfl ?_
    refine m_iconst C dX9_span_15 ci_m1 ?_
    refine m_istore (L2 := [(4, .int (-1)), (3, .int (-1)), (2, .int 0), (0, .ref (A 0)), (1, .int a1)]) C dX9_span_16 (by decide) rfl ?_
    refine m_iconst C dX9_span_18 ci_1 ?_
    refine m_istore (L2 := [(5, .int 1), (4, .int (-1)), (3, .int (-1)), (2, .int 0), (0, .ref (A 0)), (1, .int a1)]) C dX9_span_19 (by decide) rfl ?_
    refine m_jn (P := fun (k_7 : Int32 → Int32 → Int32 → Sg → Option (Int32 × Sg)) => ∀ (x2_3 : Int32) (x3_4 : Int32) (x4_5 : Int32) (s_6 : Sg), Wm p l e (rmD 5) s m args below meth c D ct A 6 embI 63 [(1, .int a1), (2, .int x2_3), (3, .int x3_4), (4, .int x4_5)] [] s_6 (k_7 x2_3 x3_4 x4_5 s_6)) ?_ (fun k_7 hk_7 => ?_)
    · intro x2_3 x3_4 x4_5 s_6
      refine m_iload_n C dX9_span_63 rfl ?_
      refine m_if_ne (tgt := 71) C dX9_span_64 rfl ?_ ?_
      · refine m_iload_n C dX9_span_71 rfl ?_
        refine m_iconst C dX9_span_72 ci_1 ?_
        refine m_icmp_ne (tgt := 80) C dX9_span_73 rfl ?_ ?_
        · refine m_iload C dX9_span_80 rfl ?_
          exact m_iret C dX9_span_82
        · refine m_iload_n C dX9_span_76 rfl ?_
          refine m_goto (tgt := 82) C dX9_span_77 rfl ?_
          exact m_iret C dX9_span_82
      · refine m_iload_n C dX9_span_67 rfl ?_
        refine m_goto (tgt := 82) C dX9_span_68 rfl ?_
        exact m_iret C dX9_span_82
    refine m_loc (L2 := [(0, .ref (A 0)), (1, .int a1), (2, .int 0), (3, .int (-1)), (4, .int (-1)), (5, .int 1)]) [4, 5, 3, 2, 1, 0] rfl ?_
    exact wX9_span_21 C a1 k_7 hk_7 FU 0 (-1) (-1) 1 s_2
  · refine m_iconst C dX9_span_9 ci_m1 ?_
    exact m_iret C dX9_span_10
def fX9_bent_45_b (x5_12 : Int32) (k_17 : Int32 → Int32 → Sg → Option (Int32 × Sg)) (rec45 : Int32 → Int32 → Int32 → Sg → Option (Int32 × Sg)) (x3_19 : Int32) (x4_20 : Int32) (x6_21 : Int32) (s_22 : Sg) : Option (Int32 × Sg) :=
  if 20 < x6_21 then
    k_17 x3_19 x4_20 s_22
  else
    bnd (fX9_armsFitReadings x5_12 x6_21 s_22) fun r_23 s_24 =>
    bv (fun (x3_25 : Int32) (x4_26 : Int32) => 
      bv (x6_21 + 1) fun v_28 =>
      rec45 x3_25 x4_26 v_28 s_24)
    fun k_27 =>
    if (b2i r_23) = 0 then
      k_27 x3_19 x4_20
    else
      bv (x3_19 + 1) fun v_29 =>
      bv (fun (y_30 : Int32) => 
        k_27 v_29 y_30)
      fun k_31 =>
      if x4_20 = (-1) then
        k_31 ((100 * x5_12) + x6_21)
      else
        k_31 x4_20
def fX9_bent_35_b (k_9 : Int32 → Int32 → Sg → Option (Int32 × Sg)) (rec35 : Int32 → Int32 → Int32 → Sg → Option (Int32 × Sg)) (x3_10 : Int32) (x4_11 : Int32) (x5_12 : Int32) (s_13 : Sg) : Option (Int32 × Sg) :=
  if 20 < x5_12 then
    k_9 x3_10 x4_11 s_13
  else
    bv (fun (x3_14 : Int32) (x4_15 : Int32) (s_16 : Sg) => 
      bv (x5_12 + 1) fun v_18 =>
      rec35 x3_14 x4_15 v_18 s_16)
    fun k_17 =>
    lo4 (fX9_bent_45_b x5_12 k_17) FU x3_10 x4_11 1 s_13
def fX9_bent (a1 : Int32) (a2 : Int32) (s0 : Sg) : Option (Int32 × Sg) :=
  bnd (fX9_within a1 1 999 s0) fun r_1 s_2 =>
  if (b2i r_1) = 0 then
    some ((-1), s_2)
  else
    bnd (fX9_within a2 0 1 s_2) fun r_3 s_4 =>
    if (b2i r_3) = 0 then
      some ((-1), s_4)
    else
      bnv (fX9_bearUnknown a1 s_4) fun s_5 =>
      bv (fun (x3_6 : Int32) (x4_7 : Int32) (s_8 : Sg) => 
        if a2 = 0 then
          some (x3_6, s_8)
        else
          some (x4_7, s_8))
      fun k_9 =>
      lo4 (fX9_bent_35_b k_9) FU 0 (-1) 1 s_5
theorem wX9_bent_45 {p : Program} {l : Launch} {e : Env} {s : State} {m : MethodId} {args : Array Value} {below : List Frame} {meth : Method} {c : Code} {D : va_G} {ct : Nat → ClassId} {A : Nat → Nat} (C : Cx p m c cX9_bent 7 s args yX9_bent.cls meth (some .int) D ct A) (a2 : Int32) (x5_12 : Int32) (k_17 : Int32 → Int32 → Sg → Option (Int32 × Sg)) (hk_17 : ∀ (x3_14 : Int32) (x4_15 : Int32) (s_16 : Sg), Wm p l e (rmD 5) s m args below meth c D ct A 7 embI 93 [(0, .ref (A 0)), (2, .int a2), (3, .int x3_14), (4, .int x4_15), (5, .int x5_12)] [] s_16 (k_17 x3_14 x4_15 s_16)) : ∀ (n : Nat) (x3_19 : Int32) (x4_20 : Int32) (x6_21 : Int32) (s_22 : Sg), Wm p l e (rmD 5) s m args below meth c D ct A 7 embI 45 [(0, .ref (A 0)), (2, .int a2), (3, .int x3_19), (4, .int x4_20), (5, .int x5_12), (6, .int x6_21)] [] s_22 (lo4 (fX9_bent_45_b x5_12 k_17) n x3_19 x4_20 x6_21 s_22) := by
  intro n
  induction n with
  | zero => intro x3_19 x4_20 x6_21 s_22; exact m_none
  | succ n hrec45 =>
    intro x3_19 x4_20 x6_21 s_22
    refine (show Wm p l e (rmD 5) s m args below meth c D ct A 7 embI 45 [(0, .ref (A 0)), (2, .int a2), (3, .int x3_19), (4, .int x4_20), (5, .int x5_12), (6, .int x6_21)] [] s_22 (fX9_bent_45_b x5_12 k_17 (lo4 (fX9_bent_45_b x5_12 k_17) n) x3_19 x4_20 x6_21 s_22) from ?_)
    generalize lo4 (fX9_bent_45_b x5_12 k_17) n = rec45 at hrec45 ⊢
    unfold fX9_bent_45_b
    refine m_iload C dX9_bent_45 rfl ?_
    refine m_bipush C dX9_bent_47 cb_20 ?_
    refine m_icmp_gt (tgt := 93) C dX9_bent_49 rfl ?_ ?_
    · refine m_loc (L2 := [(0, .ref (A 0)), (2, .int a2), (3, .int x3_19), (4, .int x4_20), (5, .int x5_12)]) [0, 1, 2, 3, 4] rfl ?_
      exact hk_17 x3_19 x4_20 s_22
    · refine m_aload_n C dX9_bent_52 rfl ?_
      refine m_iload C dX9_bent_53 rfl ?_
      refine m_iload C dX9_bent_55 rfl ?_
      refine m_callVZ C ml_X9_242 ⟨Nat.le_of_ble_eq_true rfl, Nat.le_of_ble_eq_true rfl⟩ rfl rfl [.int x5_12, .int x6_21] [] rfl rfl (Nat.le_of_ble_eq_true rfl) dX9_bent_57 (fun o ho => kX9_armsFitReadings l D ct A x5_12 x6_21 s_22 o ho) (fun r_23 s_24 => ?_)
      refine m_jn (P := fun (k_27 : Int32 → Int32 → Option (Int32 × Sg)) => ∀ (x3_25 : Int32) (x4_26 : Int32), Wm p l e (rmD 5) s m args below meth c D ct A 7 embI 87 [(0, .ref (A 0)), (2, .int a2), (3, .int x3_25), (4, .int x4_26), (5, .int x5_12), (6, .int x6_21)] [] s_24 (k_27 x3_25 x4_26)) ?_ (fun k_27 hk_27 => ?_)
      · intro x3_25 x4_26
        refine m_iincb (L2 := fun v_28 => [(6, .int v_28), (0, .ref (A 0)), (2, .int a2), (3, .int x3_25), (4, .int x4_26), (5, .int x5_12)]) (q := 5) C dX9_bent_87 rfl ci_1 (by decide) (fun _ => rfl) (fun v_28 => ?_)
        refine m_goto (tgt := 45) C dX9_bent_90 rfl ?_
        refine m_loc (L2 := [(0, .ref (A 0)), (2, .int a2), (3, .int x3_25), (4, .int x4_26), (5, .int x5_12), (6, .int v_28)]) [1, 2, 3, 4, 5, 0] rfl ?_
        exact hrec45 x3_25 x4_26 v_28 s_24
      refine m_if_eq (tgt := 87) C dX9_bent_60 rfl ?_ ?_
      · refine m_loc (L2 := [(0, .ref (A 0)), (2, .int a2), (3, .int x3_19), (4, .int x4_20), (5, .int x5_12), (6, .int x6_21)]) [0, 1, 2, 3, 4, 5] rfl ?_
        exact hk_27 x3_19 x4_20
      · refine m_iincb (L2 := fun v_29 => [(3, .int v_29), (0, .ref (A 0)), (2, .int a2), (4, .int x4_20), (5, .int x5_12), (6, .int x6_21)]) (q := 2) C dX9_bent_63 rfl ci_1 (by decide) (fun _ => rfl) (fun v_29 => ?_)
        refine m_iload C dX9_bent_66 rfl ?_
        refine m_iconst C dX9_bent_68 ci_m1 ?_
        refine m_jn (P := fun (k_31 : Int32 → Option (Int32 × Sg)) => ∀ (y_30 : Int32), Wm p l e (rmD 5) s m args below meth c D ct A 7 embI 85 [(0, .ref (A 0)), (2, .int a2), (3, .int v_29), (5, .int x5_12), (6, .int x6_21)] [.int y_30] s_24 (k_31 y_30)) ?_ (fun k_31 hk_31 => ?_)
        · intro y_30
          refine m_istore (L2 := [(4, .int y_30), (0, .ref (A 0)), (2, .int a2), (3, .int v_29), (5, .int x5_12), (6, .int x6_21)]) C dX9_bent_85 (by decide) rfl ?_
          refine m_loc (L2 := [(0, .ref (A 0)), (2, .int a2), (3, .int v_29), (4, .int y_30), (5, .int x5_12), (6, .int x6_21)]) [1, 2, 3, 0, 4, 5] rfl ?_
          exact hk_27 v_29 y_30
        refine m_icmp_ne (tgt := 83) C dX9_bent_69 rfl ?_ ?_
        · refine m_iload C dX9_bent_83 rfl ?_
          refine m_loc (L2 := [(0, .ref (A 0)), (2, .int a2), (3, .int v_29), (5, .int x5_12), (6, .int x6_21)]) [1, 2, 0, 4, 5] rfl ?_
          exact hk_31 x4_20
        · refine m_bipush C dX9_bent_72 cb_100 ?_
          refine m_iload C dX9_bent_74 rfl ?_
          refine m_imul C dX9_bent_76 ?_
          refine m_iload C dX9_bent_77 rfl ?_
          refine m_iadd C dX9_bent_79 ?_
          refine m_goto (tgt := 85) C dX9_bent_80 rfl ?_
          refine m_loc (L2 := [(0, .ref (A 0)), (2, .int a2), (3, .int v_29), (5, .int x5_12), (6, .int x6_21)]) [1, 2, 0, 4, 5] rfl ?_
          exact hk_31 ((100 * x5_12) + x6_21)
theorem wX9_bent_35 {p : Program} {l : Launch} {e : Env} {s : State} {m : MethodId} {args : Array Value} {below : List Frame} {meth : Method} {c : Code} {D : va_G} {ct : Nat → ClassId} {A : Nat → Nat} (C : Cx p m c cX9_bent 7 s args yX9_bent.cls meth (some .int) D ct A) (a2 : Int32) (k_9 : Int32 → Int32 → Sg → Option (Int32 × Sg)) (hk_9 : ∀ (x3_6 : Int32) (x4_7 : Int32) (s_8 : Sg), Wm p l e (rmD 5) s m args below meth c D ct A 7 embI 99 [(2, .int a2), (3, .int x3_6), (4, .int x4_7)] [] s_8 (k_9 x3_6 x4_7 s_8)) : ∀ (n : Nat) (x3_10 : Int32) (x4_11 : Int32) (x5_12 : Int32) (s_13 : Sg), Wm p l e (rmD 5) s m args below meth c D ct A 7 embI 35 [(0, .ref (A 0)), (2, .int a2), (3, .int x3_10), (4, .int x4_11), (5, .int x5_12)] [] s_13 (lo4 (fX9_bent_35_b k_9) n x3_10 x4_11 x5_12 s_13) := by
  intro n
  induction n with
  | zero => intro x3_10 x4_11 x5_12 s_13; exact m_none
  | succ n hrec35 =>
    intro x3_10 x4_11 x5_12 s_13
    refine (show Wm p l e (rmD 5) s m args below meth c D ct A 7 embI 35 [(0, .ref (A 0)), (2, .int a2), (3, .int x3_10), (4, .int x4_11), (5, .int x5_12)] [] s_13 (fX9_bent_35_b k_9 (lo4 (fX9_bent_35_b k_9) n) x3_10 x4_11 x5_12 s_13) from ?_)
    generalize lo4 (fX9_bent_35_b k_9) n = rec35 at hrec35 ⊢
    unfold fX9_bent_35_b
    refine m_iload C dX9_bent_35 rfl ?_
    refine m_bipush C dX9_bent_37 cb_20 ?_
    refine m_icmp_gt (tgt := 99) C dX9_bent_39 rfl ?_ ?_
    · refine m_loc (L2 := [(2, .int a2), (3, .int x3_10), (4, .int x4_11)]) [1, 2, 3] rfl ?_
      exact hk_9 x3_10 x4_11 s_13
    · refine m_iconst C dX9_bent_42 ci_1 ?_
      refine m_istore (L2 := [(6, .int 1), (0, .ref (A 0)), (2, .int a2), (3, .int x3_10), (4, .int x4_11), (5, .int x5_12)]) C dX9_bent_43 (by decide) rfl ?_
      refine m_jn (P := fun (k_17 : Int32 → Int32 → Sg → Option (Int32 × Sg)) => ∀ (x3_14 : Int32) (x4_15 : Int32) (s_16 : Sg), Wm p l e (rmD 5) s m args below meth c D ct A 7 embI 93 [(0, .ref (A 0)), (2, .int a2), (3, .int x3_14), (4, .int x4_15), (5, .int x5_12)] [] s_16 (k_17 x3_14 x4_15 s_16)) ?_ (fun k_17 hk_17 => ?_)
      · intro x3_14 x4_15 s_16
        refine m_iincb (L2 := fun v_18 => [(5, .int v_18), (0, .ref (A 0)), (2, .int a2), (3, .int x3_14), (4, .int x4_15)]) (q := 4) C dX9_bent_93 rfl ci_1 (by decide) (fun _ => rfl) (fun v_18 => ?_)
        refine m_goto (tgt := 35) C dX9_bent_96 rfl ?_
        refine m_loc (L2 := [(0, .ref (A 0)), (2, .int a2), (3, .int x3_14), (4, .int x4_15), (5, .int v_18)]) [1, 2, 3, 4, 0] rfl ?_
        exact hrec35 x3_14 x4_15 v_18 s_16
      refine m_loc (L2 := [(0, .ref (A 0)), (2, .int a2), (3, .int x3_10), (4, .int x4_11), (5, .int x5_12), (6, .int 1)]) [1, 2, 3, 4, 5, 0] rfl ?_
      exact wX9_bent_45 C a2 x5_12 k_17 hk_17 FU x3_10 x4_11 1 s_13
theorem kX9_bent (l : Launch) (D : va_G) (ct : Nat → ClassId) (A : Nat → Nat) (a1 : Int32) (a2 : Int32) (s0 : Sg) (o : Int32 × Sg) (ho : fX9_bent a1 a2 s0 = some o) : Con l yX9_bent cX9_bent 7 (some .int) 5 D ct A [.ref (A 0), .int a1, .int a2] s0 (embI o) := by
  refine con_start (by decide +kernel) (Nat.le_of_ble_eq_true rfl) ho (fun p e s m args below meth c C => ?_)
  refine m_loc (L2 := [(0, .ref (A 0)), (1, .int a1), (2, .int a2)]) [0, 1, 2] rfl ?_
  unfold fX9_bent
  refine m_iload_n C dX9_bent_0 rfl ?_
  refine m_iconst C dX9_bent_1 ci_1 ?_
  refine m_sipush C dX9_bent_2 cs_999 ?_
  refine m_callSZ C ml_X9_63 ⟨Nat.le_of_ble_eq_true rfl, Nat.le_of_ble_eq_true rfl⟩ [.int a1, .int 1, .int 999] [] rfl rfl (Nat.le_of_ble_eq_true rfl) dX9_bent_5 (fun o ho => kX9_within l D ct A a1 1 999 s0 o ho) (fun r_1 s_2 => ?_)
  refine m_if_eq (tgt := 20) C dX9_bent_8 rfl ?_ ?_
  · refine m_iconst C dX9_bent_20 ci_m1 ?_
    exact m_iret C dX9_bent_21
  · refine m_iload_n C dX9_bent_11 rfl ?_
    refine m_iconst C dX9_bent_12 ci_0 ?_
    refine m_iconst C dX9_bent_13 ci_1 ?_
    refine m_callSZ C ml_X9_63 ⟨Nat.le_of_ble_eq_true rfl, Nat.le_of_ble_eq_true rfl⟩ [.int a2, .int 0, .int 1] [] rfl rfl (Nat.le_of_ble_eq_true rfl) dX9_bent_14 (fun o ho => kX9_within l D ct A a2 0 1 s_2 o ho) (fun r_3 s_4 => ?_)
    refine m_if_ne (tgt := 22) C dX9_bent_17 rfl ?_ ?_
    · refine m_aload_n C dX9_bent_22 rfl ?_
      refine m_iload_n C dX9_bent_23 rfl ?_
      refine m_callVV C ml_X9_239 ⟨Nat.le_of_ble_eq_true rfl, Nat.le_of_ble_eq_true rfl⟩ rfl rfl [.int a1] [] rfl rfl (Nat.le_of_ble_eq_true rfl) dX9_bent_24 (fun o ho => kX9_bearUnknown l D ct A a1 s_4 o ho) (fun s_5 => ?_)
      refine m_iconst C dX9_bent_27 ci_0 ?_
      refine m_istore_n (L2 := [(3, .int 0), (0, .ref (A 0)), (1, .int a1), (2, .int a2)]) C dX9_bent_28 rfl (by decide) rfl ?_
      refine m_iconst C dX9_bent_29 ci_m1 ?_
      refine m_istore (L2 := [(4, .int (-1)), (3, .int 0), (0, .ref (A 0)), (1, .int a1), (2, .int a2)]) C dX9_bent_30 (by decide) rfl ?_
      refine m_iconst C dX9_bent_32 ci_1 ?_
      refine m_istore (L2 := [(5, .int 1), (4, .int (-1)), (3, .int 0), (0, .ref (A 0)), (1, .int a1), (2, .int a2)]) C dX9_bent_33 (by decide) rfl ?_
      refine m_jn (P := fun (k_9 : Int32 → Int32 → Sg → Option (Int32 × Sg)) => ∀ (x3_6 : Int32) (x4_7 : Int32) (s_8 : Sg), Wm p l e (rmD 5) s m args below meth c D ct A 7 embI 99 [(2, .int a2), (3, .int x3_6), (4, .int x4_7)] [] s_8 (k_9 x3_6 x4_7 s_8)) ?_ (fun k_9 hk_9 => ?_)
      · intro x3_6 x4_7 s_8
        refine m_iload_n C dX9_bent_99 rfl ?_
        refine m_if_ne (tgt := 107) C dX9_bent_100 rfl ?_ ?_
        · refine m_iload C dX9_bent_107 rfl ?_
          exact m_iret C dX9_bent_109
        · refine m_iload_n C dX9_bent_103 rfl ?_
          refine m_goto (tgt := 109) C dX9_bent_104 rfl ?_
          exact m_iret C dX9_bent_109
      refine m_loc (L2 := [(0, .ref (A 0)), (2, .int a2), (3, .int 0), (4, .int (-1)), (5, .int 1)]) [3, 5, 2, 1, 0] rfl ?_
      exact wX9_bent_35 C a2 k_9 hk_9 FU 0 (-1) 1 s_5
    · refine m_iconst C dX9_bent_20 ci_m1 ?_
      exact m_iret C dX9_bent_21
def fX9_lay (a1 : Int32) (a2 : Int32) (s0 : Sg) : Option (Bool × Sg) :=
  bnd (fX9_within a1 0 ((gi s0 1 6) - 1) s0) fun r_1 s_2 =>
  if (b2i r_1) = 0 then
    some (false, s_2)
  else
    bnd (fX9_isPan a2 s_2) fun r_3 s_4 =>
    if (b2i r_3) = 0 then
      some (false, s_4)
    else
      bnd (fX6_panOf a1 s_4) fun r_5 s_6 =>
      if r_5 = (-1) then
        bv (1 <<< (a1 &&& 31)) fun v_7 =>
        if a2 = 0 then
          bnd (fX9_rearrange ((gi s_6 1 9) ||| v_7) (gi s_6 1 10) s_6) fun r_12 s_13 =>
          some (r_12, s_13)
        else
          bnd (fX9_rearrange (gi s_6 1 9) ((gi s_6 1 10) ||| v_7) s_6) fun r_10 s_11 =>
          some (r_10, s_11)
      else
        some (false, s_6)
theorem kX9_lay (l : Launch) (D : va_G) (ct : Nat → ClassId) (A : Nat → Nat) (a1 : Int32) (a2 : Int32) (s0 : Sg) (o : Bool × Sg) (ho : fX9_lay a1 a2 s0 = some o) : Con l yX9_lay cX9_lay 4 (some .boolean) 5 D ct A [.ref (A 0), .int a1, .int a2] s0 (embZ o) := by
  refine con_start (by decide +kernel) (Nat.le_of_ble_eq_true rfl) ho (fun p e s m args below meth c C => ?_)
  refine m_loc (L2 := [(0, .ref (A 0)), (1, .int a1), (2, .int a2)]) [0, 1, 2] rfl ?_
  unfold fX9_lay
  refine m_iload_n C dX9_lay_0 rfl ?_
  refine m_iconst C dX9_lay_1 ci_0 ?_
  refine m_aload_n C dX9_lay_2 rfl ?_
  refine m_get (v := .ref (A 1)) C fl_X9_10_8 rfl (by decide) rfl dX9_lay_3 ?_
  refine m_get (v := .int (gi s0 1 6)) C fl_X9_77_6 rfl (by decide) rfl dX9_lay_6 ?_
  refine m_iconst C dX9_lay_9 ci_1 ?_
  refine m_isub C dX9_lay_10 ?_
  refine m_callSZ C ml_X9_63 ⟨Nat.le_of_ble_eq_true rfl, Nat.le_of_ble_eq_true rfl⟩ [.int a1, .int 0, .int ((gi s0 1 6) - 1)] [] rfl rfl (Nat.le_of_ble_eq_true rfl) dX9_lay_11 (fun o ho => kX9_within l D ct A a1 0 ((gi s0 1 6) - 1) s0 o ho) (fun r_1 s_2 => ?_)
  refine m_if_eq (tgt := 36) C dX9_lay_14 rfl ?_ ?_
  · refine m_iconst C dX9_lay_36 ci_0 ?_
    exact m_zret C false rfl dX9_lay_37
  · refine m_iload_n C dX9_lay_17 rfl ?_
    refine m_callSZ C ml_X9_212 ⟨Nat.le_of_ble_eq_true rfl, Nat.le_of_ble_eq_true rfl⟩ [.int a2] [] rfl rfl (Nat.le_of_ble_eq_true rfl) dX9_lay_18 (fun o ho => kX9_isPan l D ct A a2 s_2 o ho) (fun r_3 s_4 => ?_)
    refine m_if_eq (tgt := 36) C dX9_lay_21 rfl ?_ ?_
    · refine m_iconst C dX9_lay_36 ci_0 ?_
      exact m_zret C false rfl dX9_lay_37
    · refine m_aload_n C dX9_lay_24 rfl ?_
      refine m_get (v := .ref (A 1)) C fl_X9_10_8 rfl (by decide) rfl dX9_lay_25 ?_
      refine m_iload_n C dX9_lay_28 rfl ?_
      refine m_callVI C ml_X9_137 ⟨Nat.le_of_ble_eq_true rfl, Nat.le_of_ble_eq_true rfl⟩ rfl rfl [.int a1] [] rfl rfl (Nat.le_of_ble_eq_true rfl) dX9_lay_29 (fun o ho => kX6_panOf l D ct A a1 s_4 o ho) (fun r_5 s_6 => ?_)
      refine m_iconst C dX9_lay_32 ci_m1 ?_
      refine m_icmp_eq (tgt := 38) C dX9_lay_33 rfl ?_ ?_
      · refine m_iconst C dX9_lay_38 ci_1 ?_
        refine m_iload_n C dX9_lay_39 rfl ?_
        refine m_ishl C dX9_lay_40 ?_
        refine m_let (fun v_7 => ?_)
        refine m_istore_n (L2 := [(3, .int v_7), (0, .ref (A 0)), (1, .int a1), (2, .int a2)]) C dX9_lay_41 rfl (by decide) rfl ?_
        refine m_iload_n C dX9_lay_42 rfl ?_
        refine m_if_ne (tgt := 69) C dX9_lay_43 rfl ?_ ?_
        · refine m_aload_n C dX9_lay_69 rfl ?_
          refine m_aload_n C dX9_lay_70 rfl ?_
          refine m_get (v := .ref (A 1)) C fl_X9_10_8 rfl (by decide) rfl dX9_lay_71 ?_
          refine m_get (v := .int (gi s_6 1 9)) C fl_X9_258_6 rfl (by decide) rfl dX9_lay_74 ?_
          refine m_aload_n C dX9_lay_77 rfl ?_
          refine m_get (v := .ref (A 1)) C fl_X9_10_8 rfl (by decide) rfl dX9_lay_78 ?_
          refine m_get (v := .int (gi s_6 1 10)) C fl_X9_259_6 rfl (by decide) rfl dX9_lay_81 ?_
          refine m_iload_n C dX9_lay_84 rfl ?_
          refine m_ior C dX9_lay_85 ?_
          refine m_callVZ C ml_X9_273 ⟨Nat.le_of_ble_eq_true rfl, Nat.le_of_ble_eq_true rfl⟩ rfl rfl [.int (gi s_6 1 9), .int ((gi s_6 1 10) ||| v_7)] [] rfl rfl (Nat.le_of_ble_eq_true rfl) dX9_lay_86 (fun o ho => kX9_rearrange l D ct A (gi s_6 1 9) ((gi s_6 1 10) ||| v_7) s_6 o ho) (fun r_10 s_11 => ?_)
          exact m_zret C r_10 rfl dX9_lay_89
        · refine m_aload_n C dX9_lay_46 rfl ?_
          refine m_aload_n C dX9_lay_47 rfl ?_
          refine m_get (v := .ref (A 1)) C fl_X9_10_8 rfl (by decide) rfl dX9_lay_48 ?_
          refine m_get (v := .int (gi s_6 1 9)) C fl_X9_258_6 rfl (by decide) rfl dX9_lay_51 ?_
          refine m_iload_n C dX9_lay_54 rfl ?_
          refine m_ior C dX9_lay_55 ?_
          refine m_aload_n C dX9_lay_56 rfl ?_
          refine m_get (v := .ref (A 1)) C fl_X9_10_8 rfl (by decide) rfl dX9_lay_57 ?_
          refine m_get (v := .int (gi s_6 1 10)) C fl_X9_259_6 rfl (by decide) rfl dX9_lay_60 ?_
          refine m_callVZ C ml_X9_273 ⟨Nat.le_of_ble_eq_true rfl, Nat.le_of_ble_eq_true rfl⟩ rfl rfl [.int ((gi s_6 1 9) ||| v_7), .int (gi s_6 1 10)] [] rfl rfl (Nat.le_of_ble_eq_true rfl) dX9_lay_63 (fun o ho => kX9_rearrange l D ct A ((gi s_6 1 9) ||| v_7) (gi s_6 1 10) s_6 o ho) (fun r_12 s_13 => ?_)
          refine m_goto (tgt := 89) C dX9_lay_66 rfl ?_
          exact m_zret C r_12 rfl dX9_lay_89
      · refine m_iconst C dX9_lay_36 ci_0 ?_
        exact m_zret C false rfl dX9_lay_37
