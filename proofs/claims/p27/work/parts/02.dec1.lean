theorem dX4_valueOf_130 : decode cX4_valueOf 130 = .ok (.iconst 1, 1) := by decide +kernel
theorem dX4_valueOf_131 : decode cX4_valueOf 131 = .ok (.aload_n 0, 1) := by decide +kernel
theorem dX4_valueOf_132 : decode cX4_valueOf 132 = .ok (.getfield 15, 3) := by decide +kernel
theorem dX4_valueOf_135 : decode cX4_valueOf 135 = .ok (.iload 4, 2) := by decide +kernel
theorem dX4_valueOf_137 : decode cX4_valueOf 137 = .ok (.iaload, 1) := by decide +kernel
theorem dX4_valueOf_138 : decode cX4_valueOf 138 = .ok (.isub, 1) := by decide +kernel
theorem dX4_valueOf_139 : decode cX4_valueOf 139 = .ok (.iastore, 1) := by decide +kernel
theorem dX4_valueOf_140 : decode cX4_valueOf 140 = .ok (.goto 45, 3) := by decide +kernel
theorem dX4_valueOf_143 : decode cX4_valueOf 143 = .ok (.iload 4, 2) := by decide +kernel
theorem dX4_valueOf_145 : decode cX4_valueOf 145 = .ok (.iconst 1, 1) := by decide +kernel
theorem dX4_valueOf_146 : decode cX4_valueOf 146 = .ok (.if_icmp .lt 39, 3) := by decide +kernel
theorem dX4_valueOf_149 : decode cX4_valueOf 149 = .ok (.iinc 4 (-1), 3) := by decide +kernel
theorem dX4_valueOf_152 : decode cX4_valueOf 152 = .ok (.aload_n 0, 1) := by decide +kernel
theorem dX4_valueOf_153 : decode cX4_valueOf 153 = .ok (.getfield 15, 3) := by decide +kernel
theorem dX4_valueOf_156 : decode cX4_valueOf 156 = .ok (.iload 4, 2) := by decide +kernel
theorem dX4_valueOf_158 : decode cX4_valueOf 158 = .ok (.iload 7, 2) := by decide +kernel
theorem dX4_valueOf_160 : decode cX4_valueOf 160 = .ok (.aload_n 0, 1) := by decide +kernel
theorem dX4_valueOf_161 : decode cX4_valueOf 161 = .ok (.getfield 15, 3) := by decide +kernel
theorem dX4_valueOf_164 : decode cX4_valueOf 164 = .ok (.iload 4, 2) := by decide +kernel
theorem dX4_valueOf_166 : decode cX4_valueOf 166 = .ok (.iaload, 1) := by decide +kernel
theorem dX4_valueOf_167 : decode cX4_valueOf 167 = .ok (.i2l, 1) := by decide +kernel
theorem dX4_valueOf_168 : decode cX4_valueOf 168 = .ok (.aload_n 0, 1) := by decide +kernel
theorem dX4_valueOf_169 : decode cX4_valueOf 169 = .ok (.getfield 15, 3) := by decide +kernel
theorem dX4_valueOf_172 : decode cX4_valueOf 172 = .ok (.iload 4, 2) := by decide +kernel
theorem dX4_valueOf_174 : decode cX4_valueOf 174 = .ok (.iconst 1, 1) := by decide +kernel
theorem dX4_valueOf_175 : decode cX4_valueOf 175 = .ok (.iadd, 1) := by decide +kernel
theorem dX4_valueOf_176 : decode cX4_valueOf 176 = .ok (.iaload, 1) := by decide +kernel
theorem dX4_valueOf_177 : decode cX4_valueOf 177 = .ok (.i2l, 1) := by decide +kernel
theorem dX4_valueOf_178 : decode cX4_valueOf 178 = .ok (.invokestatic 88, 3) := by decide +kernel
theorem dX4_valueOf_181 : decode cX4_valueOf 181 = .ok (.invokestatic 75, 3) := by decide +kernel
theorem dX4_valueOf_184 : decode cX4_valueOf 184 = .ok (.iastore, 1) := by decide +kernel
theorem dX4_valueOf_185 : decode cX4_valueOf 185 = .ok (.iinc 5 1, 3) := by decide +kernel
theorem dX4_valueOf_188 : decode cX4_valueOf 188 = .ok (.goto (-182), 3) := by decide +kernel
theorem dX4_valueOf_191 : decode cX4_valueOf 191 = .ok (.iload 4, 2) := by decide +kernel
theorem dX4_valueOf_193 : decode cX4_valueOf 193 = .ok (.ifCond .ne 12, 3) := by decide +kernel
theorem dX4_valueOf_196 : decode cX4_valueOf 196 = .ok (.aload_n 0, 1) := by decide +kernel
theorem dX4_valueOf_197 : decode cX4_valueOf 197 = .ok (.getfield 15, 3) := by decide +kernel
theorem dX4_valueOf_200 : decode cX4_valueOf 200 = .ok (.iconst 0, 1) := by decide +kernel
theorem dX4_valueOf_201 : decode cX4_valueOf 201 = .ok (.iaload, 1) := by decide +kernel
theorem dX4_valueOf_202 : decode cX4_valueOf 202 = .ok (.goto 4, 3) := by decide +kernel
theorem dX4_valueOf_205 : decode cX4_valueOf 205 = .ok (.iconst 0, 1) := by decide +kernel
theorem dX4_valueOf_206 : decode cX4_valueOf 206 = .ok (.ireturn, 1) := by decide +kernel
theorem dX4_held_0 : decode cX4_held 0 = .ok (.lload_n 0, 1) := by decide +kernel
theorem dX4_held_1 : decode cX4_held 1 = .ok (.ldc2_w 92, 3) := by decide +kernel
theorem dX4_held_4 : decode cX4_held 4 = .ok (.lcmp, 1) := by decide +kernel
theorem dX4_held_5 : decode cX4_held 5 = .ok (.ifCond .le 6, 3) := by decide +kernel
theorem dX4_held_8 : decode cX4_held 8 = .ok (.ldc 94, 2) := by decide +kernel
theorem dX4_held_10 : decode cX4_held 10 = .ok (.ireturn, 1) := by decide +kernel
theorem dX4_held_11 : decode cX4_held 11 = .ok (.lload_n 0, 1) := by decide +kernel
theorem dX4_held_12 : decode cX4_held 12 = .ok (.ldc2_w 95, 3) := by decide +kernel
theorem dX4_held_15 : decode cX4_held 15 = .ok (.lcmp, 1) := by decide +kernel
theorem dX4_held_16 : decode cX4_held 16 = .ok (.ifCond .ge 8, 3) := by decide +kernel
theorem dX4_held_19 : decode cX4_held 19 = .ok (.ldc 97, 2) := by decide +kernel
theorem dX4_held_21 : decode cX4_held 21 = .ok (.goto 5, 3) := by decide +kernel
theorem dX4_held_24 : decode cX4_held 24 = .ok (.lload_n 0, 1) := by decide +kernel
theorem dX4_held_25 : decode cX4_held 25 = .ok (.l2i, 1) := by decide +kernel
theorem dX4_held_26 : decode cX4_held 26 = .ok (.ireturn, 1) := by decide +kernel
theorem dX4_joined_0 : decode cX4_joined 0 = .ok (.iload_n 0, 1) := by decide +kernel
theorem dX4_joined_1 : decode cX4_joined 1 = .ok (.tableswitch 197 1 13 #[67, 73, 197, 79, 93, 107, 121, 135, 149, 163, 169, 175, 181], 67) := by decide +kernel
theorem dX4_joined_68 : decode cX4_joined 68 = .ok (.lload_n 1, 1) := by decide +kernel
theorem dX4_joined_69 : decode cX4_joined 69 = .ok (.lload_n 3, 1) := by decide +kernel
theorem dX4_joined_70 : decode cX4_joined 70 = .ok (.lor, 1) := by decide +kernel
theorem dX4_joined_71 : decode cX4_joined 71 = .ok (.goto 128, 3) := by decide +kernel
theorem dX4_joined_74 : decode cX4_joined 74 = .ok (.lload_n 1, 1) := by decide +kernel
theorem dX4_joined_75 : decode cX4_joined 75 = .ok (.lload_n 3, 1) := by decide +kernel
theorem dX4_joined_76 : decode cX4_joined 76 = .ok (.land, 1) := by decide +kernel
theorem dX4_joined_77 : decode cX4_joined 77 = .ok (.goto 122, 3) := by decide +kernel
theorem dX4_joined_80 : decode cX4_joined 80 = .ok (.lload_n 1, 1) := by decide +kernel
theorem dX4_joined_81 : decode cX4_joined 81 = .ok (.lload_n 3, 1) := by decide +kernel
theorem dX4_joined_82 : decode cX4_joined 82 = .ok (.lcmp, 1) := by decide +kernel
theorem dX4_joined_83 : decode cX4_joined 83 = .ok (.ifCond .ge 7, 3) := by decide +kernel
theorem dX4_joined_86 : decode cX4_joined 86 = .ok (.lconst 1, 1) := by decide +kernel
theorem dX4_joined_87 : decode cX4_joined 87 = .ok (.goto 112, 3) := by decide +kernel
theorem dX4_joined_90 : decode cX4_joined 90 = .ok (.lconst 0, 1) := by decide +kernel
theorem dX4_joined_91 : decode cX4_joined 91 = .ok (.goto 108, 3) := by decide +kernel
theorem dX4_joined_94 : decode cX4_joined 94 = .ok (.lload_n 1, 1) := by decide +kernel
theorem dX4_joined_95 : decode cX4_joined 95 = .ok (.lload_n 3, 1) := by decide +kernel
theorem dX4_joined_96 : decode cX4_joined 96 = .ok (.lcmp, 1) := by decide +kernel
theorem dX4_joined_97 : decode cX4_joined 97 = .ok (.ifCond .gt 7, 3) := by decide +kernel
theorem dX4_joined_100 : decode cX4_joined 100 = .ok (.lconst 1, 1) := by decide +kernel
theorem dX4_joined_101 : decode cX4_joined 101 = .ok (.goto 98, 3) := by decide +kernel
theorem dX4_joined_104 : decode cX4_joined 104 = .ok (.lconst 0, 1) := by decide +kernel
theorem dX4_joined_105 : decode cX4_joined 105 = .ok (.goto 94, 3) := by decide +kernel
theorem dX4_joined_108 : decode cX4_joined 108 = .ok (.lload_n 1, 1) := by decide +kernel
theorem dX4_joined_109 : decode cX4_joined 109 = .ok (.lload_n 3, 1) := by decide +kernel
theorem dX4_joined_110 : decode cX4_joined 110 = .ok (.lcmp, 1) := by decide +kernel
theorem dX4_joined_111 : decode cX4_joined 111 = .ok (.ifCond .le 7, 3) := by decide +kernel
theorem dX4_joined_114 : decode cX4_joined 114 = .ok (.lconst 1, 1) := by decide +kernel
theorem dX4_joined_115 : decode cX4_joined 115 = .ok (.goto 84, 3) := by decide +kernel
theorem dX4_joined_118 : decode cX4_joined 118 = .ok (.lconst 0, 1) := by decide +kernel
theorem dX4_joined_119 : decode cX4_joined 119 = .ok (.goto 80, 3) := by decide +kernel
theorem dX4_joined_122 : decode cX4_joined 122 = .ok (.lload_n 1, 1) := by decide +kernel
theorem dX4_joined_123 : decode cX4_joined 123 = .ok (.lload_n 3, 1) := by decide +kernel
theorem dX4_joined_124 : decode cX4_joined 124 = .ok (.lcmp, 1) := by decide +kernel
theorem dX4_joined_125 : decode cX4_joined 125 = .ok (.ifCond .lt 7, 3) := by decide +kernel
theorem dX4_joined_128 : decode cX4_joined 128 = .ok (.lconst 1, 1) := by decide +kernel
theorem dX4_joined_129 : decode cX4_joined 129 = .ok (.goto 70, 3) := by decide +kernel
theorem dX4_joined_132 : decode cX4_joined 132 = .ok (.lconst 0, 1) := by decide +kernel
theorem dX4_joined_133 : decode cX4_joined 133 = .ok (.goto 66, 3) := by decide +kernel
theorem dX4_joined_136 : decode cX4_joined 136 = .ok (.lload_n 1, 1) := by decide +kernel
theorem dX4_joined_137 : decode cX4_joined 137 = .ok (.lload_n 3, 1) := by decide +kernel
theorem dX4_joined_138 : decode cX4_joined 138 = .ok (.lcmp, 1) := by decide +kernel
theorem dX4_joined_139 : decode cX4_joined 139 = .ok (.ifCond .ne 7, 3) := by decide +kernel
theorem dX4_joined_142 : decode cX4_joined 142 = .ok (.lconst 1, 1) := by decide +kernel
theorem dX4_joined_143 : decode cX4_joined 143 = .ok (.goto 56, 3) := by decide +kernel
theorem dX4_joined_146 : decode cX4_joined 146 = .ok (.lconst 0, 1) := by decide +kernel
theorem dX4_joined_147 : decode cX4_joined 147 = .ok (.goto 52, 3) := by decide +kernel
theorem dX4_joined_150 : decode cX4_joined 150 = .ok (.lload_n 1, 1) := by decide +kernel
theorem dX4_joined_151 : decode cX4_joined 151 = .ok (.lload_n 3, 1) := by decide +kernel
theorem dX4_joined_152 : decode cX4_joined 152 = .ok (.lcmp, 1) := by decide +kernel
theorem dX4_joined_153 : decode cX4_joined 153 = .ok (.ifCond .eq 7, 3) := by decide +kernel
theorem dX4_joined_156 : decode cX4_joined 156 = .ok (.lconst 1, 1) := by decide +kernel
theorem dX4_joined_157 : decode cX4_joined 157 = .ok (.goto 42, 3) := by decide +kernel
theorem dX4_joined_160 : decode cX4_joined 160 = .ok (.lconst 0, 1) := by decide +kernel
theorem dX4_joined_161 : decode cX4_joined 161 = .ok (.goto 38, 3) := by decide +kernel
theorem dX4_joined_164 : decode cX4_joined 164 = .ok (.lload_n 1, 1) := by decide +kernel
theorem dX4_joined_165 : decode cX4_joined 165 = .ok (.lload_n 3, 1) := by decide +kernel
theorem dX4_joined_166 : decode cX4_joined 166 = .ok (.ladd, 1) := by decide +kernel
theorem dX4_joined_167 : decode cX4_joined 167 = .ok (.goto 32, 3) := by decide +kernel
theorem dX4_joined_170 : decode cX4_joined 170 = .ok (.lload_n 1, 1) := by decide +kernel
theorem dX4_joined_171 : decode cX4_joined 171 = .ok (.lload_n 3, 1) := by decide +kernel
theorem dX4_joined_172 : decode cX4_joined 172 = .ok (.lsub, 1) := by decide +kernel
theorem dX4_joined_173 : decode cX4_joined 173 = .ok (.goto 26, 3) := by decide +kernel
theorem dX4_joined_176 : decode cX4_joined 176 = .ok (.lload_n 1, 1) := by decide +kernel
theorem dX4_joined_177 : decode cX4_joined 177 = .ok (.lload_n 3, 1) := by decide +kernel
theorem dX4_joined_178 : decode cX4_joined 178 = .ok (.lmul, 1) := by decide +kernel
theorem dX4_joined_179 : decode cX4_joined 179 = .ok (.goto 20, 3) := by decide +kernel
theorem dX4_joined_182 : decode cX4_joined 182 = .ok (.lload_n 3, 1) := by decide +kernel
theorem dX4_joined_183 : decode cX4_joined 183 = .ok (.lconst 0, 1) := by decide +kernel
theorem dX4_joined_184 : decode cX4_joined 184 = .ok (.lcmp, 1) := by decide +kernel
theorem dX4_joined_185 : decode cX4_joined 185 = .ok (.ifCond .ne 7, 3) := by decide +kernel
theorem dX4_joined_188 : decode cX4_joined 188 = .ok (.lconst 0, 1) := by decide +kernel
theorem dX4_joined_189 : decode cX4_joined 189 = .ok (.goto 10, 3) := by decide +kernel
theorem dX4_joined_192 : decode cX4_joined 192 = .ok (.lload_n 1, 1) := by decide +kernel
theorem dX4_joined_193 : decode cX4_joined 193 = .ok (.lload_n 3, 1) := by decide +kernel
theorem dX4_joined_194 : decode cX4_joined 194 = .ok (.ldiv, 1) := by decide +kernel
theorem dX4_joined_195 : decode cX4_joined 195 = .ok (.goto 4, 3) := by decide +kernel
theorem dX4_joined_198 : decode cX4_joined 198 = .ok (.lconst 0, 1) := by decide +kernel
theorem dX4_joined_199 : decode cX4_joined 199 = .ok (.lreturn, 1) := by decide +kernel
theorem dX5_init_0 : decode cX5_init 0 = .ok (.aload_n 0, 1) := by decide +kernel
theorem dX5_init_1 : decode cX5_init 1 = .ok (.invokespecial 3, 3) := by decide +kernel
theorem dX5_init_4 : decode cX5_init 4 = .ok (.aload_n 0, 1) := by decide +kernel
theorem dX5_init_5 : decode cX5_init 5 = .ok (.sipush 300, 3) := by decide +kernel
theorem dX5_init_8 : decode cX5_init 8 = .ok (.newarray .int, 2) := by decide +kernel
theorem dX5_init_10 : decode cX5_init 10 = .ok (.putfield 9, 3) := by decide +kernel
theorem dX5_init_13 : decode cX5_init 13 = .ok (.aload_n 0, 1) := by decide +kernel
theorem dX5_init_14 : decode cX5_init 14 = .ok (.bipush 24, 2) := by decide +kernel
theorem dX5_init_16 : decode cX5_init 16 = .ok (.newarray .int, 2) := by decide +kernel
theorem dX5_init_18 : decode cX5_init 18 = .ok (.putfield 15, 3) := by decide +kernel
theorem dX5_init_21 : decode cX5_init 21 = .ok (.aload_n 0, 1) := by decide +kernel
theorem dX5_init_22 : decode cX5_init 22 = .ok (.bipush 24, 2) := by decide +kernel
theorem dX5_init_24 : decode cX5_init 24 = .ok (.newarray .int, 2) := by decide +kernel
theorem dX5_init_26 : decode cX5_init 26 = .ok (.putfield 18, 3) := by decide +kernel
theorem dX5_init_29 : decode cX5_init 29 = .ok (.aload_n 0, 1) := by decide +kernel
theorem dX5_init_30 : decode cX5_init 30 = .ok (.bipush 24, 2) := by decide +kernel
theorem dX5_init_32 : decode cX5_init 32 = .ok (.newarray .int, 2) := by decide +kernel
theorem dX5_init_34 : decode cX5_init 34 = .ok (.putfield 21, 3) := by decide +kernel
theorem dX5_init_37 : decode cX5_init 37 = .ok (.return_, 1) := by decide +kernel
theorem dX5_clear_0 : decode cX5_clear 0 = .ok (.aload_n 0, 1) := by decide +kernel
theorem dX5_clear_1 : decode cX5_clear 1 = .ok (.iconst 0, 1) := by decide +kernel
theorem dX5_clear_2 : decode cX5_clear 2 = .ok (.putfield 24, 3) := by decide +kernel
theorem dX5_clear_5 : decode cX5_clear 5 = .ok (.aload_n 0, 1) := by decide +kernel
theorem dX5_clear_6 : decode cX5_clear 6 = .ok (.iconst (-1), 1) := by decide +kernel
theorem dX5_clear_7 : decode cX5_clear 7 = .ok (.putfield 28, 3) := by decide +kernel
theorem dX5_clear_10 : decode cX5_clear 10 = .ok (.aload_n 0, 1) := by decide +kernel
theorem dX5_clear_11 : decode cX5_clear 11 = .ok (.iconst (-1), 1) := by decide +kernel
theorem dX5_clear_12 : decode cX5_clear 12 = .ok (.putfield 31, 3) := by decide +kernel
theorem dX5_clear_15 : decode cX5_clear 15 = .ok (.aload_n 0, 1) := by decide +kernel
theorem dX5_clear_16 : decode cX5_clear 16 = .ok (.iconst 0, 1) := by decide +kernel
theorem dX5_clear_17 : decode cX5_clear 17 = .ok (.putfield 34, 3) := by decide +kernel
theorem dX5_clear_20 : decode cX5_clear 20 = .ok (.return_, 1) := by decide +kernel
theorem dX5_emit_0 : decode cX5_emit 0 = .ok (.aload_n 0, 1) := by decide +kernel
theorem dX5_emit_1 : decode cX5_emit 1 = .ok (.getfield 24, 3) := by decide +kernel
theorem dX5_emit_4 : decode cX5_emit 4 = .ok (.aload_n 0, 1) := by decide +kernel
theorem dX5_emit_5 : decode cX5_emit 5 = .ok (.getfield 9, 3) := by decide +kernel
theorem dX5_emit_8 : decode cX5_emit 8 = .ok (.arraylength, 1) := by decide +kernel
theorem dX5_emit_9 : decode cX5_emit 9 = .ok (.if_icmp .ge 23, 3) := by decide +kernel
theorem dX5_emit_12 : decode cX5_emit 12 = .ok (.aload_n 0, 1) := by decide +kernel
theorem dX5_emit_13 : decode cX5_emit 13 = .ok (.getfield 9, 3) := by decide +kernel
theorem dX5_emit_16 : decode cX5_emit 16 = .ok (.aload_n 0, 1) := by decide +kernel
theorem dX5_emit_17 : decode cX5_emit 17 = .ok (.getfield 24, 3) := by decide +kernel
theorem dX5_emit_20 : decode cX5_emit 20 = .ok (.iload_n 1, 1) := by decide +kernel
theorem dX5_emit_21 : decode cX5_emit 21 = .ok (.iastore, 1) := by decide +kernel
theorem dX5_emit_22 : decode cX5_emit 22 = .ok (.aload_n 0, 1) := by decide +kernel
theorem dX5_emit_23 : decode cX5_emit 23 = .ok (.dup, 1) := by decide +kernel
theorem dX5_emit_24 : decode cX5_emit 24 = .ok (.getfield 24, 3) := by decide +kernel
theorem dX5_emit_27 : decode cX5_emit 27 = .ok (.iconst 1, 1) := by decide +kernel
theorem dX5_emit_28 : decode cX5_emit 28 = .ok (.iadd, 1) := by decide +kernel
theorem dX5_emit_29 : decode cX5_emit 29 = .ok (.putfield 24, 3) := by decide +kernel
theorem dX5_emit_32 : decode cX5_emit 32 = .ok (.return_, 1) := by decide +kernel
theorem dX5_addClause_0 : decode cX5_addClause 0 = .ok (.aload_n 0, 1) := by decide +kernel
theorem dX5_addClause_1 : decode cX5_addClause 1 = .ok (.getfield 34, 3) := by decide +kernel
theorem dX5_addClause_4 : decode cX5_addClause 4 = .ok (.bipush 24, 2) := by decide +kernel
theorem dX5_addClause_6 : decode cX5_addClause 6 = .ok (.if_icmp .ge 43, 3) := by decide +kernel
theorem dX5_addClause_9 : decode cX5_addClause 9 = .ok (.aload_n 0, 1) := by decide +kernel
theorem dX5_addClause_10 : decode cX5_addClause 10 = .ok (.getfield 15, 3) := by decide +kernel
theorem dX5_addClause_13 : decode cX5_addClause 13 = .ok (.aload_n 0, 1) := by decide +kernel
theorem dX5_addClause_14 : decode cX5_addClause 14 = .ok (.getfield 34, 3) := by decide +kernel
theorem dX5_addClause_17 : decode cX5_addClause 17 = .ok (.iload_n 1, 1) := by decide +kernel
theorem dX5_addClause_18 : decode cX5_addClause 18 = .ok (.iastore, 1) := by decide +kernel
theorem dX5_addClause_19 : decode cX5_addClause 19 = .ok (.aload_n 0, 1) := by decide +kernel
theorem dX5_addClause_20 : decode cX5_addClause 20 = .ok (.getfield 18, 3) := by decide +kernel
theorem dX5_addClause_23 : decode cX5_addClause 23 = .ok (.aload_n 0, 1) := by decide +kernel
theorem dX5_addClause_24 : decode cX5_addClause 24 = .ok (.getfield 34, 3) := by decide +kernel
theorem dX5_addClause_27 : decode cX5_addClause 27 = .ok (.iload_n 2, 1) := by decide +kernel
theorem dX5_addClause_28 : decode cX5_addClause 28 = .ok (.iastore, 1) := by decide +kernel
theorem dX5_addClause_29 : decode cX5_addClause 29 = .ok (.aload_n 0, 1) := by decide +kernel
theorem dX5_addClause_30 : decode cX5_addClause 30 = .ok (.getfield 21, 3) := by decide +kernel
theorem dX5_addClause_33 : decode cX5_addClause 33 = .ok (.aload_n 0, 1) := by decide +kernel
theorem dX5_addClause_34 : decode cX5_addClause 34 = .ok (.getfield 34, 3) := by decide +kernel
theorem dX5_addClause_37 : decode cX5_addClause 37 = .ok (.iload_n 3, 1) := by decide +kernel
theorem dX5_addClause_38 : decode cX5_addClause 38 = .ok (.iastore, 1) := by decide +kernel
theorem dX5_addClause_39 : decode cX5_addClause 39 = .ok (.aload_n 0, 1) := by decide +kernel
theorem dX5_addClause_40 : decode cX5_addClause 40 = .ok (.dup, 1) := by decide +kernel
theorem dX5_addClause_41 : decode cX5_addClause 41 = .ok (.getfield 34, 3) := by decide +kernel
theorem dX5_addClause_44 : decode cX5_addClause 44 = .ok (.iconst 1, 1) := by decide +kernel
theorem dX5_addClause_45 : decode cX5_addClause 45 = .ok (.iadd, 1) := by decide +kernel
theorem dX5_addClause_46 : decode cX5_addClause 46 = .ok (.putfield 34, 3) := by decide +kernel
theorem dX5_addClause_49 : decode cX5_addClause 49 = .ok (.return_, 1) := by decide +kernel
theorem dX6_init_0 : decode cX6_init 0 = .ok (.aload_n 0, 1) := by decide +kernel
theorem dX6_init_1 : decode cX6_init 1 = .ok (.invokespecial 3, 3) := by decide +kernel
theorem dX6_init_4 : decode cX6_init 4 = .ok (.aload_n 0, 1) := by decide +kernel
theorem dX6_init_5 : decode cX6_init 5 = .ok (.bipush 12, 2) := by decide +kernel
theorem dX6_init_7 : decode cX6_init 7 = .ok (.newarray .int, 2) := by decide +kernel
theorem dX6_init_9 : decode cX6_init 9 = .ok (.putfield 9, 3) := by decide +kernel
theorem dX6_init_12 : decode cX6_init 12 = .ok (.aload_n 0, 1) := by decide +kernel
theorem dX6_init_13 : decode cX6_init 13 = .ok (.bipush 12, 2) := by decide +kernel
theorem dX6_init_15 : decode cX6_init 15 = .ok (.newarray .int, 2) := by decide +kernel
theorem dX6_init_17 : decode cX6_init 17 = .ok (.putfield 15, 3) := by decide +kernel
theorem dX6_init_20 : decode cX6_init 20 = .ok (.aload_n 0, 1) := by decide +kernel
theorem dX6_init_21 : decode cX6_init 21 = .ok (.iconst (-1), 1) := by decide +kernel
theorem dX6_init_22 : decode cX6_init 22 = .ok (.putfield 18, 3) := by decide +kernel
theorem dX6_init_25 : decode cX6_init 25 = .ok (.aload_n 0, 1) := by decide +kernel
theorem dX6_init_26 : decode cX6_init 26 = .ok (.bipush 40, 2) := by decide +kernel
theorem dX6_init_28 : decode cX6_init 28 = .ok (.newarray .int, 2) := by decide +kernel
theorem dX6_init_30 : decode cX6_init 30 = .ok (.putfield 22, 3) := by decide +kernel
theorem dX6_init_33 : decode cX6_init 33 = .ok (.aload_n 0, 1) := by decide +kernel
theorem dX6_init_34 : decode cX6_init 34 = .ok (.bipush 10, 2) := by decide +kernel
theorem dX6_init_36 : decode cX6_init 36 = .ok (.anewarray 25, 3) := by decide +kernel
theorem dX6_init_39 : decode cX6_init 39 = .ok (.putfield 27, 3) := by decide +kernel
theorem dX6_init_42 : decode cX6_init 42 = .ok (.iconst 0, 1) := by decide +kernel
theorem dX6_init_43 : decode cX6_init 43 = .ok (.istore_n 1, 1) := by decide +kernel
theorem dX6_init_44 : decode cX6_init 44 = .ok (.iload_n 1, 1) := by decide +kernel
theorem dX6_init_45 : decode cX6_init 45 = .ok (.aload_n 0, 1) := by decide +kernel
theorem dX6_init_46 : decode cX6_init 46 = .ok (.getfield 27, 3) := by decide +kernel
theorem dX6_init_49 : decode cX6_init 49 = .ok (.arraylength, 1) := by decide +kernel
theorem dX6_init_50 : decode cX6_init 50 = .ok (.if_icmp .ge 22, 3) := by decide +kernel
theorem dX6_init_53 : decode cX6_init 53 = .ok (.aload_n 0, 1) := by decide +kernel
theorem dX6_init_54 : decode cX6_init 54 = .ok (.getfield 27, 3) := by decide +kernel
theorem dX6_init_57 : decode cX6_init 57 = .ok (.iload_n 1, 1) := by decide +kernel
theorem dX6_init_58 : decode cX6_init 58 = .ok (.new 25, 3) := by decide +kernel
theorem dX6_init_61 : decode cX6_init 61 = .ok (.dup, 1) := by decide +kernel
theorem dX6_init_62 : decode cX6_init 62 = .ok (.invokespecial 31, 3) := by decide +kernel
theorem dX6_init_65 : decode cX6_init 65 = .ok (.aastore, 1) := by decide +kernel
theorem dX6_init_66 : decode cX6_init 66 = .ok (.iinc 1 1, 3) := by decide +kernel
theorem dX6_init_69 : decode cX6_init 69 = .ok (.goto (-25), 3) := by decide +kernel
theorem dX6_init_72 : decode cX6_init 72 = .ok (.return_, 1) := by decide +kernel
theorem dX6_copyFrom_0 : decode cX6_copyFrom 0 = .ok (.aload_n 0, 1) := by decide +kernel
theorem dX6_copyFrom_1 : decode cX6_copyFrom 1 = .ok (.aload_n 1, 1) := by decide +kernel
theorem dX6_copyFrom_2 : decode cX6_copyFrom 2 = .ok (.invokevirtual 32, 3) := by decide +kernel
theorem dX6_copyFrom_5 : decode cX6_copyFrom 5 = .ok (.aload_n 0, 1) := by decide +kernel
theorem dX6_copyFrom_6 : decode cX6_copyFrom 6 = .ok (.aload_n 1, 1) := by decide +kernel
theorem dX6_copyFrom_7 : decode cX6_copyFrom 7 = .ok (.getfield 36, 3) := by decide +kernel
theorem dX6_copyFrom_10 : decode cX6_copyFrom 10 = .ok (.putfield 36, 3) := by decide +kernel
theorem dX6_copyFrom_13 : decode cX6_copyFrom 13 = .ok (.aload_n 1, 1) := by decide +kernel
theorem dX6_copyFrom_14 : decode cX6_copyFrom 14 = .ok (.getfield 9, 3) := by decide +kernel
theorem dX6_copyFrom_17 : decode cX6_copyFrom 17 = .ok (.iconst 0, 1) := by decide +kernel
theorem dX6_copyFrom_18 : decode cX6_copyFrom 18 = .ok (.aload_n 0, 1) := by decide +kernel
theorem dX6_copyFrom_19 : decode cX6_copyFrom 19 = .ok (.getfield 9, 3) := by decide +kernel
theorem dX6_copyFrom_22 : decode cX6_copyFrom 22 = .ok (.iconst 0, 1) := by decide +kernel
theorem dX6_copyFrom_23 : decode cX6_copyFrom 23 = .ok (.bipush 12, 2) := by decide +kernel
theorem dX6_copyFrom_25 : decode cX6_copyFrom 25 = .ok (.invokestatic 39, 3) := by decide +kernel
theorem dX6_copyFrom_28 : decode cX6_copyFrom 28 = .ok (.aload_n 1, 1) := by decide +kernel
theorem dX6_copyFrom_29 : decode cX6_copyFrom 29 = .ok (.getfield 15, 3) := by decide +kernel
theorem dX6_copyFrom_32 : decode cX6_copyFrom 32 = .ok (.iconst 0, 1) := by decide +kernel
theorem dX6_copyFrom_33 : decode cX6_copyFrom 33 = .ok (.aload_n 0, 1) := by decide +kernel
theorem dX6_copyFrom_34 : decode cX6_copyFrom 34 = .ok (.getfield 15, 3) := by decide +kernel
theorem dX6_copyFrom_37 : decode cX6_copyFrom 37 = .ok (.iconst 0, 1) := by decide +kernel
theorem dX6_copyFrom_38 : decode cX6_copyFrom 38 = .ok (.bipush 12, 2) := by decide +kernel
theorem dX6_copyFrom_40 : decode cX6_copyFrom 40 = .ok (.invokestatic 39, 3) := by decide +kernel
theorem dX6_copyFrom_43 : decode cX6_copyFrom 43 = .ok (.aload_n 0, 1) := by decide +kernel
theorem dX6_copyFrom_44 : decode cX6_copyFrom 44 = .ok (.aload_n 1, 1) := by decide +kernel
theorem dX6_copyFrom_45 : decode cX6_copyFrom 45 = .ok (.getfield 45, 3) := by decide +kernel
theorem dX6_copyFrom_48 : decode cX6_copyFrom 48 = .ok (.putfield 45, 3) := by decide +kernel
theorem dX6_copyFrom_51 : decode cX6_copyFrom 51 = .ok (.aload_n 0, 1) := by decide +kernel
theorem dX6_copyFrom_52 : decode cX6_copyFrom 52 = .ok (.aload_n 1, 1) := by decide +kernel
theorem dX6_copyFrom_53 : decode cX6_copyFrom 53 = .ok (.getfield 48, 3) := by decide +kernel
theorem dX6_copyFrom_56 : decode cX6_copyFrom 56 = .ok (.putfield 48, 3) := by decide +kernel
theorem dX6_copyFrom_59 : decode cX6_copyFrom 59 = .ok (.aload_n 0, 1) := by decide +kernel
theorem dX6_copyFrom_60 : decode cX6_copyFrom 60 = .ok (.aload_n 1, 1) := by decide +kernel
theorem dX6_copyFrom_61 : decode cX6_copyFrom 61 = .ok (.getfield 51, 3) := by decide +kernel
theorem dX6_copyFrom_64 : decode cX6_copyFrom 64 = .ok (.putfield 51, 3) := by decide +kernel
theorem dX6_copyFrom_67 : decode cX6_copyFrom 67 = .ok (.aload_n 0, 1) := by decide +kernel
theorem dX6_copyFrom_68 : decode cX6_copyFrom 68 = .ok (.aload_n 1, 1) := by decide +kernel
theorem dX6_copyFrom_69 : decode cX6_copyFrom 69 = .ok (.getfield 18, 3) := by decide +kernel
theorem dX6_copyFrom_72 : decode cX6_copyFrom 72 = .ok (.putfield 18, 3) := by decide +kernel
theorem dX6_copyFrom_75 : decode cX6_copyFrom 75 = .ok (.aload_n 0, 1) := by decide +kernel
theorem dX6_copyFrom_76 : decode cX6_copyFrom 76 = .ok (.aload_n 1, 1) := by decide +kernel
theorem dX6_copyFrom_77 : decode cX6_copyFrom 77 = .ok (.getfield 54, 3) := by decide +kernel
theorem dX6_copyFrom_80 : decode cX6_copyFrom 80 = .ok (.putfield 54, 3) := by decide +kernel
theorem dX6_copyFrom_83 : decode cX6_copyFrom 83 = .ok (.aload_n 1, 1) := by decide +kernel
theorem dX6_copyFrom_84 : decode cX6_copyFrom 84 = .ok (.getfield 22, 3) := by decide +kernel
theorem dX6_copyFrom_87 : decode cX6_copyFrom 87 = .ok (.iconst 0, 1) := by decide +kernel
theorem dX6_copyFrom_88 : decode cX6_copyFrom 88 = .ok (.aload_n 0, 1) := by decide +kernel
theorem dX6_copyFrom_89 : decode cX6_copyFrom 89 = .ok (.getfield 22, 3) := by decide +kernel
theorem dX6_copyFrom_92 : decode cX6_copyFrom 92 = .ok (.iconst 0, 1) := by decide +kernel
theorem dX6_copyFrom_93 : decode cX6_copyFrom 93 = .ok (.bipush 40, 2) := by decide +kernel
theorem dX6_copyFrom_95 : decode cX6_copyFrom 95 = .ok (.invokestatic 39, 3) := by decide +kernel
theorem dX6_copyFrom_98 : decode cX6_copyFrom 98 = .ok (.aload_n 0, 1) := by decide +kernel
theorem dX6_copyFrom_99 : decode cX6_copyFrom 99 = .ok (.aload_n 1, 1) := by decide +kernel
theorem dX6_copyFrom_100 : decode cX6_copyFrom 100 = .ok (.getfield 58, 3) := by decide +kernel
theorem dX6_copyFrom_103 : decode cX6_copyFrom 103 = .ok (.putfield 58, 3) := by decide +kernel
theorem dX6_copyFrom_106 : decode cX6_copyFrom 106 = .ok (.iconst 0, 1) := by decide +kernel
theorem dX6_copyFrom_107 : decode cX6_copyFrom 107 = .ok (.istore_n 2, 1) := by decide +kernel
theorem dX6_copyFrom_108 : decode cX6_copyFrom 108 = .ok (.iload_n 2, 1) := by decide +kernel
theorem dX6_copyFrom_109 : decode cX6_copyFrom 109 = .ok (.aload_n 1, 1) := by decide +kernel
theorem dX6_copyFrom_110 : decode cX6_copyFrom 110 = .ok (.getfield 61, 3) := by decide +kernel
theorem dX6_copyFrom_113 : decode cX6_copyFrom 113 = .ok (.if_icmp .ge 24, 3) := by decide +kernel
theorem dX6_copyFrom_116 : decode cX6_copyFrom 116 = .ok (.aload_n 0, 1) := by decide +kernel
theorem dX6_copyFrom_117 : decode cX6_copyFrom 117 = .ok (.getfield 27, 3) := by decide +kernel
theorem dX6_copyFrom_120 : decode cX6_copyFrom 120 = .ok (.iload_n 2, 1) := by decide +kernel
theorem dX6_copyFrom_121 : decode cX6_copyFrom 121 = .ok (.aaload, 1) := by decide +kernel
theorem dX6_copyFrom_122 : decode cX6_copyFrom 122 = .ok (.aload_n 1, 1) := by decide +kernel
theorem dX6_copyFrom_123 : decode cX6_copyFrom 123 = .ok (.getfield 27, 3) := by decide +kernel
theorem dX6_copyFrom_126 : decode cX6_copyFrom 126 = .ok (.iload_n 2, 1) := by decide +kernel
theorem dX6_copyFrom_127 : decode cX6_copyFrom 127 = .ok (.aaload, 1) := by decide +kernel
theorem dX6_copyFrom_128 : decode cX6_copyFrom 128 = .ok (.invokevirtual 64, 3) := by decide +kernel
theorem dX6_copyFrom_131 : decode cX6_copyFrom 131 = .ok (.iinc 2 1, 3) := by decide +kernel
theorem dX6_copyFrom_134 : decode cX6_copyFrom 134 = .ok (.goto (-26), 3) := by decide +kernel
theorem dX6_copyFrom_137 : decode cX6_copyFrom 137 = .ok (.aload_n 0, 1) := by decide +kernel
theorem dX6_copyFrom_138 : decode cX6_copyFrom 138 = .ok (.aload_n 1, 1) := by decide +kernel
theorem dX6_copyFrom_139 : decode cX6_copyFrom 139 = .ok (.getfield 61, 3) := by decide +kernel
theorem dX6_copyFrom_142 : decode cX6_copyFrom 142 = .ok (.putfield 61, 3) := by decide +kernel
theorem dX6_copyFrom_145 : decode cX6_copyFrom 145 = .ok (.return_, 1) := by decide +kernel
theorem dX6_panOf_0 : decode cX6_panOf 0 = .ok (.iload_n 1, 1) := by decide +kernel
theorem dX6_panOf_1 : decode cX6_panOf 1 = .ok (.iconst 0, 1) := by decide +kernel
theorem dX6_panOf_2 : decode cX6_panOf 2 = .ok (.aload_n 0, 1) := by decide +kernel
theorem dX6_panOf_3 : decode cX6_panOf 3 = .ok (.getfield 36, 3) := by decide +kernel
theorem dX6_panOf_6 : decode cX6_panOf 6 = .ok (.iconst 1, 1) := by decide +kernel
theorem dX6_panOf_7 : decode cX6_panOf 7 = .ok (.isub, 1) := by decide +kernel
theorem dX6_panOf_8 : decode cX6_panOf 8 = .ok (.invokestatic 68, 3) := by decide +kernel
theorem dX6_panOf_11 : decode cX6_panOf 11 = .ok (.ifCond .ne 5, 3) := by decide +kernel
theorem dX6_panOf_14 : decode cX6_panOf 14 = .ok (.iconst (-1), 1) := by decide +kernel
theorem dX6_panOf_15 : decode cX6_panOf 15 = .ok (.ireturn, 1) := by decide +kernel
theorem dX6_panOf_16 : decode cX6_panOf 16 = .ok (.aload_n 0, 1) := by decide +kernel
theorem dX6_panOf_17 : decode cX6_panOf 17 = .ok (.getfield 45, 3) := by decide +kernel
theorem dX6_panOf_20 : decode cX6_panOf 20 = .ok (.iload_n 1, 1) := by decide +kernel
theorem dX6_panOf_21 : decode cX6_panOf 21 = .ok (.ishr, 1) := by decide +kernel
theorem dX6_panOf_22 : decode cX6_panOf 22 = .ok (.iconst 1, 1) := by decide +kernel
theorem dX6_panOf_23 : decode cX6_panOf 23 = .ok (.iand, 1) := by decide +kernel
theorem dX6_panOf_24 : decode cX6_panOf 24 = .ok (.iconst 1, 1) := by decide +kernel
theorem dX6_panOf_25 : decode cX6_panOf 25 = .ok (.if_icmp .ne 5, 3) := by decide +kernel
theorem dX6_panOf_28 : decode cX6_panOf 28 = .ok (.iconst 0, 1) := by decide +kernel
theorem dX6_panOf_29 : decode cX6_panOf 29 = .ok (.ireturn, 1) := by decide +kernel
theorem dX6_panOf_30 : decode cX6_panOf 30 = .ok (.aload_n 0, 1) := by decide +kernel
theorem dX6_panOf_31 : decode cX6_panOf 31 = .ok (.getfield 48, 3) := by decide +kernel
theorem dX6_panOf_34 : decode cX6_panOf 34 = .ok (.iload_n 1, 1) := by decide +kernel
theorem dX6_panOf_35 : decode cX6_panOf 35 = .ok (.ishr, 1) := by decide +kernel
theorem dX6_panOf_36 : decode cX6_panOf 36 = .ok (.iconst 1, 1) := by decide +kernel
theorem dX6_panOf_37 : decode cX6_panOf 37 = .ok (.iand, 1) := by decide +kernel
theorem dX6_panOf_38 : decode cX6_panOf 38 = .ok (.iconst 1, 1) := by decide +kernel
theorem dX6_panOf_39 : decode cX6_panOf 39 = .ok (.if_icmp .ne 7, 3) := by decide +kernel
theorem dX6_panOf_42 : decode cX6_panOf 42 = .ok (.iconst 1, 1) := by decide +kernel
theorem dX6_panOf_43 : decode cX6_panOf 43 = .ok (.goto 4, 3) := by decide +kernel
theorem dX6_panOf_46 : decode cX6_panOf 46 = .ok (.iconst (-1), 1) := by decide +kernel
theorem dX6_panOf_47 : decode cX6_panOf 47 = .ok (.ireturn, 1) := by decide +kernel
theorem dX6_keepStep_0 : decode cX6_keepStep 0 = .ok (.aload_n 0, 1) := by decide +kernel
theorem dX6_keepStep_1 : decode cX6_keepStep 1 = .ok (.getfield 58, 3) := by decide +kernel
theorem dX6_keepStep_4 : decode cX6_keepStep 4 = .ok (.bipush 40, 2) := by decide +kernel
theorem dX6_keepStep_6 : decode cX6_keepStep 6 = .ok (.if_icmp .ne 28, 3) := by decide +kernel
theorem dX6_keepStep_9 : decode cX6_keepStep 9 = .ok (.aload_n 0, 1) := by decide +kernel
theorem dX6_keepStep_10 : decode cX6_keepStep 10 = .ok (.getfield 22, 3) := by decide +kernel
theorem dX6_keepStep_13 : decode cX6_keepStep 13 = .ok (.iconst 1, 1) := by decide +kernel
theorem dX6_keepStep_14 : decode cX6_keepStep 14 = .ok (.aload_n 0, 1) := by decide +kernel
theorem dX6_keepStep_15 : decode cX6_keepStep 15 = .ok (.getfield 22, 3) := by decide +kernel
theorem dX6_keepStep_18 : decode cX6_keepStep 18 = .ok (.iconst 0, 1) := by decide +kernel
theorem dX6_keepStep_19 : decode cX6_keepStep 19 = .ok (.bipush 39, 2) := by decide +kernel
theorem dX6_keepStep_21 : decode cX6_keepStep 21 = .ok (.invokestatic 39, 3) := by decide +kernel
theorem dX6_keepStep_24 : decode cX6_keepStep 24 = .ok (.aload_n 0, 1) := by decide +kernel
theorem dX6_keepStep_25 : decode cX6_keepStep 25 = .ok (.dup, 1) := by decide +kernel
theorem dX6_keepStep_26 : decode cX6_keepStep 26 = .ok (.getfield 58, 3) := by decide +kernel
theorem dX6_keepStep_29 : decode cX6_keepStep 29 = .ok (.iconst 1, 1) := by decide +kernel
theorem dX6_keepStep_30 : decode cX6_keepStep 30 = .ok (.isub, 1) := by decide +kernel
theorem dX6_keepStep_31 : decode cX6_keepStep 31 = .ok (.putfield 58, 3) := by decide +kernel
theorem dX6_keepStep_34 : decode cX6_keepStep 34 = .ok (.aload_n 0, 1) := by decide +kernel
theorem dX6_keepStep_35 : decode cX6_keepStep 35 = .ok (.getfield 22, 3) := by decide +kernel
theorem dX6_keepStep_38 : decode cX6_keepStep 38 = .ok (.aload_n 0, 1) := by decide +kernel
theorem dX6_keepStep_39 : decode cX6_keepStep 39 = .ok (.getfield 58, 3) := by decide +kernel
theorem dX6_keepStep_42 : decode cX6_keepStep 42 = .ok (.aload_n 0, 1) := by decide +kernel
theorem dX6_keepStep_43 : decode cX6_keepStep 43 = .ok (.getfield 45, 3) := by decide +kernel
theorem dX6_keepStep_46 : decode cX6_keepStep 46 = .ok (.aload_n 0, 1) := by decide +kernel
theorem dX6_keepStep_47 : decode cX6_keepStep 47 = .ok (.getfield 48, 3) := by decide +kernel
theorem dX6_keepStep_50 : decode cX6_keepStep 50 = .ok (.bipush 12, 2) := by decide +kernel
theorem dX6_keepStep_52 : decode cX6_keepStep 52 = .ok (.ishl, 1) := by decide +kernel
theorem dX6_keepStep_53 : decode cX6_keepStep 53 = .ok (.ior, 1) := by decide +kernel
theorem dX6_keepStep_54 : decode cX6_keepStep 54 = .ok (.aload_n 0, 1) := by decide +kernel
theorem dX6_keepStep_55 : decode cX6_keepStep 55 = .ok (.getfield 72, 3) := by decide +kernel
theorem dX6_keepStep_58 : decode cX6_keepStep 58 = .ok (.bipush 24, 2) := by decide +kernel
theorem dX6_keepStep_60 : decode cX6_keepStep 60 = .ok (.ishl, 1) := by decide +kernel
theorem dX6_keepStep_61 : decode cX6_keepStep 61 = .ok (.ior, 1) := by decide +kernel
theorem dX6_keepStep_62 : decode cX6_keepStep 62 = .ok (.iastore, 1) := by decide +kernel
theorem dX6_keepStep_63 : decode cX6_keepStep 63 = .ok (.aload_n 0, 1) := by decide +kernel
theorem dX6_keepStep_64 : decode cX6_keepStep 64 = .ok (.dup, 1) := by decide +kernel
theorem dX6_keepStep_65 : decode cX6_keepStep 65 = .ok (.getfield 58, 3) := by decide +kernel
theorem dX6_keepStep_68 : decode cX6_keepStep 68 = .ok (.iconst 1, 1) := by decide +kernel
theorem dX6_keepStep_69 : decode cX6_keepStep 69 = .ok (.iadd, 1) := by decide +kernel
theorem dX6_keepStep_70 : decode cX6_keepStep 70 = .ok (.putfield 58, 3) := by decide +kernel
theorem dX6_keepStep_73 : decode cX6_keepStep 73 = .ok (.return_, 1) := by decide +kernel
theorem dX6_stepBack_0 : decode cX6_stepBack 0 = .ok (.aload_n 0, 1) := by decide +kernel
theorem dX6_stepBack_1 : decode cX6_stepBack 1 = .ok (.getfield 58, 3) := by decide +kernel
theorem dX6_stepBack_4 : decode cX6_stepBack 4 = .ok (.ifCond .ne 5, 3) := by decide +kernel
theorem dX6_stepBack_7 : decode cX6_stepBack 7 = .ok (.iconst 0, 1) := by decide +kernel
theorem dX6_stepBack_8 : decode cX6_stepBack 8 = .ok (.ireturn, 1) := by decide +kernel
theorem dX6_stepBack_9 : decode cX6_stepBack 9 = .ok (.aload_n 0, 1) := by decide +kernel
theorem dX6_stepBack_10 : decode cX6_stepBack 10 = .ok (.dup, 1) := by decide +kernel
theorem dX6_stepBack_11 : decode cX6_stepBack 11 = .ok (.getfield 58, 3) := by decide +kernel
theorem dX6_stepBack_14 : decode cX6_stepBack 14 = .ok (.iconst 1, 1) := by decide +kernel
theorem dX6_stepBack_15 : decode cX6_stepBack 15 = .ok (.isub, 1) := by decide +kernel
theorem dX6_stepBack_16 : decode cX6_stepBack 16 = .ok (.putfield 58, 3) := by decide +kernel
theorem dX6_stepBack_19 : decode cX6_stepBack 19 = .ok (.aload_n 0, 1) := by decide +kernel
theorem dX6_stepBack_20 : decode cX6_stepBack 20 = .ok (.getfield 22, 3) := by decide +kernel
theorem dX6_stepBack_23 : decode cX6_stepBack 23 = .ok (.aload_n 0, 1) := by decide +kernel
theorem dX6_stepBack_24 : decode cX6_stepBack 24 = .ok (.getfield 58, 3) := by decide +kernel
theorem dX6_stepBack_27 : decode cX6_stepBack 27 = .ok (.iaload, 1) := by decide +kernel
theorem dX6_stepBack_28 : decode cX6_stepBack 28 = .ok (.istore_n 1, 1) := by decide +kernel
theorem dX6_stepBack_29 : decode cX6_stepBack 29 = .ok (.sipush 4095, 3) := by decide +kernel
theorem dX6_stepBack_32 : decode cX6_stepBack 32 = .ok (.istore_n 2, 1) := by decide +kernel
theorem dX6_stepBack_33 : decode cX6_stepBack 33 = .ok (.aload_n 0, 1) := by decide +kernel
theorem dX6_stepBack_34 : decode cX6_stepBack 34 = .ok (.iload_n 1, 1) := by decide +kernel
theorem dX6_stepBack_35 : decode cX6_stepBack 35 = .ok (.iload_n 2, 1) := by decide +kernel
theorem dX6_stepBack_36 : decode cX6_stepBack 36 = .ok (.iand, 1) := by decide +kernel
theorem dX6_stepBack_37 : decode cX6_stepBack 37 = .ok (.putfield 45, 3) := by decide +kernel
theorem dX6_stepBack_40 : decode cX6_stepBack 40 = .ok (.aload_n 0, 1) := by decide +kernel
theorem dX6_stepBack_41 : decode cX6_stepBack 41 = .ok (.iload_n 1, 1) := by decide +kernel
theorem dX6_stepBack_42 : decode cX6_stepBack 42 = .ok (.bipush 12, 2) := by decide +kernel
theorem dX6_stepBack_44 : decode cX6_stepBack 44 = .ok (.ishr, 1) := by decide +kernel
theorem dX6_stepBack_45 : decode cX6_stepBack 45 = .ok (.iload_n 2, 1) := by decide +kernel
theorem dX6_stepBack_46 : decode cX6_stepBack 46 = .ok (.iand, 1) := by decide +kernel
theorem dX6_stepBack_47 : decode cX6_stepBack 47 = .ok (.putfield 48, 3) := by decide +kernel
theorem dX6_stepBack_50 : decode cX6_stepBack 50 = .ok (.aload_n 0, 1) := by decide +kernel
theorem dX6_stepBack_51 : decode cX6_stepBack 51 = .ok (.iload_n 1, 1) := by decide +kernel
theorem dX6_stepBack_52 : decode cX6_stepBack 52 = .ok (.bipush 24, 2) := by decide +kernel
theorem dX6_stepBack_54 : decode cX6_stepBack 54 = .ok (.ishr, 1) := by decide +kernel
theorem dX6_stepBack_55 : decode cX6_stepBack 55 = .ok (.putfield 72, 3) := by decide +kernel
theorem dX6_stepBack_58 : decode cX6_stepBack 58 = .ok (.iconst 1, 1) := by decide +kernel
theorem dX6_stepBack_59 : decode cX6_stepBack 59 = .ok (.ireturn, 1) := by decide +kernel
theorem dX7_init_0 : decode cX7_init 0 = .ok (.aload_n 0, 1) := by decide +kernel
theorem dX7_init_1 : decode cX7_init 1 = .ok (.invokespecial 3, 3) := by decide +kernel
theorem dX7_init_4 : decode cX7_init 4 = .ok (.aload_n 0, 1) := by decide +kernel
theorem dX7_init_5 : decode cX7_init 5 = .ok (.sipush 300, 3) := by decide +kernel
theorem dX7_init_8 : decode cX7_init 8 = .ok (.newarray .byte, 2) := by decide +kernel
theorem dX7_init_10 : decode cX7_init 10 = .ok (.putfield 9, 3) := by decide +kernel
theorem dX7_init_13 : decode cX7_init 13 = .ok (.return_, 1) := by decide +kernel
theorem dX7_append_0 : decode cX7_append 0 = .ok (.bipush 24, 2) := by decide +kernel
theorem dX7_append_2 : decode cX7_append 2 = .ok (.istore_n 2, 1) := by decide +kernel
theorem dX7_append_3 : decode cX7_append 3 = .ok (.iload_n 2, 1) := by decide +kernel
theorem dX7_append_4 : decode cX7_append 4 = .ok (.ifCond .lt 44, 3) := by decide +kernel
theorem dX7_append_7 : decode cX7_append 7 = .ok (.aload_n 0, 1) := by decide +kernel
theorem dX7_append_8 : decode cX7_append 8 = .ok (.getfield 15, 3) := by decide +kernel
theorem dX7_append_11 : decode cX7_append 11 = .ok (.aload_n 0, 1) := by decide +kernel
theorem dX7_append_12 : decode cX7_append 12 = .ok (.getfield 9, 3) := by decide +kernel
theorem dX7_append_15 : decode cX7_append 15 = .ok (.arraylength, 1) := by decide +kernel
theorem dX7_append_16 : decode cX7_append 16 = .ok (.if_icmp .ge 32, 3) := by decide +kernel
theorem dX7_append_19 : decode cX7_append 19 = .ok (.aload_n 0, 1) := by decide +kernel
theorem dX7_append_20 : decode cX7_append 20 = .ok (.getfield 9, 3) := by decide +kernel
theorem dX7_append_23 : decode cX7_append 23 = .ok (.aload_n 0, 1) := by decide +kernel
theorem dX7_append_24 : decode cX7_append 24 = .ok (.getfield 15, 3) := by decide +kernel
theorem dX7_append_27 : decode cX7_append 27 = .ok (.iload_n 1, 1) := by decide +kernel
theorem dX7_append_28 : decode cX7_append 28 = .ok (.iload_n 2, 1) := by decide +kernel
theorem dX7_append_29 : decode cX7_append 29 = .ok (.ishr, 1) := by decide +kernel
theorem dX7_append_30 : decode cX7_append 30 = .ok (.i2b, 1) := by decide +kernel
theorem dX7_append_31 : decode cX7_append 31 = .ok (.bastore, 1) := by decide +kernel
theorem dX7_append_32 : decode cX7_append 32 = .ok (.aload_n 0, 1) := by decide +kernel
theorem dX7_append_33 : decode cX7_append 33 = .ok (.dup, 1) := by decide +kernel
theorem dX7_append_34 : decode cX7_append 34 = .ok (.getfield 15, 3) := by decide +kernel
theorem dX7_append_37 : decode cX7_append 37 = .ok (.iconst 1, 1) := by decide +kernel
theorem dX7_append_38 : decode cX7_append 38 = .ok (.iadd, 1) := by decide +kernel
theorem dX7_append_39 : decode cX7_append 39 = .ok (.putfield 15, 3) := by decide +kernel
theorem dX7_append_42 : decode cX7_append 42 = .ok (.iinc 2 (-8), 3) := by decide +kernel
theorem dX7_append_45 : decode cX7_append 45 = .ok (.goto (-42), 3) := by decide +kernel
theorem dX7_append_48 : decode cX7_append 48 = .ok (.return_, 1) := by decide +kernel
theorem dX7_begin_0 : decode cX7_begin 0 = .ok (.aload_n 0, 1) := by decide +kernel
theorem dX7_begin_1 : decode cX7_begin 1 = .ok (.iconst 0, 1) := by decide +kernel
theorem dX7_begin_2 : decode cX7_begin 2 = .ok (.putfield 19, 3) := by decide +kernel
theorem dX7_begin_5 : decode cX7_begin 5 = .ok (.aload_n 0, 1) := by decide +kernel
theorem dX7_begin_6 : decode cX7_begin 6 = .ok (.invokevirtual 22, 3) := by decide +kernel
theorem dX7_begin_9 : decode cX7_begin 9 = .ok (.return_, 1) := by decide +kernel
theorem dX7_advance_0 : decode cX7_advance 0 = .ok (.aload_n 0, 1) := by decide +kernel
theorem dX7_advance_1 : decode cX7_advance 1 = .ok (.getfield 19, 3) := by decide +kernel
theorem dX7_advance_4 : decode cX7_advance 4 = .ok (.aload_n 0, 1) := by decide +kernel
theorem dX7_advance_5 : decode cX7_advance 5 = .ok (.getfield 15, 3) := by decide +kernel
theorem dX7_advance_8 : decode cX7_advance 8 = .ok (.if_icmp .ge 44, 3) := by decide +kernel
theorem dX7_advance_11 : decode cX7_advance 11 = .ok (.aload_n 0, 1) := by decide +kernel
theorem dX7_advance_12 : decode cX7_advance 12 = .ok (.getfield 9, 3) := by decide +kernel
theorem dX7_advance_15 : decode cX7_advance 15 = .ok (.aload_n 0, 1) := by decide +kernel
theorem dX7_advance_16 : decode cX7_advance 16 = .ok (.getfield 19, 3) := by decide +kernel
theorem dX7_advance_19 : decode cX7_advance 19 = .ok (.baload, 1) := by decide +kernel
theorem dX7_advance_20 : decode cX7_advance 20 = .ok (.bipush 32, 2) := by decide +kernel
theorem dX7_advance_22 : decode cX7_advance 22 = .ok (.if_icmp .eq 17, 3) := by decide +kernel
theorem dX7_advance_25 : decode cX7_advance 25 = .ok (.aload_n 0, 1) := by decide +kernel
theorem dX7_advance_26 : decode cX7_advance 26 = .ok (.getfield 9, 3) := by decide +kernel
theorem dX7_advance_29 : decode cX7_advance 29 = .ok (.aload_n 0, 1) := by decide +kernel
theorem dX7_advance_30 : decode cX7_advance 30 = .ok (.getfield 19, 3) := by decide +kernel
theorem dX7_advance_33 : decode cX7_advance 33 = .ok (.baload, 1) := by decide +kernel
theorem dX7_advance_34 : decode cX7_advance 34 = .ok (.bipush 10, 2) := by decide +kernel
theorem dX7_advance_36 : decode cX7_advance 36 = .ok (.if_icmp .ne 16, 3) := by decide +kernel
theorem dX7_advance_39 : decode cX7_advance 39 = .ok (.aload_n 0, 1) := by decide +kernel
theorem dX7_advance_40 : decode cX7_advance 40 = .ok (.dup, 1) := by decide +kernel
theorem dX7_advance_41 : decode cX7_advance 41 = .ok (.getfield 19, 3) := by decide +kernel
theorem dX7_advance_44 : decode cX7_advance 44 = .ok (.iconst 1, 1) := by decide +kernel
theorem dX7_advance_45 : decode cX7_advance 45 = .ok (.iadd, 1) := by decide +kernel
theorem dX7_advance_46 : decode cX7_advance 46 = .ok (.putfield 19, 3) := by decide +kernel
theorem dX7_advance_49 : decode cX7_advance 49 = .ok (.goto (-49), 3) := by decide +kernel
theorem dX7_advance_52 : decode cX7_advance 52 = .ok (.aload_n 0, 1) := by decide +kernel
theorem dX7_advance_53 : decode cX7_advance 53 = .ok (.aload_n 0, 1) := by decide +kernel
theorem dX7_advance_54 : decode cX7_advance 54 = .ok (.getfield 19, 3) := by decide +kernel
theorem dX7_advance_57 : decode cX7_advance 57 = .ok (.putfield 25, 3) := by decide +kernel
theorem dX7_advance_60 : decode cX7_advance 60 = .ok (.aload_n 0, 1) := by decide +kernel
theorem dX7_advance_61 : decode cX7_advance 61 = .ok (.getfield 19, 3) := by decide +kernel
theorem dX7_advance_64 : decode cX7_advance 64 = .ok (.aload_n 0, 1) := by decide +kernel
theorem dX7_advance_65 : decode cX7_advance 65 = .ok (.getfield 15, 3) := by decide +kernel
theorem dX7_advance_68 : decode cX7_advance 68 = .ok (.if_icmp .lt 12, 3) := by decide +kernel
theorem dX7_advance_71 : decode cX7_advance 71 = .ok (.aload_n 0, 1) := by decide +kernel
theorem dX7_advance_72 : decode cX7_advance 72 = .ok (.bipush 24, 2) := by decide +kernel
theorem dX7_advance_74 : decode cX7_advance 74 = .ok (.putfield 28, 3) := by decide +kernel
theorem dX7_advance_77 : decode cX7_advance 77 = .ok (.goto 171, 3) := by decide +kernel
theorem dX7_advance_80 : decode cX7_advance 80 = .ok (.aload_n 0, 1) := by decide +kernel
theorem dX7_advance_81 : decode cX7_advance 81 = .ok (.getfield 9, 3) := by decide +kernel
theorem dX7_advance_84 : decode cX7_advance 84 = .ok (.aload_n 0, 1) := by decide +kernel
theorem dX7_advance_85 : decode cX7_advance 85 = .ok (.getfield 19, 3) := by decide +kernel
theorem dX7_advance_88 : decode cX7_advance 88 = .ok (.baload, 1) := by decide +kernel
theorem dX7_advance_89 : decode cX7_advance 89 = .ok (.invokestatic 31, 3) := by decide +kernel
theorem dX7_advance_92 : decode cX7_advance 92 = .ok (.ifCond .eq 53, 3) := by decide +kernel
theorem dX7_advance_95 : decode cX7_advance 95 = .ok (.aload_n 0, 1) := by decide +kernel
theorem dX7_advance_96 : decode cX7_advance 96 = .ok (.getfield 19, 3) := by decide +kernel
theorem dX7_advance_99 : decode cX7_advance 99 = .ok (.aload_n 0, 1) := by decide +kernel
theorem dX7_advance_100 : decode cX7_advance 100 = .ok (.getfield 15, 3) := by decide +kernel
theorem dX7_advance_103 : decode cX7_advance 103 = .ok (.if_icmp .ge 31, 3) := by decide +kernel
theorem dX7_advance_106 : decode cX7_advance 106 = .ok (.aload_n 0, 1) := by decide +kernel
theorem dX7_advance_107 : decode cX7_advance 107 = .ok (.getfield 9, 3) := by decide +kernel
theorem dX7_advance_110 : decode cX7_advance 110 = .ok (.aload_n 0, 1) := by decide +kernel
theorem dX7_advance_111 : decode cX7_advance 111 = .ok (.getfield 19, 3) := by decide +kernel
theorem dX7_advance_114 : decode cX7_advance 114 = .ok (.baload, 1) := by decide +kernel
theorem dX7_advance_115 : decode cX7_advance 115 = .ok (.invokestatic 31, 3) := by decide +kernel
theorem dX7_advance_118 : decode cX7_advance 118 = .ok (.ifCond .eq 16, 3) := by decide +kernel
theorem dX7_advance_121 : decode cX7_advance 121 = .ok (.aload_n 0, 1) := by decide +kernel
theorem dX7_advance_122 : decode cX7_advance 122 = .ok (.dup, 1) := by decide +kernel
theorem dX7_advance_123 : decode cX7_advance 123 = .ok (.getfield 19, 3) := by decide +kernel
theorem dX7_advance_126 : decode cX7_advance 126 = .ok (.iconst 1, 1) := by decide +kernel
theorem dX7_advance_127 : decode cX7_advance 127 = .ok (.iadd, 1) := by decide +kernel
theorem dX7_advance_128 : decode cX7_advance 128 = .ok (.putfield 19, 3) := by decide +kernel
theorem dX7_advance_131 : decode cX7_advance 131 = .ok (.goto (-36), 3) := by decide +kernel
theorem dX7_advance_134 : decode cX7_advance 134 = .ok (.aload_n 0, 1) := by decide +kernel
theorem dX7_advance_135 : decode cX7_advance 135 = .ok (.aload_n 0, 1) := by decide +kernel
theorem dX7_advance_136 : decode cX7_advance 136 = .ok (.invokevirtual 35, 3) := by decide +kernel
theorem dX7_advance_139 : decode cX7_advance 139 = .ok (.putfield 28, 3) := by decide +kernel
theorem dX7_advance_142 : decode cX7_advance 142 = .ok (.goto 106, 3) := by decide +kernel
theorem dX7_advance_145 : decode cX7_advance 145 = .ok (.aload_n 0, 1) := by decide +kernel
theorem dX7_advance_146 : decode cX7_advance 146 = .ok (.getfield 9, 3) := by decide +kernel
theorem dX7_advance_149 : decode cX7_advance 149 = .ok (.aload_n 0, 1) := by decide +kernel
theorem dX7_advance_150 : decode cX7_advance 150 = .ok (.getfield 19, 3) := by decide +kernel
theorem dX7_advance_153 : decode cX7_advance 153 = .ok (.baload, 1) := by decide +kernel
theorem dX7_advance_154 : decode cX7_advance 154 = .ok (.invokestatic 39, 3) := by decide +kernel
theorem dX7_advance_157 : decode cX7_advance 157 = .ok (.ifCond .eq 10, 3) := by decide +kernel
theorem dX7_advance_160 : decode cX7_advance 160 = .ok (.aload_n 0, 1) := by decide +kernel
theorem dX7_advance_161 : decode cX7_advance 161 = .ok (.invokevirtual 42, 3) := by decide +kernel
theorem dX7_advance_164 : decode cX7_advance 164 = .ok (.goto 84, 3) := by decide +kernel
theorem dX7_advance_167 : decode cX7_advance 167 = .ok (.aload_n 0, 1) := by decide +kernel
theorem dX7_advance_168 : decode cX7_advance 168 = .ok (.aload_n 0, 1) := by decide +kernel
theorem dX7_advance_169 : decode cX7_advance 169 = .ok (.getfield 9, 3) := by decide +kernel
theorem dX7_advance_172 : decode cX7_advance 172 = .ok (.aload_n 0, 1) := by decide +kernel
theorem dX7_advance_173 : decode cX7_advance 173 = .ok (.getfield 19, 3) := by decide +kernel
theorem dX7_advance_176 : decode cX7_advance 176 = .ok (.baload, 1) := by decide +kernel
theorem dX7_advance_177 : decode cX7_advance 177 = .ok (.aload_n 0, 1) := by decide +kernel
theorem dX7_advance_178 : decode cX7_advance 178 = .ok (.getfield 19, 3) := by decide +kernel
theorem dX7_advance_181 : decode cX7_advance 181 = .ok (.iconst 1, 1) := by decide +kernel
theorem dX7_advance_182 : decode cX7_advance 182 = .ok (.iadd, 1) := by decide +kernel
theorem dX7_advance_183 : decode cX7_advance 183 = .ok (.aload_n 0, 1) := by decide +kernel
theorem dX7_advance_184 : decode cX7_advance 184 = .ok (.getfield 15, 3) := by decide +kernel
theorem dX7_advance_187 : decode cX7_advance 187 = .ok (.if_icmp .ge 23, 3) := by decide +kernel
theorem dX7_advance_190 : decode cX7_advance 190 = .ok (.aload_n 0, 1) := by decide +kernel
theorem dX7_advance_191 : decode cX7_advance 191 = .ok (.getfield 9, 3) := by decide +kernel
theorem dX7_advance_194 : decode cX7_advance 194 = .ok (.aload_n 0, 1) := by decide +kernel
theorem dX7_advance_195 : decode cX7_advance 195 = .ok (.getfield 19, 3) := by decide +kernel
theorem dX7_advance_198 : decode cX7_advance 198 = .ok (.iconst 1, 1) := by decide +kernel
theorem dX7_advance_199 : decode cX7_advance 199 = .ok (.iadd, 1) := by decide +kernel
theorem dX7_advance_200 : decode cX7_advance 200 = .ok (.baload, 1) := by decide +kernel
theorem dX7_advance_201 : decode cX7_advance 201 = .ok (.bipush 61, 2) := by decide +kernel
theorem dX7_advance_203 : decode cX7_advance 203 = .ok (.if_icmp .ne 7, 3) := by decide +kernel
theorem dX7_advance_206 : decode cX7_advance 206 = .ok (.iconst 1, 1) := by decide +kernel
theorem dX7_advance_207 : decode cX7_advance 207 = .ok (.goto 4, 3) := by decide +kernel
theorem dX7_advance_210 : decode cX7_advance 210 = .ok (.iconst 0, 1) := by decide +kernel
theorem dX7_advance_211 : decode cX7_advance 211 = .ok (.invokestatic 45, 3) := by decide +kernel
theorem dX7_advance_214 : decode cX7_advance 214 = .ok (.putfield 28, 3) := by decide +kernel
theorem dX7_advance_217 : decode cX7_advance 217 = .ok (.aload_n 0, 1) := by decide +kernel
theorem dX7_advance_218 : decode cX7_advance 218 = .ok (.dup, 1) := by decide +kernel
theorem dX7_advance_219 : decode cX7_advance 219 = .ok (.getfield 19, 3) := by decide +kernel
theorem dX7_advance_222 : decode cX7_advance 222 = .ok (.aload_n 0, 1) := by decide +kernel
theorem dX7_advance_223 : decode cX7_advance 223 = .ok (.getfield 28, 3) := by decide +kernel
theorem dX7_advance_226 : decode cX7_advance 226 = .ok (.iconst 5, 1) := by decide +kernel
theorem dX7_advance_227 : decode cX7_advance 227 = .ok (.if_icmp .eq 12, 3) := by decide +kernel
theorem dX7_advance_230 : decode cX7_advance 230 = .ok (.aload_n 0, 1) := by decide +kernel
theorem dX7_advance_231 : decode cX7_advance 231 = .ok (.getfield 28, 3) := by decide +kernel
theorem dX7_advance_234 : decode cX7_advance 234 = .ok (.bipush 7, 2) := by decide +kernel
theorem dX7_advance_236 : decode cX7_advance 236 = .ok (.if_icmp .ne 7, 3) := by decide +kernel
theorem dX7_advance_239 : decode cX7_advance 239 = .ok (.iconst 2, 1) := by decide +kernel
theorem dX7_advance_240 : decode cX7_advance 240 = .ok (.goto 4, 3) := by decide +kernel
theorem dX7_advance_243 : decode cX7_advance 243 = .ok (.iconst 1, 1) := by decide +kernel
theorem dX7_advance_244 : decode cX7_advance 244 = .ok (.iadd, 1) := by decide +kernel
theorem dX7_advance_245 : decode cX7_advance 245 = .ok (.putfield 19, 3) := by decide +kernel
theorem dX7_advance_248 : decode cX7_advance 248 = .ok (.return_, 1) := by decide +kernel
theorem dX7_readNumber_0 : decode cX7_readNumber 0 = .ok (.aload_n 0, 1) := by decide +kernel
theorem dX7_readNumber_1 : decode cX7_readNumber 1 = .ok (.bipush 17, 2) := by decide +kernel
theorem dX7_readNumber_3 : decode cX7_readNumber 3 = .ok (.putfield 28, 3) := by decide +kernel
theorem dX7_readNumber_6 : decode cX7_readNumber 6 = .ok (.aload_n 0, 1) := by decide +kernel
theorem dX7_readNumber_7 : decode cX7_readNumber 7 = .ok (.iconst 0, 1) := by decide +kernel
theorem dX7_readNumber_8 : decode cX7_readNumber 8 = .ok (.putfield 49, 3) := by decide +kernel
theorem dX7_readNumber_11 : decode cX7_readNumber 11 = .ok (.aload_n 0, 1) := by decide +kernel
theorem dX7_readNumber_12 : decode cX7_readNumber 12 = .ok (.getfield 19, 3) := by decide +kernel
theorem dX7_readNumber_15 : decode cX7_readNumber 15 = .ok (.aload_n 0, 1) := by decide +kernel
theorem dX7_readNumber_16 : decode cX7_readNumber 16 = .ok (.getfield 15, 3) := by decide +kernel
theorem dX7_readNumber_19 : decode cX7_readNumber 19 = .ok (.if_icmp .ge 61, 3) := by decide +kernel
theorem dX7_readNumber_22 : decode cX7_readNumber 22 = .ok (.aload_n 0, 1) := by decide +kernel
theorem dX7_readNumber_23 : decode cX7_readNumber 23 = .ok (.getfield 9, 3) := by decide +kernel
theorem dX7_readNumber_26 : decode cX7_readNumber 26 = .ok (.aload_n 0, 1) := by decide +kernel
theorem dX7_readNumber_27 : decode cX7_readNumber 27 = .ok (.getfield 19, 3) := by decide +kernel
theorem dX7_readNumber_30 : decode cX7_readNumber 30 = .ok (.baload, 1) := by decide +kernel
theorem dX7_readNumber_31 : decode cX7_readNumber 31 = .ok (.invokestatic 39, 3) := by decide +kernel
theorem dX7_readNumber_34 : decode cX7_readNumber 34 = .ok (.ifCond .eq 46, 3) := by decide +kernel
theorem dX7_readNumber_37 : decode cX7_readNumber 37 = .ok (.aload_n 0, 1) := by decide +kernel
theorem dX7_readNumber_38 : decode cX7_readNumber 38 = .ok (.aload_n 0, 1) := by decide +kernel
theorem dX7_readNumber_39 : decode cX7_readNumber 39 = .ok (.getfield 49, 3) := by decide +kernel
theorem dX7_readNumber_42 : decode cX7_readNumber 42 = .ok (.bipush 10, 2) := by decide +kernel
theorem dX7_readNumber_44 : decode cX7_readNumber 44 = .ok (.imul, 1) := by decide +kernel
theorem dX7_readNumber_45 : decode cX7_readNumber 45 = .ok (.aload_n 0, 1) := by decide +kernel
theorem dX7_readNumber_46 : decode cX7_readNumber 46 = .ok (.getfield 9, 3) := by decide +kernel
theorem dX7_readNumber_49 : decode cX7_readNumber 49 = .ok (.aload_n 0, 1) := by decide +kernel
theorem dX7_readNumber_50 : decode cX7_readNumber 50 = .ok (.getfield 19, 3) := by decide +kernel
theorem dX7_readNumber_53 : decode cX7_readNumber 53 = .ok (.baload, 1) := by decide +kernel
theorem dX7_readNumber_54 : decode cX7_readNumber 54 = .ok (.bipush 48, 2) := by decide +kernel
theorem dX7_readNumber_56 : decode cX7_readNumber 56 = .ok (.isub, 1) := by decide +kernel
theorem dX7_readNumber_57 : decode cX7_readNumber 57 = .ok (.iadd, 1) := by decide +kernel
theorem dX7_readNumber_58 : decode cX7_readNumber 58 = .ok (.sipush 10000, 3) := by decide +kernel
theorem dX7_readNumber_61 : decode cX7_readNumber 61 = .ok (.invokestatic 52, 3) := by decide +kernel
theorem dX7_readNumber_64 : decode cX7_readNumber 64 = .ok (.putfield 49, 3) := by decide +kernel
theorem dX7_readNumber_67 : decode cX7_readNumber 67 = .ok (.aload_n 0, 1) := by decide +kernel
theorem dX7_readNumber_68 : decode cX7_readNumber 68 = .ok (.dup, 1) := by decide +kernel
theorem dX7_readNumber_69 : decode cX7_readNumber 69 = .ok (.getfield 19, 3) := by decide +kernel
theorem dX7_readNumber_72 : decode cX7_readNumber 72 = .ok (.iconst 1, 1) := by decide +kernel
theorem dX7_readNumber_73 : decode cX7_readNumber 73 = .ok (.iadd, 1) := by decide +kernel
theorem dX7_readNumber_74 : decode cX7_readNumber 74 = .ok (.putfield 19, 3) := by decide +kernel
theorem dX7_readNumber_77 : decode cX7_readNumber 77 = .ok (.goto (-66), 3) := by decide +kernel
theorem dX7_readNumber_80 : decode cX7_readNumber 80 = .ok (.return_, 1) := by decide +kernel
theorem dX7_wordToken_0 : decode cX7_wordToken 0 = .ok (.aload_n 0, 1) := by decide +kernel
theorem dX7_wordToken_1 : decode cX7_wordToken 1 = .ok (.ldc 58, 2) := by decide +kernel
theorem dX7_wordToken_3 : decode cX7_wordToken 3 = .ok (.invokevirtual 60, 3) := by decide +kernel
theorem dX7_wordToken_6 : decode cX7_wordToken 6 = .ok (.ifCond .eq 5, 3) := by decide +kernel
theorem dX7_wordToken_9 : decode cX7_wordToken 9 = .ok (.iconst 1, 1) := by decide +kernel
theorem dX7_wordToken_10 : decode cX7_wordToken 10 = .ok (.ireturn, 1) := by decide +kernel
theorem dX7_wordToken_11 : decode cX7_wordToken 11 = .ok (.aload_n 0, 1) := by decide +kernel
theorem dX7_wordToken_12 : decode cX7_wordToken 12 = .ok (.ldc 64, 2) := by decide +kernel
theorem dX7_wordToken_14 : decode cX7_wordToken 14 = .ok (.invokevirtual 60, 3) := by decide +kernel
theorem dX7_wordToken_17 : decode cX7_wordToken 17 = .ok (.ifCond .eq 5, 3) := by decide +kernel
theorem dX7_wordToken_20 : decode cX7_wordToken 20 = .ok (.iconst 2, 1) := by decide +kernel
theorem dX7_wordToken_21 : decode cX7_wordToken 21 = .ok (.ireturn, 1) := by decide +kernel
theorem dX7_wordToken_22 : decode cX7_wordToken 22 = .ok (.aload_n 0, 1) := by decide +kernel
theorem dX7_wordToken_23 : decode cX7_wordToken 23 = .ok (.ldc 66, 2) := by decide +kernel
theorem dX7_wordToken_25 : decode cX7_wordToken 25 = .ok (.invokevirtual 60, 3) := by decide +kernel
theorem dX7_wordToken_28 : decode cX7_wordToken 28 = .ok (.ifCond .eq 5, 3) := by decide +kernel
theorem dX7_wordToken_31 : decode cX7_wordToken 31 = .ok (.iconst 3, 1) := by decide +kernel
theorem dX7_wordToken_32 : decode cX7_wordToken 32 = .ok (.ireturn, 1) := by decide +kernel
theorem dX7_wordToken_33 : decode cX7_wordToken 33 = .ok (.aload_n 0, 1) := by decide +kernel
theorem dX7_wordToken_34 : decode cX7_wordToken 34 = .ok (.ldc 68, 2) := by decide +kernel
theorem dX7_wordToken_36 : decode cX7_wordToken 36 = .ok (.invokevirtual 60, 3) := by decide +kernel
theorem dX7_wordToken_39 : decode cX7_wordToken 39 = .ok (.ifCond .eq 6, 3) := by decide +kernel
theorem dX7_wordToken_42 : decode cX7_wordToken 42 = .ok (.bipush 18, 2) := by decide +kernel
theorem dX7_wordToken_44 : decode cX7_wordToken 44 = .ok (.ireturn, 1) := by decide +kernel
theorem dX7_wordToken_45 : decode cX7_wordToken 45 = .ok (.aload_n 0, 1) := by decide +kernel
theorem dX7_wordToken_46 : decode cX7_wordToken 46 = .ok (.ldc 70, 2) := by decide +kernel
theorem dX7_wordToken_48 : decode cX7_wordToken 48 = .ok (.invokevirtual 60, 3) := by decide +kernel
theorem dX7_wordToken_51 : decode cX7_wordToken 51 = .ok (.ifCond .eq 6, 3) := by decide +kernel
theorem dX7_wordToken_54 : decode cX7_wordToken 54 = .ok (.bipush 19, 2) := by decide +kernel
theorem dX7_wordToken_56 : decode cX7_wordToken 56 = .ok (.ireturn, 1) := by decide +kernel
theorem dX7_wordToken_57 : decode cX7_wordToken 57 = .ok (.aload_n 0, 1) := by decide +kernel
theorem dX7_wordToken_58 : decode cX7_wordToken 58 = .ok (.ldc 72, 2) := by decide +kernel
theorem dX7_wordToken_60 : decode cX7_wordToken 60 = .ok (.invokevirtual 60, 3) := by decide +kernel
theorem dX7_wordToken_63 : decode cX7_wordToken 63 = .ok (.ifCond .eq 6, 3) := by decide +kernel
theorem dX7_wordToken_66 : decode cX7_wordToken 66 = .ok (.bipush 20, 2) := by decide +kernel
theorem dX7_wordToken_68 : decode cX7_wordToken 68 = .ok (.ireturn, 1) := by decide +kernel
theorem dX7_wordToken_69 : decode cX7_wordToken 69 = .ok (.aload_n 0, 1) := by decide +kernel
theorem dX7_wordToken_70 : decode cX7_wordToken 70 = .ok (.ldc 74, 2) := by decide +kernel
theorem dX7_wordToken_72 : decode cX7_wordToken 72 = .ok (.invokevirtual 60, 3) := by decide +kernel
theorem dX7_wordToken_75 : decode cX7_wordToken 75 = .ok (.ifCond .eq 6, 3) := by decide +kernel
theorem dX7_wordToken_78 : decode cX7_wordToken 78 = .ok (.bipush 21, 2) := by decide +kernel
theorem dX7_wordToken_80 : decode cX7_wordToken 80 = .ok (.ireturn, 1) := by decide +kernel
theorem dX7_wordToken_81 : decode cX7_wordToken 81 = .ok (.aload_n 0, 1) := by decide +kernel
theorem dX7_wordToken_82 : decode cX7_wordToken 82 = .ok (.ldc 76, 2) := by decide +kernel
theorem dX7_wordToken_84 : decode cX7_wordToken 84 = .ok (.invokevirtual 60, 3) := by decide +kernel
theorem dX7_wordToken_87 : decode cX7_wordToken 87 = .ok (.ifCond .eq 6, 3) := by decide +kernel
theorem dX7_wordToken_90 : decode cX7_wordToken 90 = .ok (.bipush 22, 2) := by decide +kernel
theorem dX7_wordToken_92 : decode cX7_wordToken 92 = .ok (.ireturn, 1) := by decide +kernel
theorem dX7_wordToken_93 : decode cX7_wordToken 93 = .ok (.aload_n 0, 1) := by decide +kernel
theorem dX7_wordToken_94 : decode cX7_wordToken 94 = .ok (.ldc 78, 2) := by decide +kernel
theorem dX7_wordToken_96 : decode cX7_wordToken 96 = .ok (.invokevirtual 60, 3) := by decide +kernel
theorem dX7_wordToken_99 : decode cX7_wordToken 99 = .ok (.ifCond .eq 6, 3) := by decide +kernel
theorem dX7_wordToken_102 : decode cX7_wordToken 102 = .ok (.bipush 23, 2) := by decide +kernel
theorem dX7_wordToken_104 : decode cX7_wordToken 104 = .ok (.ireturn, 1) := by decide +kernel
theorem dX7_wordToken_105 : decode cX7_wordToken 105 = .ok (.aload_n 0, 1) := by decide +kernel
theorem dX7_wordToken_106 : decode cX7_wordToken 106 = .ok (.ldc 80, 2) := by decide +kernel
theorem dX7_wordToken_108 : decode cX7_wordToken 108 = .ok (.invokevirtual 60, 3) := by decide +kernel
theorem dX7_wordToken_111 : decode cX7_wordToken 111 = .ok (.ifCond .eq 6, 3) := by decide +kernel
theorem dX7_wordToken_114 : decode cX7_wordToken 114 = .ok (.bipush 26, 2) := by decide +kernel
theorem dX7_wordToken_116 : decode cX7_wordToken 116 = .ok (.ireturn, 1) := by decide +kernel
theorem dX7_wordToken_117 : decode cX7_wordToken 117 = .ok (.aload_n 0, 1) := by decide +kernel
theorem dX7_wordToken_118 : decode cX7_wordToken 118 = .ok (.ldc 82, 2) := by decide +kernel
theorem dX7_wordToken_120 : decode cX7_wordToken 120 = .ok (.invokevirtual 60, 3) := by decide +kernel
theorem dX7_wordToken_123 : decode cX7_wordToken 123 = .ok (.ifCond .eq 6, 3) := by decide +kernel
theorem dX7_wordToken_126 : decode cX7_wordToken 126 = .ok (.bipush 27, 2) := by decide +kernel
theorem dX7_wordToken_128 : decode cX7_wordToken 128 = .ok (.ireturn, 1) := by decide +kernel
theorem dX7_wordToken_129 : decode cX7_wordToken 129 = .ok (.aload_n 0, 1) := by decide +kernel
theorem dX7_wordToken_130 : decode cX7_wordToken 130 = .ok (.ldc 84, 2) := by decide +kernel
theorem dX7_wordToken_132 : decode cX7_wordToken 132 = .ok (.invokevirtual 60, 3) := by decide +kernel
theorem dX7_wordToken_135 : decode cX7_wordToken 135 = .ok (.ifCond .eq 6, 3) := by decide +kernel
theorem dX7_wordToken_138 : decode cX7_wordToken 138 = .ok (.bipush 28, 2) := by decide +kernel
theorem dX7_wordToken_140 : decode cX7_wordToken 140 = .ok (.ireturn, 1) := by decide +kernel
theorem dX7_wordToken_141 : decode cX7_wordToken 141 = .ok (.aload_n 0, 1) := by decide +kernel
theorem dX7_wordToken_142 : decode cX7_wordToken 142 = .ok (.ldc 86, 2) := by decide +kernel
theorem dX7_wordToken_144 : decode cX7_wordToken 144 = .ok (.invokevirtual 60, 3) := by decide +kernel
theorem dX7_wordToken_147 : decode cX7_wordToken 147 = .ok (.ifCond .eq 6, 3) := by decide +kernel
theorem dX7_wordToken_150 : decode cX7_wordToken 150 = .ok (.bipush 29, 2) := by decide +kernel
theorem dX7_wordToken_152 : decode cX7_wordToken 152 = .ok (.ireturn, 1) := by decide +kernel
theorem dX7_wordToken_153 : decode cX7_wordToken 153 = .ok (.aload_n 0, 1) := by decide +kernel
theorem dX7_wordToken_154 : decode cX7_wordToken 154 = .ok (.ldc 88, 2) := by decide +kernel
theorem dX7_wordToken_156 : decode cX7_wordToken 156 = .ok (.invokevirtual 60, 3) := by decide +kernel
theorem dX7_wordToken_159 : decode cX7_wordToken 159 = .ok (.ifCond .eq 6, 3) := by decide +kernel
theorem dX7_wordToken_162 : decode cX7_wordToken 162 = .ok (.bipush 30, 2) := by decide +kernel
theorem dX7_wordToken_164 : decode cX7_wordToken 164 = .ok (.ireturn, 1) := by decide +kernel
theorem dX7_wordToken_165 : decode cX7_wordToken 165 = .ok (.aload_n 0, 1) := by decide +kernel
theorem dX7_wordToken_166 : decode cX7_wordToken 166 = .ok (.ldc 90, 2) := by decide +kernel
theorem dX7_wordToken_168 : decode cX7_wordToken 168 = .ok (.invokevirtual 60, 3) := by decide +kernel
theorem dX7_wordToken_171 : decode cX7_wordToken 171 = .ok (.ifCond .eq 6, 3) := by decide +kernel
theorem dX7_wordToken_174 : decode cX7_wordToken 174 = .ok (.bipush 31, 2) := by decide +kernel
theorem dX7_wordToken_176 : decode cX7_wordToken 176 = .ok (.ireturn, 1) := by decide +kernel
theorem dX7_wordToken_177 : decode cX7_wordToken 177 = .ok (.aload_n 0, 1) := by decide +kernel
theorem dX7_wordToken_178 : decode cX7_wordToken 178 = .ok (.ldc 92, 2) := by decide +kernel
theorem dX7_wordToken_180 : decode cX7_wordToken 180 = .ok (.invokevirtual 60, 3) := by decide +kernel
theorem dX7_wordToken_183 : decode cX7_wordToken 183 = .ok (.ifCond .eq 6, 3) := by decide +kernel
theorem dX7_wordToken_186 : decode cX7_wordToken 186 = .ok (.bipush 32, 2) := by decide +kernel
theorem dX7_wordToken_188 : decode cX7_wordToken 188 = .ok (.ireturn, 1) := by decide +kernel
theorem dX7_wordToken_189 : decode cX7_wordToken 189 = .ok (.aload_n 0, 1) := by decide +kernel
theorem dX7_wordToken_190 : decode cX7_wordToken 190 = .ok (.ldc 94, 2) := by decide +kernel
theorem dX7_wordToken_192 : decode cX7_wordToken 192 = .ok (.invokevirtual 60, 3) := by decide +kernel
theorem dX7_wordToken_195 : decode cX7_wordToken 195 = .ok (.ifCond .eq 6, 3) := by decide +kernel
theorem dX7_wordToken_198 : decode cX7_wordToken 198 = .ok (.bipush 33, 2) := by decide +kernel
theorem dX7_wordToken_200 : decode cX7_wordToken 200 = .ok (.ireturn, 1) := by decide +kernel
theorem dX7_wordToken_201 : decode cX7_wordToken 201 = .ok (.aload_n 0, 1) := by decide +kernel
theorem dX7_wordToken_202 : decode cX7_wordToken 202 = .ok (.ldc 96, 2) := by decide +kernel
theorem dX7_wordToken_204 : decode cX7_wordToken 204 = .ok (.invokevirtual 60, 3) := by decide +kernel
theorem dX7_wordToken_207 : decode cX7_wordToken 207 = .ok (.ifCond .eq 6, 3) := by decide +kernel
theorem dX7_wordToken_210 : decode cX7_wordToken 210 = .ok (.bipush 34, 2) := by decide +kernel
theorem dX7_wordToken_212 : decode cX7_wordToken 212 = .ok (.ireturn, 1) := by decide +kernel
theorem dX7_wordToken_213 : decode cX7_wordToken 213 = .ok (.aload_n 0, 1) := by decide +kernel
theorem dX7_wordToken_214 : decode cX7_wordToken 214 = .ok (.ldc 98, 2) := by decide +kernel
theorem dX7_wordToken_216 : decode cX7_wordToken 216 = .ok (.invokevirtual 60, 3) := by decide +kernel
theorem dX7_wordToken_219 : decode cX7_wordToken 219 = .ok (.ifCond .eq 6, 3) := by decide +kernel
theorem dX7_wordToken_222 : decode cX7_wordToken 222 = .ok (.bipush 35, 2) := by decide +kernel
theorem dX7_wordToken_224 : decode cX7_wordToken 224 = .ok (.ireturn, 1) := by decide +kernel
theorem dX7_wordToken_225 : decode cX7_wordToken 225 = .ok (.aload_n 0, 1) := by decide +kernel
theorem dX7_wordToken_226 : decode cX7_wordToken 226 = .ok (.ldc 100, 2) := by decide +kernel
theorem dX7_wordToken_228 : decode cX7_wordToken 228 = .ok (.invokevirtual 60, 3) := by decide +kernel
theorem dX7_wordToken_231 : decode cX7_wordToken 231 = .ok (.ifCond .eq 6, 3) := by decide +kernel
theorem dX7_wordToken_234 : decode cX7_wordToken 234 = .ok (.bipush 36, 2) := by decide +kernel
theorem dX7_wordToken_236 : decode cX7_wordToken 236 = .ok (.ireturn, 1) := by decide +kernel
theorem dX7_wordToken_237 : decode cX7_wordToken 237 = .ok (.bipush 25, 2) := by decide +kernel
theorem dX7_wordToken_239 : decode cX7_wordToken 239 = .ok (.ireturn, 1) := by decide +kernel
theorem dX7_reads_0 : decode cX7_reads 0 = .ok (.aload_n 0, 1) := by decide +kernel
theorem dX7_reads_1 : decode cX7_reads 1 = .ok (.getfield 19, 3) := by decide +kernel
theorem dX7_reads_4 : decode cX7_reads 4 = .ok (.aload_n 0, 1) := by decide +kernel
theorem dX7_reads_5 : decode cX7_reads 5 = .ok (.getfield 25, 3) := by decide +kernel
theorem dX7_reads_8 : decode cX7_reads 8 = .ok (.isub, 1) := by decide +kernel
theorem dX7_reads_9 : decode cX7_reads 9 = .ok (.aload_n 1, 1) := by decide +kernel
theorem dX7_reads_10 : decode cX7_reads 10 = .ok (.invokevirtual 102, 3) := by decide +kernel
theorem dX7_reads_13 : decode cX7_reads 13 = .ok (.if_icmp .eq 5, 3) := by decide +kernel
theorem dX7_reads_16 : decode cX7_reads 16 = .ok (.iconst 0, 1) := by decide +kernel
theorem dX7_reads_17 : decode cX7_reads 17 = .ok (.ireturn, 1) := by decide +kernel
theorem dX7_reads_18 : decode cX7_reads 18 = .ok (.iconst 0, 1) := by decide +kernel
theorem dX7_reads_19 : decode cX7_reads 19 = .ok (.istore_n 2, 1) := by decide +kernel
theorem dX7_reads_20 : decode cX7_reads 20 = .ok (.iload_n 2, 1) := by decide +kernel
theorem dX7_reads_21 : decode cX7_reads 21 = .ok (.aload_n 1, 1) := by decide +kernel
theorem dX7_reads_22 : decode cX7_reads 22 = .ok (.invokevirtual 102, 3) := by decide +kernel
theorem dX7_reads_25 : decode cX7_reads 25 = .ok (.if_icmp .ge 30, 3) := by decide +kernel
theorem dX7_reads_28 : decode cX7_reads 28 = .ok (.aload_n 0, 1) := by decide +kernel
theorem dX7_reads_29 : decode cX7_reads 29 = .ok (.getfield 9, 3) := by decide +kernel
theorem dX7_reads_32 : decode cX7_reads 32 = .ok (.aload_n 0, 1) := by decide +kernel
theorem dX7_reads_33 : decode cX7_reads 33 = .ok (.getfield 25, 3) := by decide +kernel
theorem dX7_reads_36 : decode cX7_reads 36 = .ok (.iload_n 2, 1) := by decide +kernel
theorem dX7_reads_37 : decode cX7_reads 37 = .ok (.iadd, 1) := by decide +kernel
theorem dX7_reads_38 : decode cX7_reads 38 = .ok (.baload, 1) := by decide +kernel
theorem dX7_reads_39 : decode cX7_reads 39 = .ok (.aload_n 1, 1) := by decide +kernel
theorem dX7_reads_40 : decode cX7_reads 40 = .ok (.iload_n 2, 1) := by decide +kernel
theorem dX7_reads_41 : decode cX7_reads 41 = .ok (.invokevirtual 106, 3) := by decide +kernel
theorem dX7_reads_44 : decode cX7_reads 44 = .ok (.if_icmp .eq 5, 3) := by decide +kernel
theorem dX7_reads_47 : decode cX7_reads 47 = .ok (.iconst 0, 1) := by decide +kernel
theorem dX7_reads_48 : decode cX7_reads 48 = .ok (.ireturn, 1) := by decide +kernel
theorem dX7_reads_49 : decode cX7_reads 49 = .ok (.iinc 2 1, 3) := by decide +kernel
theorem dX7_reads_52 : decode cX7_reads 52 = .ok (.goto (-32), 3) := by decide +kernel
theorem dX7_reads_55 : decode cX7_reads 55 = .ok (.iconst 1, 1) := by decide +kernel
theorem dX7_reads_56 : decode cX7_reads 56 = .ok (.ireturn, 1) := by decide +kernel
theorem dX7_signToken_0 : decode cX7_signToken 0 = .ok (.iload_n 0, 1) := by decide +kernel
theorem dX7_signToken_1 : decode cX7_signToken 1 = .ok (.tableswitch 197 35 62 #[158, 197, 197, 197, 197, 183, 187, 173, 163, 197, 168, 197, 178, 197, 197, 197, 197, 197, 197, 197, 197, 197, 197, 197, 192, 127, 153, 139], 127) := by decide +kernel
theorem dX7_signToken_128 : decode cX7_signToken 128 = .ok (.iload_n 1, 1) := by decide +kernel
theorem dX7_signToken_129 : decode cX7_signToken 129 = .ok (.ifCond .eq 7, 3) := by decide +kernel
theorem dX7_signToken_132 : decode cX7_signToken 132 = .ok (.iconst 5, 1) := by decide +kernel
theorem dX7_signToken_133 : decode cX7_signToken 133 = .ok (.goto 67, 3) := by decide +kernel
theorem dX7_signToken_136 : decode cX7_signToken 136 = .ok (.iconst 4, 1) := by decide +kernel
theorem dX7_signToken_137 : decode cX7_signToken 137 = .ok (.goto 63, 3) := by decide +kernel
theorem dX7_signToken_140 : decode cX7_signToken 140 = .ok (.iload_n 1, 1) := by decide +kernel
theorem dX7_signToken_141 : decode cX7_signToken 141 = .ok (.ifCond .eq 8, 3) := by decide +kernel
theorem dX7_signToken_144 : decode cX7_signToken 144 = .ok (.bipush 7, 2) := by decide +kernel
theorem dX7_signToken_146 : decode cX7_signToken 146 = .ok (.goto 54, 3) := by decide +kernel
theorem dX7_signToken_149 : decode cX7_signToken 149 = .ok (.bipush 6, 2) := by decide +kernel
theorem dX7_signToken_151 : decode cX7_signToken 151 = .ok (.goto 49, 3) := by decide +kernel
theorem dX7_signToken_154 : decode cX7_signToken 154 = .ok (.bipush 8, 2) := by decide +kernel
theorem dX7_signToken_156 : decode cX7_signToken 156 = .ok (.goto 44, 3) := by decide +kernel
theorem dX7_signToken_159 : decode cX7_signToken 159 = .ok (.bipush 9, 2) := by decide +kernel
theorem dX7_signToken_161 : decode cX7_signToken 161 = .ok (.goto 39, 3) := by decide +kernel
theorem dX7_signToken_164 : decode cX7_signToken 164 = .ok (.bipush 10, 2) := by decide +kernel
theorem dX7_signToken_166 : decode cX7_signToken 166 = .ok (.goto 34, 3) := by decide +kernel
theorem dX7_signToken_169 : decode cX7_signToken 169 = .ok (.bipush 11, 2) := by decide +kernel
theorem dX7_signToken_171 : decode cX7_signToken 171 = .ok (.goto 29, 3) := by decide +kernel
theorem dX7_signToken_174 : decode cX7_signToken 174 = .ok (.bipush 12, 2) := by decide +kernel
theorem dX7_signToken_176 : decode cX7_signToken 176 = .ok (.goto 24, 3) := by decide +kernel
theorem dX7_signToken_179 : decode cX7_signToken 179 = .ok (.bipush 13, 2) := by decide +kernel
theorem dX7_signToken_181 : decode cX7_signToken 181 = .ok (.goto 19, 3) := by decide +kernel
theorem dX7_signToken_184 : decode cX7_signToken 184 = .ok (.iconst 0, 1) := by decide +kernel
theorem dX7_signToken_185 : decode cX7_signToken 185 = .ok (.goto 15, 3) := by decide +kernel
theorem dX7_signToken_188 : decode cX7_signToken 188 = .ok (.bipush 15, 2) := by decide +kernel
theorem dX7_signToken_190 : decode cX7_signToken 190 = .ok (.goto 10, 3) := by decide +kernel
theorem dX7_signToken_193 : decode cX7_signToken 193 = .ok (.bipush 16, 2) := by decide +kernel
theorem dX7_signToken_195 : decode cX7_signToken 195 = .ok (.goto 5, 3) := by decide +kernel
theorem dX7_signToken_198 : decode cX7_signToken 198 = .ok (.bipush 25, 2) := by decide +kernel
theorem dX7_signToken_200 : decode cX7_signToken 200 = .ok (.ireturn, 1) := by decide +kernel
theorem dX7_isLetter_0 : decode cX7_isLetter 0 = .ok (.iload_n 0, 1) := by decide +kernel
theorem dX7_isLetter_1 : decode cX7_isLetter 1 = .ok (.bipush 97, 2) := by decide +kernel
theorem dX7_isLetter_3 : decode cX7_isLetter 3 = .ok (.if_icmp .lt 9, 3) := by decide +kernel
theorem dX7_isLetter_6 : decode cX7_isLetter 6 = .ok (.iload_n 0, 1) := by decide +kernel
theorem dX7_isLetter_7 : decode cX7_isLetter 7 = .ok (.bipush 122, 2) := by decide +kernel
theorem dX7_isLetter_9 : decode cX7_isLetter 9 = .ok (.if_icmp .le 15, 3) := by decide +kernel
theorem dX7_isLetter_12 : decode cX7_isLetter 12 = .ok (.iload_n 0, 1) := by decide +kernel
theorem dX7_isLetter_13 : decode cX7_isLetter 13 = .ok (.bipush 65, 2) := by decide +kernel
theorem dX7_isLetter_15 : decode cX7_isLetter 15 = .ok (.if_icmp .lt 13, 3) := by decide +kernel
theorem dX7_isLetter_18 : decode cX7_isLetter 18 = .ok (.iload_n 0, 1) := by decide +kernel
theorem dX7_isLetter_19 : decode cX7_isLetter 19 = .ok (.bipush 90, 2) := by decide +kernel
theorem dX7_isLetter_21 : decode cX7_isLetter 21 = .ok (.if_icmp .gt 7, 3) := by decide +kernel
theorem dX7_isLetter_24 : decode cX7_isLetter 24 = .ok (.iconst 1, 1) := by decide +kernel
theorem dX7_isLetter_25 : decode cX7_isLetter 25 = .ok (.goto 4, 3) := by decide +kernel
theorem dX7_isLetter_28 : decode cX7_isLetter 28 = .ok (.iconst 0, 1) := by decide +kernel
theorem dX7_isLetter_29 : decode cX7_isLetter 29 = .ok (.ireturn, 1) := by decide +kernel
theorem dX7_isDigit_0 : decode cX7_isDigit 0 = .ok (.iload_n 0, 1) := by decide +kernel
theorem dX7_isDigit_1 : decode cX7_isDigit 1 = .ok (.bipush 48, 2) := by decide +kernel
theorem dX7_isDigit_3 : decode cX7_isDigit 3 = .ok (.if_icmp .lt 13, 3) := by decide +kernel
theorem dX7_isDigit_6 : decode cX7_isDigit 6 = .ok (.iload_n 0, 1) := by decide +kernel
theorem dX7_isDigit_7 : decode cX7_isDigit 7 = .ok (.bipush 57, 2) := by decide +kernel
theorem dX7_isDigit_9 : decode cX7_isDigit 9 = .ok (.if_icmp .gt 7, 3) := by decide +kernel
theorem dX7_isDigit_12 : decode cX7_isDigit 12 = .ok (.iconst 1, 1) := by decide +kernel
theorem dX7_isDigit_13 : decode cX7_isDigit 13 = .ok (.goto 4, 3) := by decide +kernel
theorem dX7_isDigit_16 : decode cX7_isDigit 16 = .ok (.iconst 0, 1) := by decide +kernel
theorem dX7_isDigit_17 : decode cX7_isDigit 17 = .ok (.ireturn, 1) := by decide +kernel
theorem dX8_init_0 : decode cX8_init 0 = .ok (.aload_n 0, 1) := by decide +kernel
theorem dX8_init_1 : decode cX8_init 1 = .ok (.invokespecial 1, 3) := by decide +kernel
theorem dX8_init_4 : decode cX8_init 4 = .ok (.aload_n 0, 1) := by decide +kernel
theorem dX8_init_5 : decode cX8_init 5 = .ok (.bipush 10, 2) := by decide +kernel
theorem dX8_init_7 : decode cX8_init 7 = .ok (.putfield 7, 3) := by decide +kernel
theorem dX8_init_10 : decode cX8_init 10 = .ok (.aload_n 0, 1) := by decide +kernel
theorem dX8_init_11 : decode cX8_init 11 = .ok (.bipush 10, 2) := by decide +kernel
theorem dX8_init_13 : decode cX8_init 13 = .ok (.putfield 13, 3) := by decide +kernel
theorem dX8_init_16 : decode cX8_init 16 = .ok (.return_, 1) := by decide +kernel
theorem dX8_copyWorld_0 : decode cX8_copyWorld 0 = .ok (.aload_n 0, 1) := by decide +kernel
theorem dX8_copyWorld_1 : decode cX8_copyWorld 1 = .ok (.aload_n 1, 1) := by decide +kernel
theorem dX8_copyWorld_2 : decode cX8_copyWorld 2 = .ok (.getfield 7, 3) := by decide +kernel
theorem dX8_copyWorld_5 : decode cX8_copyWorld 5 = .ok (.putfield 7, 3) := by decide +kernel
theorem dX8_copyWorld_8 : decode cX8_copyWorld 8 = .ok (.aload_n 0, 1) := by decide +kernel
theorem dX8_copyWorld_9 : decode cX8_copyWorld 9 = .ok (.aload_n 1, 1) := by decide +kernel
theorem dX8_copyWorld_10 : decode cX8_copyWorld 10 = .ok (.getfield 13, 3) := by decide +kernel
theorem dX8_copyWorld_13 : decode cX8_copyWorld 13 = .ok (.putfield 13, 3) := by decide +kernel
theorem dX8_copyWorld_16 : decode cX8_copyWorld 16 = .ok (.aload_n 0, 1) := by decide +kernel
theorem dX8_copyWorld_17 : decode cX8_copyWorld 17 = .ok (.aload_n 1, 1) := by decide +kernel
theorem dX8_copyWorld_18 : decode cX8_copyWorld 18 = .ok (.getfield 16, 3) := by decide +kernel
theorem dX8_copyWorld_21 : decode cX8_copyWorld 21 = .ok (.putfield 16, 3) := by decide +kernel
theorem dX8_copyWorld_24 : decode cX8_copyWorld 24 = .ok (.aload_n 0, 1) := by decide +kernel
theorem dX8_copyWorld_25 : decode cX8_copyWorld 25 = .ok (.aload_n 1, 1) := by decide +kernel
theorem dX8_copyWorld_26 : decode cX8_copyWorld 26 = .ok (.getfield 19, 3) := by decide +kernel
theorem dX8_copyWorld_29 : decode cX8_copyWorld 29 = .ok (.putfield 19, 3) := by decide +kernel
theorem dX8_copyWorld_32 : decode cX8_copyWorld 32 = .ok (.aload_n 0, 1) := by decide +kernel
theorem dX8_copyWorld_33 : decode cX8_copyWorld 33 = .ok (.aload_n 1, 1) := by decide +kernel
theorem dX8_copyWorld_34 : decode cX8_copyWorld 34 = .ok (.getfield 22, 3) := by decide +kernel
theorem dX8_copyWorld_37 : decode cX8_copyWorld 37 = .ok (.putfield 22, 3) := by decide +kernel
theorem dX8_copyWorld_40 : decode cX8_copyWorld 40 = .ok (.aload_n 0, 1) := by decide +kernel
theorem dX8_copyWorld_41 : decode cX8_copyWorld 41 = .ok (.aload_n 1, 1) := by decide +kernel
theorem dX8_copyWorld_42 : decode cX8_copyWorld 42 = .ok (.getfield 25, 3) := by decide +kernel
theorem dX8_copyWorld_45 : decode cX8_copyWorld 45 = .ok (.putfield 25, 3) := by decide +kernel
theorem dX8_copyWorld_48 : decode cX8_copyWorld 48 = .ok (.return_, 1) := by decide +kernel
theorem dX9_init_0 : decode cX9_init 0 = .ok (.aload_n 0, 1) := by decide +kernel
theorem dX9_init_1 : decode cX9_init 1 = .ok (.invokespecial 1, 3) := by decide +kernel
theorem dX9_init_4 : decode cX9_init 4 = .ok (.aload_n 0, 1) := by decide +kernel
theorem dX9_init_5 : decode cX9_init 5 = .ok (.new 7, 3) := by decide +kernel
theorem dX9_init_8 : decode cX9_init 8 = .ok (.dup, 1) := by decide +kernel
theorem dX9_init_9 : decode cX9_init 9 = .ok (.invokespecial 9, 3) := by decide +kernel
theorem dX9_init_12 : decode cX9_init 12 = .ok (.putfield 10, 3) := by decide +kernel
theorem dX9_init_15 : decode cX9_init 15 = .ok (.aload_n 0, 1) := by decide +kernel
theorem dX9_init_16 : decode cX9_init 16 = .ok (.new 7, 3) := by decide +kernel
theorem dX9_init_19 : decode cX9_init 19 = .ok (.dup, 1) := by decide +kernel
theorem dX9_init_20 : decode cX9_init 20 = .ok (.invokespecial 9, 3) := by decide +kernel
theorem dX9_init_23 : decode cX9_init 23 = .ok (.putfield 16, 3) := by decide +kernel
theorem dX9_init_26 : decode cX9_init 26 = .ok (.aload_n 0, 1) := by decide +kernel
theorem dX9_init_27 : decode cX9_init 27 = .ok (.new 19, 3) := by decide +kernel
theorem dX9_init_30 : decode cX9_init 30 = .ok (.dup, 1) := by decide +kernel
theorem dX9_init_31 : decode cX9_init 31 = .ok (.invokespecial 21, 3) := by decide +kernel
theorem dX9_init_34 : decode cX9_init 34 = .ok (.putfield 22, 3) := by decide +kernel
theorem dX9_init_37 : decode cX9_init 37 = .ok (.aload_n 0, 1) := by decide +kernel
theorem dX9_init_38 : decode cX9_init 38 = .ok (.new 26, 3) := by decide +kernel
theorem dX9_init_41 : decode cX9_init 41 = .ok (.dup, 1) := by decide +kernel
theorem dX9_init_42 : decode cX9_init 42 = .ok (.aload_n 0, 1) := by decide +kernel
theorem dX9_init_43 : decode cX9_init 43 = .ok (.getfield 22, 3) := by decide +kernel
theorem dX9_init_46 : decode cX9_init 46 = .ok (.invokespecial 28, 3) := by decide +kernel
theorem dX9_init_49 : decode cX9_init 49 = .ok (.putfield 31, 3) := by decide +kernel
theorem dX9_init_52 : decode cX9_init 52 = .ok (.aload_n 0, 1) := by decide +kernel
theorem dX9_init_53 : decode cX9_init 53 = .ok (.iconst 4, 1) := by decide +kernel
theorem dX9_init_54 : decode cX9_init 54 = .ok (.anewarray 35, 3) := by decide +kernel
theorem dX9_init_57 : decode cX9_init 57 = .ok (.putfield 37, 3) := by decide +kernel
theorem dX9_init_60 : decode cX9_init 60 = .ok (.aload_n 0, 1) := by decide +kernel
theorem dX9_init_61 : decode cX9_init 61 = .ok (.new 41, 3) := by decide +kernel
theorem dX9_init_64 : decode cX9_init 64 = .ok (.dup, 1) := by decide +kernel
theorem dX9_init_65 : decode cX9_init 65 = .ok (.invokespecial 43, 3) := by decide +kernel
theorem dX9_init_68 : decode cX9_init 68 = .ok (.putfield 44, 3) := by decide +kernel
theorem dX9_init_71 : decode cX9_init 71 = .ok (.aload_n 0, 1) := by decide +kernel
theorem dX9_init_72 : decode cX9_init 72 = .ok (.new 48, 3) := by decide +kernel
theorem dX9_init_75 : decode cX9_init 75 = .ok (.dup, 1) := by decide +kernel
theorem dX9_init_76 : decode cX9_init 76 = .ok (.invokespecial 50, 3) := by decide +kernel
theorem dX9_init_79 : decode cX9_init 79 = .ok (.putfield 51, 3) := by decide +kernel
theorem dX9_init_82 : decode cX9_init 82 = .ok (.aload_n 0, 1) := by decide +kernel
theorem dX9_init_83 : decode cX9_init 83 = .ok (.new 55, 3) := by decide +kernel
theorem dX9_init_86 : decode cX9_init 86 = .ok (.dup, 1) := by decide +kernel
theorem dX9_init_87 : decode cX9_init 87 = .ok (.invokespecial 57, 3) := by decide +kernel
theorem dX9_init_90 : decode cX9_init 90 = .ok (.putfield 58, 3) := by decide +kernel
theorem dX9_init_93 : decode cX9_init 93 = .ok (.iconst 0, 1) := by decide +kernel
theorem dX9_init_94 : decode cX9_init 94 = .ok (.istore_n 1, 1) := by decide +kernel
theorem dX9_init_95 : decode cX9_init 95 = .ok (.iload_n 1, 1) := by decide +kernel
theorem dX9_init_96 : decode cX9_init 96 = .ok (.aload_n 0, 1) := by decide +kernel
theorem dX9_init_97 : decode cX9_init 97 = .ok (.getfield 37, 3) := by decide +kernel
theorem dX9_init_100 : decode cX9_init 100 = .ok (.arraylength, 1) := by decide +kernel
theorem dX9_init_101 : decode cX9_init 101 = .ok (.if_icmp .ge 22, 3) := by decide +kernel
theorem dX9_init_104 : decode cX9_init 104 = .ok (.aload_n 0, 1) := by decide +kernel
theorem dX9_init_105 : decode cX9_init 105 = .ok (.getfield 37, 3) := by decide +kernel
theorem dX9_init_108 : decode cX9_init 108 = .ok (.iload_n 1, 1) := by decide +kernel
theorem dX9_init_109 : decode cX9_init 109 = .ok (.new 35, 3) := by decide +kernel
theorem dX9_init_112 : decode cX9_init 112 = .ok (.dup, 1) := by decide +kernel
theorem dX9_init_113 : decode cX9_init 113 = .ok (.invokespecial 62, 3) := by decide +kernel
theorem dX9_init_116 : decode cX9_init 116 = .ok (.aastore, 1) := by decide +kernel
theorem dX9_init_117 : decode cX9_init 117 = .ok (.iinc 1 1, 3) := by decide +kernel
theorem dX9_init_120 : decode cX9_init 120 = .ok (.goto (-25), 3) := by decide +kernel
theorem dX9_init_123 : decode cX9_init 123 = .ok (.return_, 1) := by decide +kernel
theorem dX9_beam_0 : decode cX9_beam 0 = .ok (.iload_n 1, 1) := by decide +kernel
theorem dX9_beam_1 : decode cX9_beam 1 = .ok (.iconst 1, 1) := by decide +kernel
theorem dX9_beam_2 : decode cX9_beam 2 = .ok (.bipush 99, 2) := by decide +kernel
theorem dX9_beam_4 : decode cX9_beam 4 = .ok (.invokestatic 63, 3) := by decide +kernel
theorem dX9_beam_7 : decode cX9_beam 7 = .ok (.ifCond .eq 24, 3) := by decide +kernel
theorem dX9_beam_10 : decode cX9_beam 10 = .ok (.iload_n 2, 1) := by decide +kernel
theorem dX9_beam_11 : decode cX9_beam 11 = .ok (.iconst 1, 1) := by decide +kernel
theorem dX9_beam_12 : decode cX9_beam 12 = .ok (.bipush 99, 2) := by decide +kernel
theorem dX9_beam_14 : decode cX9_beam 14 = .ok (.invokestatic 63, 3) := by decide +kernel
theorem dX9_beam_17 : decode cX9_beam 17 = .ok (.ifCond .eq 14, 3) := by decide +kernel
theorem dX9_beam_20 : decode cX9_beam 20 = .ok (.iload_n 3, 1) := by decide +kernel
theorem dX9_beam_21 : decode cX9_beam 21 = .ok (.iconst 0, 1) := by decide +kernel
theorem dX9_beam_22 : decode cX9_beam 22 = .ok (.sipush 9999, 3) := by decide +kernel
theorem dX9_beam_25 : decode cX9_beam 25 = .ok (.invokestatic 63, 3) := by decide +kernel
theorem dX9_beam_28 : decode cX9_beam 28 = .ok (.ifCond .ne 5, 3) := by decide +kernel
theorem dX9_beam_31 : decode cX9_beam 31 = .ok (.iconst 0, 1) := by decide +kernel
theorem dX9_beam_32 : decode cX9_beam 32 = .ok (.ireturn, 1) := by decide +kernel
theorem dX9_beam_33 : decode cX9_beam 33 = .ok (.aload_n 0, 1) := by decide +kernel
theorem dX9_beam_34 : decode cX9_beam 34 = .ok (.getfield 10, 3) := by decide +kernel
theorem dX9_beam_37 : decode cX9_beam 37 = .ok (.iload_n 1, 1) := by decide +kernel
theorem dX9_beam_38 : decode cX9_beam 38 = .ok (.putfield 67, 3) := by decide +kernel
theorem dX9_beam_41 : decode cX9_beam 41 = .ok (.aload_n 0, 1) := by decide +kernel
theorem dX9_beam_42 : decode cX9_beam 42 = .ok (.getfield 10, 3) := by decide +kernel
theorem dX9_beam_45 : decode cX9_beam 45 = .ok (.iload_n 2, 1) := by decide +kernel
theorem dX9_beam_46 : decode cX9_beam 46 = .ok (.putfield 71, 3) := by decide +kernel
theorem dX9_beam_49 : decode cX9_beam 49 = .ok (.aload_n 0, 1) := by decide +kernel
theorem dX9_beam_50 : decode cX9_beam 50 = .ok (.getfield 10, 3) := by decide +kernel
theorem dX9_beam_53 : decode cX9_beam 53 = .ok (.iload_n 3, 1) := by decide +kernel
theorem dX9_beam_54 : decode cX9_beam 54 = .ok (.putfield 74, 3) := by decide +kernel
theorem dX9_beam_57 : decode cX9_beam 57 = .ok (.iconst 1, 1) := by decide +kernel
theorem dX9_beam_58 : decode cX9_beam 58 = .ok (.ireturn, 1) := by decide +kernel
theorem dX9_thing_0 : decode cX9_thing 0 = .ok (.iload_n 1, 1) := by decide +kernel
theorem dX9_thing_1 : decode cX9_thing 1 = .ok (.iconst 1, 1) := by decide +kernel
theorem dX9_thing_2 : decode cX9_thing 2 = .ok (.sipush 999, 3) := by decide +kernel
theorem dX9_thing_5 : decode cX9_thing 5 = .ok (.invokestatic 63, 3) := by decide +kernel
theorem dX9_thing_8 : decode cX9_thing 8 = .ok (.ifCond .eq 25, 3) := by decide +kernel
theorem dX9_thing_11 : decode cX9_thing 11 = .ok (.iload_n 2, 1) := by decide +kernel
theorem dX9_thing_12 : decode cX9_thing 12 = .ok (.iconst 0, 1) := by decide +kernel
theorem dX9_thing_13 : decode cX9_thing 13 = .ok (.bipush 9, 2) := by decide +kernel
theorem dX9_thing_15 : decode cX9_thing 15 = .ok (.invokestatic 63, 3) := by decide +kernel
theorem dX9_thing_18 : decode cX9_thing 18 = .ok (.ifCond .eq 15, 3) := by decide +kernel
theorem dX9_thing_21 : decode cX9_thing 21 = .ok (.aload_n 0, 1) := by decide +kernel
theorem dX9_thing_22 : decode cX9_thing 22 = .ok (.getfield 10, 3) := by decide +kernel
theorem dX9_thing_25 : decode cX9_thing 25 = .ok (.getfield 77, 3) := by decide +kernel
theorem dX9_thing_28 : decode cX9_thing 28 = .ok (.bipush 12, 2) := by decide +kernel
theorem dX9_thing_30 : decode cX9_thing 30 = .ok (.if_icmp .lt 5, 3) := by decide +kernel
theorem dX9_thing_33 : decode cX9_thing 33 = .ok (.iconst (-1), 1) := by decide +kernel
theorem dX9_thing_34 : decode cX9_thing 34 = .ok (.ireturn, 1) := by decide +kernel
theorem dX9_thing_35 : decode cX9_thing 35 = .ok (.aload_n 0, 1) := by decide +kernel
theorem dX9_thing_36 : decode cX9_thing 36 = .ok (.getfield 10, 3) := by decide +kernel
theorem dX9_thing_39 : decode cX9_thing 39 = .ok (.getfield 77, 3) := by decide +kernel
theorem dX9_thing_42 : decode cX9_thing 42 = .ok (.istore_n 3, 1) := by decide +kernel
theorem dX9_thing_43 : decode cX9_thing 43 = .ok (.aload_n 0, 1) := by decide +kernel
theorem dX9_thing_44 : decode cX9_thing 44 = .ok (.getfield 10, 3) := by decide +kernel
theorem dX9_thing_47 : decode cX9_thing 47 = .ok (.getfield 80, 3) := by decide +kernel
theorem dX9_thing_50 : decode cX9_thing 50 = .ok (.iload_n 3, 1) := by decide +kernel
theorem dX9_thing_51 : decode cX9_thing 51 = .ok (.iload_n 1, 1) := by decide +kernel
theorem dX9_thing_52 : decode cX9_thing 52 = .ok (.iastore, 1) := by decide +kernel
theorem dX9_thing_53 : decode cX9_thing 53 = .ok (.aload_n 0, 1) := by decide +kernel
theorem dX9_thing_54 : decode cX9_thing 54 = .ok (.getfield 10, 3) := by decide +kernel
theorem dX9_thing_57 : decode cX9_thing 57 = .ok (.getfield 84, 3) := by decide +kernel
theorem dX9_thing_60 : decode cX9_thing 60 = .ok (.iload_n 3, 1) := by decide +kernel
theorem dX9_thing_61 : decode cX9_thing 61 = .ok (.iload_n 2, 1) := by decide +kernel
theorem dX9_thing_62 : decode cX9_thing 62 = .ok (.iastore, 1) := by decide +kernel
theorem dX9_thing_63 : decode cX9_thing 63 = .ok (.aload_n 0, 1) := by decide +kernel
theorem dX9_thing_64 : decode cX9_thing 64 = .ok (.getfield 10, 3) := by decide +kernel
theorem dX9_thing_67 : decode cX9_thing 67 = .ok (.iload_n 3, 1) := by decide +kernel
theorem dX9_thing_68 : decode cX9_thing 68 = .ok (.iconst 1, 1) := by decide +kernel
theorem dX9_thing_69 : decode cX9_thing 69 = .ok (.iadd, 1) := by decide +kernel
theorem dX9_thing_70 : decode cX9_thing 70 = .ok (.putfield 77, 3) := by decide +kernel
theorem dX9_thing_73 : decode cX9_thing 73 = .ok (.iload_n 3, 1) := by decide +kernel
theorem dX9_thing_74 : decode cX9_thing 74 = .ok (.ireturn, 1) := by decide +kernel
theorem dX9_weather_0 : decode cX9_weather 0 = .ok (.iload_n 1, 1) := by decide +kernel
theorem dX9_weather_1 : decode cX9_weather 1 = .ok (.iconst 0, 1) := by decide +kernel
theorem dX9_weather_2 : decode cX9_weather 2 = .ok (.bipush 23, 2) := by decide +kernel
theorem dX9_weather_4 : decode cX9_weather 4 = .ok (.invokestatic 63, 3) := by decide +kernel
theorem dX9_weather_7 : decode cX9_weather 7 = .ok (.ifCond .eq 24, 3) := by decide +kernel
theorem dX9_weather_10 : decode cX9_weather 10 = .ok (.iload_n 2, 1) := by decide +kernel
theorem dX9_weather_11 : decode cX9_weather 11 = .ok (.iconst 0, 1) := by decide +kernel
theorem dX9_weather_12 : decode cX9_weather 12 = .ok (.bipush 9, 2) := by decide +kernel
theorem dX9_weather_14 : decode cX9_weather 14 = .ok (.invokestatic 63, 3) := by decide +kernel
theorem dX9_weather_17 : decode cX9_weather 17 = .ok (.ifCond .eq 14, 3) := by decide +kernel
theorem dX9_weather_20 : decode cX9_weather 20 = .ok (.iload_n 3, 1) := by decide +kernel
theorem dX9_weather_21 : decode cX9_weather 21 = .ok (.bipush (-9), 2) := by decide +kernel
theorem dX9_weather_23 : decode cX9_weather 23 = .ok (.bipush 9, 2) := by decide +kernel
theorem dX9_weather_25 : decode cX9_weather 25 = .ok (.invokestatic 63, 3) := by decide +kernel
theorem dX9_weather_28 : decode cX9_weather 28 = .ok (.ifCond .ne 5, 3) := by decide +kernel
theorem dX9_weather_31 : decode cX9_weather 31 = .ok (.iconst 0, 1) := by decide +kernel
theorem dX9_weather_32 : decode cX9_weather 32 = .ok (.ireturn, 1) := by decide +kernel
theorem dX9_weather_33 : decode cX9_weather 33 = .ok (.aload_n 0, 1) := by decide +kernel
theorem dX9_weather_34 : decode cX9_weather 34 = .ok (.getfield 10, 3) := by decide +kernel
theorem dX9_weather_37 : decode cX9_weather 37 = .ok (.iload_n 1, 1) := by decide +kernel
theorem dX9_weather_38 : decode cX9_weather 38 = .ok (.putfield 87, 3) := by decide +kernel
theorem dX9_weather_41 : decode cX9_weather 41 = .ok (.aload_n 0, 1) := by decide +kernel
theorem dX9_weather_42 : decode cX9_weather 42 = .ok (.getfield 10, 3) := by decide +kernel
theorem dX9_weather_45 : decode cX9_weather 45 = .ok (.iload_n 2, 1) := by decide +kernel
theorem dX9_weather_46 : decode cX9_weather 46 = .ok (.putfield 90, 3) := by decide +kernel
theorem dX9_weather_49 : decode cX9_weather 49 = .ok (.aload_n 0, 1) := by decide +kernel
theorem dX9_weather_50 : decode cX9_weather 50 = .ok (.getfield 10, 3) := by decide +kernel
theorem dX9_weather_53 : decode cX9_weather 53 = .ok (.iload_n 3, 1) := by decide +kernel
theorem dX9_weather_54 : decode cX9_weather 54 = .ok (.putfield 93, 3) := by decide +kernel
theorem dX9_weather_57 : decode cX9_weather 57 = .ok (.iconst 1, 1) := by decide +kernel
theorem dX9_weather_58 : decode cX9_weather 58 = .ok (.ireturn, 1) := by decide +kernel
theorem dX9_feed_0 : decode cX9_feed 0 = .ok (.aload_n 0, 1) := by decide +kernel
theorem dX9_feed_1 : decode cX9_feed 1 = .ok (.getfield 22, 3) := by decide +kernel
theorem dX9_feed_4 : decode cX9_feed 4 = .ok (.getfield 96, 3) := by decide +kernel
theorem dX9_feed_7 : decode cX9_feed 7 = .ok (.bipush 20, 2) := by decide +kernel
theorem dX9_feed_9 : decode cX9_feed 9 = .ok (.iadd, 1) := by decide +kernel
theorem dX9_feed_10 : decode cX9_feed 10 = .ok (.sipush 300, 3) := by decide +kernel
theorem dX9_feed_13 : decode cX9_feed 13 = .ok (.if_icmp .le 5, 3) := by decide +kernel
theorem dX9_feed_16 : decode cX9_feed 16 = .ok (.iconst (-1), 1) := by decide +kernel
theorem dX9_feed_17 : decode cX9_feed 17 = .ok (.ireturn, 1) := by decide +kernel
theorem dX9_feed_18 : decode cX9_feed 18 = .ok (.aload_n 0, 1) := by decide +kernel
theorem dX9_feed_19 : decode cX9_feed 19 = .ok (.getfield 22, 3) := by decide +kernel
theorem dX9_feed_22 : decode cX9_feed 22 = .ok (.iload_n 1, 1) := by decide +kernel
theorem dX9_feed_23 : decode cX9_feed 23 = .ok (.invokevirtual 99, 3) := by decide +kernel
theorem dX9_feed_26 : decode cX9_feed 26 = .ok (.aload_n 0, 1) := by decide +kernel
theorem dX9_feed_27 : decode cX9_feed 27 = .ok (.getfield 22, 3) := by decide +kernel
theorem dX9_feed_30 : decode cX9_feed 30 = .ok (.iload_n 2, 1) := by decide +kernel
theorem dX9_feed_31 : decode cX9_feed 31 = .ok (.invokevirtual 99, 3) := by decide +kernel
theorem dX9_feed_34 : decode cX9_feed 34 = .ok (.aload_n 0, 1) := by decide +kernel
theorem dX9_feed_35 : decode cX9_feed 35 = .ok (.getfield 22, 3) := by decide +kernel
theorem dX9_feed_38 : decode cX9_feed 38 = .ok (.iload_n 3, 1) := by decide +kernel
theorem dX9_feed_39 : decode cX9_feed 39 = .ok (.invokevirtual 99, 3) := by decide +kernel
theorem dX9_feed_42 : decode cX9_feed 42 = .ok (.aload_n 0, 1) := by decide +kernel
theorem dX9_feed_43 : decode cX9_feed 43 = .ok (.getfield 22, 3) := by decide +kernel
theorem dX9_feed_46 : decode cX9_feed 46 = .ok (.iload 4, 2) := by decide +kernel
theorem dX9_feed_48 : decode cX9_feed 48 = .ok (.invokevirtual 99, 3) := by decide +kernel
theorem dX9_feed_51 : decode cX9_feed 51 = .ok (.aload_n 0, 1) := by decide +kernel
theorem dX9_feed_52 : decode cX9_feed 52 = .ok (.getfield 22, 3) := by decide +kernel
theorem dX9_feed_55 : decode cX9_feed 55 = .ok (.iload 5, 2) := by decide +kernel
theorem dX9_feed_57 : decode cX9_feed 57 = .ok (.invokevirtual 99, 3) := by decide +kernel
theorem dX9_feed_60 : decode cX9_feed 60 = .ok (.aload_n 0, 1) := by decide +kernel
theorem dX9_feed_61 : decode cX9_feed 61 = .ok (.getfield 22, 3) := by decide +kernel
theorem dX9_feed_64 : decode cX9_feed 64 = .ok (.getfield 96, 3) := by decide +kernel
theorem dX9_feed_67 : decode cX9_feed 67 = .ok (.ireturn, 1) := by decide +kernel
theorem dX9_end_0 : decode cX9_end 0 = .ok (.iload_n 1, 1) := by decide +kernel
theorem dX9_end_1 : decode cX9_end 1 = .ok (.iconst 0, 1) := by decide +kernel
theorem dX9_end_2 : decode cX9_end 2 = .ok (.aload_n 0, 1) := by decide +kernel
theorem dX9_end_3 : decode cX9_end 3 = .ok (.getfield 22, 3) := by decide +kernel
theorem dX9_end_6 : decode cX9_end 6 = .ok (.getfield 96, 3) := by decide +kernel
theorem dX9_end_9 : decode cX9_end 9 = .ok (.invokestatic 63, 3) := by decide +kernel
theorem dX9_end_12 : decode cX9_end 12 = .ok (.ifCond .ne 5, 3) := by decide +kernel
theorem dX9_end_15 : decode cX9_end 15 = .ok (.iconst (-1), 1) := by decide +kernel
theorem dX9_end_16 : decode cX9_end 16 = .ok (.ireturn, 1) := by decide +kernel
theorem dX9_end_17 : decode cX9_end 17 = .ok (.aload_n 0, 1) := by decide +kernel
theorem dX9_end_18 : decode cX9_end 18 = .ok (.getfield 22, 3) := by decide +kernel
theorem dX9_end_21 : decode cX9_end 21 = .ok (.iload_n 1, 1) := by decide +kernel
theorem dX9_end_22 : decode cX9_end 22 = .ok (.putfield 96, 3) := by decide +kernel
theorem dX9_end_25 : decode cX9_end 25 = .ok (.iload_n 1, 1) := by decide +kernel
theorem dX9_end_26 : decode cX9_end 26 = .ok (.ireturn, 1) := by decide +kernel
theorem dX9_text_0 : decode cX9_text 0 = .ok (.aload_n 0, 1) := by decide +kernel
theorem dX9_text_1 : decode cX9_text 1 = .ok (.getfield 10, 3) := by decide +kernel
theorem dX9_text_4 : decode cX9_text 4 = .ok (.getfield 103, 3) := by decide +kernel
theorem dX9_text_7 : decode cX9_text 7 = .ok (.iconst 4, 1) := by decide +kernel
theorem dX9_text_8 : decode cX9_text 8 = .ok (.if_icmp .lt 5, 3) := by decide +kernel
theorem dX9_text_11 : decode cX9_text 11 = .ok (.iconst (-1), 1) := by decide +kernel
theorem dX9_text_12 : decode cX9_text 12 = .ok (.ireturn, 1) := by decide +kernel
theorem dX9_text_13 : decode cX9_text 13 = .ok (.aload_n 0, 1) := by decide +kernel
theorem dX9_text_14 : decode cX9_text 14 = .ok (.getfield 31, 3) := by decide +kernel
theorem dX9_text_17 : decode cX9_text 17 = .ok (.aload_n 0, 1) := by decide +kernel
theorem dX9_text_18 : decode cX9_text 18 = .ok (.getfield 37, 3) := by decide +kernel
theorem dX9_text_21 : decode cX9_text 21 = .ok (.aload_n 0, 1) := by decide +kernel
theorem dX9_text_22 : decode cX9_text 22 = .ok (.getfield 10, 3) := by decide +kernel
theorem dX9_text_25 : decode cX9_text 25 = .ok (.getfield 103, 3) := by decide +kernel
theorem dX9_text_28 : decode cX9_text 28 = .ok (.aaload, 1) := by decide +kernel
theorem dX9_text_29 : decode cX9_text 29 = .ok (.invokevirtual 106, 3) := by decide +kernel
theorem dX9_text_32 : decode cX9_text 32 = .ok (.istore_n 1, 1) := by decide +kernel
theorem dX9_text_33 : decode cX9_text 33 = .ok (.aload_n 0, 1) := by decide +kernel
theorem dX9_text_34 : decode cX9_text 34 = .ok (.getfield 22, 3) := by decide +kernel
theorem dX9_text_37 : decode cX9_text 37 = .ok (.iconst 0, 1) := by decide +kernel
theorem dX9_text_38 : decode cX9_text 38 = .ok (.putfield 96, 3) := by decide +kernel
theorem dX9_text_41 : decode cX9_text 41 = .ok (.iload_n 1, 1) := by decide +kernel
theorem dX9_text_42 : decode cX9_text 42 = .ok (.ifCond .ne 5, 3) := by decide +kernel
theorem dX9_text_45 : decode cX9_text 45 = .ok (.iconst (-1), 1) := by decide +kernel
theorem dX9_text_46 : decode cX9_text 46 = .ok (.ireturn, 1) := by decide +kernel
theorem dX9_text_47 : decode cX9_text 47 = .ok (.aload_n 0, 1) := by decide +kernel
theorem dX9_text_48 : decode cX9_text 48 = .ok (.getfield 10, 3) := by decide +kernel
theorem dX9_text_51 : decode cX9_text 51 = .ok (.dup, 1) := by decide +kernel
theorem dX9_text_52 : decode cX9_text 52 = .ok (.getfield 103, 3) := by decide +kernel
theorem dX9_text_55 : decode cX9_text 55 = .ok (.iconst 1, 1) := by decide +kernel
theorem dX9_text_56 : decode cX9_text 56 = .ok (.iadd, 1) := by decide +kernel
theorem dX9_text_57 : decode cX9_text 57 = .ok (.putfield 103, 3) := by decide +kernel
theorem dX9_text_60 : decode cX9_text 60 = .ok (.aload_n 0, 1) := by decide +kernel
theorem dX9_text_61 : decode cX9_text 61 = .ok (.getfield 10, 3) := by decide +kernel
theorem dX9_text_64 : decode cX9_text 64 = .ok (.getfield 103, 3) := by decide +kernel
theorem dX9_text_67 : decode cX9_text 67 = .ok (.iconst 1, 1) := by decide +kernel
theorem dX9_text_68 : decode cX9_text 68 = .ok (.isub, 1) := by decide +kernel
theorem dX9_text_69 : decode cX9_text 69 = .ok (.ireturn, 1) := by decide +kernel
theorem dX9_fault_0 : decode cX9_fault 0 = .ok (.iload_n 1, 1) := by decide +kernel
theorem dX9_fault_1 : decode cX9_fault 1 = .ok (.lookupswitch 47 #[(0, 27), (1, 37)], 27) := by decide +kernel
theorem dX9_fault_28 : decode cX9_fault 28 = .ok (.aload_n 0, 1) := by decide +kernel
theorem dX9_fault_29 : decode cX9_fault 29 = .ok (.getfield 31, 3) := by decide +kernel
theorem dX9_fault_32 : decode cX9_fault 32 = .ok (.getfield 110, 3) := by decide +kernel
theorem dX9_fault_35 : decode cX9_fault 35 = .ok (.goto 14, 3) := by decide +kernel
theorem dX9_fault_38 : decode cX9_fault 38 = .ok (.aload_n 0, 1) := by decide +kernel
theorem dX9_fault_39 : decode cX9_fault 39 = .ok (.getfield 31, 3) := by decide +kernel
theorem dX9_fault_42 : decode cX9_fault 42 = .ok (.getfield 113, 3) := by decide +kernel
theorem dX9_fault_45 : decode cX9_fault 45 = .ok (.goto 4, 3) := by decide +kernel
theorem dX9_fault_48 : decode cX9_fault 48 = .ok (.iconst (-1), 1) := by decide +kernel
theorem dX9_fault_49 : decode cX9_fault 49 = .ok (.ireturn, 1) := by decide +kernel
theorem dX9_by_0 : decode cX9_by 0 = .ok (.iload_n 1, 1) := by decide +kernel
theorem dX9_by_1 : decode cX9_by 1 = .ok (.iconst (-1), 1) := by decide +kernel
theorem dX9_by_2 : decode cX9_by 2 = .ok (.if_icmp .eq 13, 3) := by decide +kernel
theorem dX9_by_5 : decode cX9_by 5 = .ok (.aload_n 0, 1) := by decide +kernel
theorem dX9_by_6 : decode cX9_by 6 = .ok (.iload_n 1, 1) := by decide +kernel
theorem dX9_by_7 : decode cX9_by 7 = .ok (.invokevirtual 116, 3) := by decide +kernel
theorem dX9_by_10 : decode cX9_by 10 = .ok (.ifCond .ne 5, 3) := by decide +kernel
theorem dX9_by_13 : decode cX9_by 13 = .ok (.iconst 0, 1) := by decide +kernel
theorem dX9_by_14 : decode cX9_by 14 = .ok (.ireturn, 1) := by decide +kernel
theorem dX9_by_15 : decode cX9_by 15 = .ok (.aload_n 0, 1) := by decide +kernel
theorem dX9_by_16 : decode cX9_by 16 = .ok (.getfield 10, 3) := by decide +kernel
theorem dX9_by_19 : decode cX9_by 19 = .ok (.iload_n 1, 1) := by decide +kernel
theorem dX9_by_20 : decode cX9_by 20 = .ok (.putfield 120, 3) := by decide +kernel
theorem dX9_by_23 : decode cX9_by 23 = .ok (.aload_n 0, 1) := by decide +kernel
theorem dX9_by_24 : decode cX9_by 24 = .ok (.getfield 10, 3) := by decide +kernel
theorem dX9_by_27 : decode cX9_by 27 = .ok (.iload_n 1, 1) := by decide +kernel
theorem dX9_by_28 : decode cX9_by 28 = .ok (.iconst (-1), 1) := by decide +kernel
theorem dX9_by_29 : decode cX9_by 29 = .ok (.if_icmp .ne 7, 3) := by decide +kernel
theorem dX9_by_32 : decode cX9_by 32 = .ok (.aconst_null, 1) := by decide +kernel
theorem dX9_by_33 : decode cX9_by 33 = .ok (.goto 9, 3) := by decide +kernel
theorem dX9_by_36 : decode cX9_by 36 = .ok (.aload_n 0, 1) := by decide +kernel
theorem dX9_by_37 : decode cX9_by 37 = .ok (.getfield 37, 3) := by decide +kernel
theorem dX9_by_40 : decode cX9_by 40 = .ok (.iload_n 1, 1) := by decide +kernel
theorem dX9_by_41 : decode cX9_by 41 = .ok (.aaload, 1) := by decide +kernel
theorem dX9_by_42 : decode cX9_by 42 = .ok (.putfield 123, 3) := by decide +kernel
theorem dX9_by_45 : decode cX9_by 45 = .ok (.iconst 1, 1) := by decide +kernel
theorem dX9_by_46 : decode cX9_by 46 = .ok (.ireturn, 1) := by decide +kernel
theorem dX9_put_0 : decode cX9_put 0 = .ok (.aload_n 0, 1) := by decide +kernel
theorem dX9_put_1 : decode cX9_put 1 = .ok (.iload_n 1, 1) := by decide +kernel
theorem dX9_put_2 : decode cX9_put 2 = .ok (.iload_n 2, 1) := by decide +kernel
theorem dX9_put_3 : decode cX9_put 3 = .ok (.invokevirtual 127, 3) := by decide +kernel
theorem dX9_put_6 : decode cX9_put 6 = .ok (.ifCond .ne 5, 3) := by decide +kernel
theorem dX9_put_9 : decode cX9_put 9 = .ok (.iconst (-1), 1) := by decide +kernel
theorem dX9_put_10 : decode cX9_put 10 = .ok (.ireturn, 1) := by decide +kernel
theorem dX9_put_11 : decode cX9_put 11 = .ok (.iload_n 2, 1) := by decide +kernel
theorem dX9_put_12 : decode cX9_put 12 = .ok (.ifCond .ne 13, 3) := by decide +kernel
theorem dX9_put_15 : decode cX9_put 15 = .ok (.aload_n 0, 1) := by decide +kernel
theorem dX9_put_16 : decode cX9_put 16 = .ok (.getfield 44, 3) := by decide +kernel
theorem dX9_put_19 : decode cX9_put 19 = .ok (.getfield 131, 3) := by decide +kernel
theorem dX9_put_22 : decode cX9_put 22 = .ok (.goto 10, 3) := by decide +kernel
theorem dX9_put_25 : decode cX9_put 25 = .ok (.aload_n 0, 1) := by decide +kernel
theorem dX9_put_26 : decode cX9_put 26 = .ok (.getfield 44, 3) := by decide +kernel
theorem dX9_put_29 : decode cX9_put 29 = .ok (.getfield 134, 3) := by decide +kernel
theorem dX9_put_32 : decode cX9_put 32 = .ok (.ireturn, 1) := by decide +kernel
theorem dX9_take_0 : decode cX9_take 0 = .ok (.aload_n 0, 1) := by decide +kernel
theorem dX9_take_1 : decode cX9_take 1 = .ok (.getfield 10, 3) := by decide +kernel
theorem dX9_take_4 : decode cX9_take 4 = .ok (.iload_n 1, 1) := by decide +kernel
theorem dX9_take_5 : decode cX9_take 5 = .ok (.invokevirtual 137, 3) := by decide +kernel
theorem dX9_take_8 : decode cX9_take 8 = .ok (.istore_n 2, 1) := by decide +kernel
theorem dX9_take_9 : decode cX9_take 9 = .ok (.aload_n 0, 1) := by decide +kernel
theorem dX9_take_10 : decode cX9_take 10 = .ok (.iload_n 1, 1) := by decide +kernel
theorem dX9_take_11 : decode cX9_take 11 = .ok (.invokevirtual 141, 3) := by decide +kernel
theorem dX9_take_14 : decode cX9_take 14 = .ok (.ifCond .eq 7, 3) := by decide +kernel
theorem dX9_take_17 : decode cX9_take 17 = .ok (.iload_n 2, 1) := by decide +kernel
theorem dX9_take_18 : decode cX9_take 18 = .ok (.goto 4, 3) := by decide +kernel
theorem dX9_take_21 : decode cX9_take 21 = .ok (.iconst (-1), 1) := by decide +kernel
theorem dX9_take_22 : decode cX9_take 22 = .ok (.ireturn, 1) := by decide +kernel
theorem dX9_pass_0 : decode cX9_pass 0 = .ok (.aload_n 0, 1) := by decide +kernel
theorem dX9_pass_1 : decode cX9_pass 1 = .ok (.iload_n 1, 1) := by decide +kernel
theorem dX9_pass_2 : decode cX9_pass 2 = .ok (.invokevirtual 144, 3) := by decide +kernel
theorem dX9_pass_5 : decode cX9_pass 5 = .ok (.ifCond .eq 13, 3) := by decide +kernel
theorem dX9_pass_8 : decode cX9_pass 8 = .ok (.aload_n 0, 1) := by decide +kernel
theorem dX9_pass_9 : decode cX9_pass 9 = .ok (.getfield 10, 3) := by decide +kernel
theorem dX9_pass_12 : decode cX9_pass 12 = .ok (.getfield 87, 3) := by decide +kernel
theorem dX9_pass_15 : decode cX9_pass 15 = .ok (.goto 4, 3) := by decide +kernel
theorem dX9_pass_18 : decode cX9_pass 18 = .ok (.iconst (-1), 1) := by decide +kernel
theorem dX9_pass_19 : decode cX9_pass 19 = .ok (.ireturn, 1) := by decide +kernel
theorem dX9_played_0 : decode cX9_played 0 = .ok (.aload_n 0, 1) := by decide +kernel
theorem dX9_played_1 : decode cX9_played 1 = .ok (.iload_n 1, 1) := by decide +kernel
theorem dX9_played_2 : decode cX9_played 2 = .ok (.invokevirtual 116, 3) := by decide +kernel
theorem dX9_played_5 : decode cX9_played 5 = .ok (.ifCond .ne 6, 3) := by decide +kernel
theorem dX9_played_8 : decode cX9_played 8 = .ok (.bipush (-2), 2) := by decide +kernel
theorem dX9_played_10 : decode cX9_played 10 = .ok (.ireturn, 1) := by decide +kernel
theorem dX9_played_11 : decode cX9_played 11 = .ok (.aload_n 0, 1) := by decide +kernel
theorem dX9_played_12 : decode cX9_played 12 = .ok (.getfield 37, 3) := by decide +kernel
theorem dX9_played_15 : decode cX9_played 15 = .ok (.iload_n 1, 1) := by decide +kernel
theorem dX9_played_16 : decode cX9_played 16 = .ok (.aaload, 1) := by decide +kernel
theorem dX9_played_17 : decode cX9_played 17 = .ok (.astore_n 2, 1) := by decide +kernel
theorem dX9_played_18 : decode cX9_played 18 = .ok (.iconst 0, 1) := by decide +kernel
theorem dX9_played_19 : decode cX9_played 19 = .ok (.istore_n 3, 1) := by decide +kernel
theorem dX9_played_20 : decode cX9_played 20 = .ok (.iload_n 3, 1) := by decide +kernel
theorem dX9_played_21 : decode cX9_played 21 = .ok (.aload_n 2, 1) := by decide +kernel
theorem dX9_played_22 : decode cX9_played 22 = .ok (.getfield 147, 3) := by decide +kernel
theorem dX9_played_25 : decode cX9_played 25 = .ok (.if_icmp .ge 96, 3) := by decide +kernel
theorem dX9_played_28 : decode cX9_played 28 = .ok (.aload_n 2, 1) := by decide +kernel
theorem dX9_played_29 : decode cX9_played 29 = .ok (.getfield 150, 3) := by decide +kernel
theorem dX9_played_32 : decode cX9_played 32 = .ok (.iload_n 3, 1) := by decide +kernel
theorem dX9_played_33 : decode cX9_played 33 = .ok (.iaload, 1) := by decide +kernel
theorem dX9_played_34 : decode cX9_played 34 = .ok (.tableswitch 71 21 23 #[26, 45, 58], 26) := by decide +kernel
theorem dX9_played_60 : decode cX9_played 60 = .ok (.aload_n 0, 1) := by decide +kernel
theorem dX9_played_61 : decode cX9_played 61 = .ok (.aload_n 2, 1) := by decide +kernel
theorem dX9_played_62 : decode cX9_played 62 = .ok (.getfield 153, 3) := by decide +kernel
theorem dX9_played_65 : decode cX9_played 65 = .ok (.iload_n 3, 1) := by decide +kernel
theorem dX9_played_66 : decode cX9_played 66 = .ok (.iaload, 1) := by decide +kernel
theorem dX9_played_67 : decode cX9_played 67 = .ok (.aload_n 2, 1) := by decide +kernel
theorem dX9_played_68 : decode cX9_played 68 = .ok (.getfield 156, 3) := by decide +kernel
theorem dX9_played_71 : decode cX9_played 71 = .ok (.iload_n 3, 1) := by decide +kernel
theorem dX9_played_72 : decode cX9_played 72 = .ok (.iaload, 1) := by decide +kernel
theorem dX9_played_73 : decode cX9_played 73 = .ok (.invokevirtual 127, 3) := by decide +kernel
theorem dX9_played_76 : decode cX9_played 76 = .ok (.goto 30, 3) := by decide +kernel
theorem dX9_played_79 : decode cX9_played 79 = .ok (.aload_n 0, 1) := by decide +kernel
theorem dX9_played_80 : decode cX9_played 80 = .ok (.aload_n 2, 1) := by decide +kernel
theorem dX9_played_81 : decode cX9_played 81 = .ok (.getfield 153, 3) := by decide +kernel
theorem dX9_played_84 : decode cX9_played 84 = .ok (.iload_n 3, 1) := by decide +kernel
theorem dX9_played_85 : decode cX9_played 85 = .ok (.iaload, 1) := by decide +kernel
theorem dX9_played_86 : decode cX9_played 86 = .ok (.invokevirtual 141, 3) := by decide +kernel
theorem dX9_played_89 : decode cX9_played 89 = .ok (.goto 17, 3) := by decide +kernel
theorem dX9_played_92 : decode cX9_played 92 = .ok (.aload_n 0, 1) := by decide +kernel
theorem dX9_played_93 : decode cX9_played 93 = .ok (.aload_n 2, 1) := by decide +kernel
theorem dX9_played_94 : decode cX9_played 94 = .ok (.getfield 153, 3) := by decide +kernel
theorem dX9_played_97 : decode cX9_played 97 = .ok (.iload_n 3, 1) := by decide +kernel
theorem dX9_played_98 : decode cX9_played 98 = .ok (.iaload, 1) := by decide +kernel
theorem dX9_played_99 : decode cX9_played 99 = .ok (.invokevirtual 144, 3) := by decide +kernel
theorem dX9_played_102 : decode cX9_played 102 = .ok (.goto 4, 3) := by decide +kernel
theorem dX9_played_105 : decode cX9_played 105 = .ok (.iconst 1, 1) := by decide +kernel
theorem dX9_played_106 : decode cX9_played 106 = .ok (.istore 4, 2) := by decide +kernel
theorem dX9_played_108 : decode cX9_played 108 = .ok (.iload 4, 2) := by decide +kernel
theorem dX9_played_110 : decode cX9_played 110 = .ok (.ifCond .ne 5, 3) := by decide +kernel
theorem dX9_played_113 : decode cX9_played 113 = .ok (.iload_n 3, 1) := by decide +kernel
theorem dX9_played_114 : decode cX9_played 114 = .ok (.ireturn, 1) := by decide +kernel
theorem dX9_played_115 : decode cX9_played 115 = .ok (.iinc 3 1, 3) := by decide +kernel
theorem dX9_played_118 : decode cX9_played 118 = .ok (.goto (-98), 3) := by decide +kernel
theorem dX9_played_121 : decode cX9_played 121 = .ok (.iconst (-1), 1) := by decide +kernel
theorem dX9_played_122 : decode cX9_played 122 = .ok (.ireturn, 1) := by decide +kernel
theorem dX9_undo_0 : decode cX9_undo 0 = .ok (.aload_n 0, 1) := by decide +kernel
theorem dX9_undo_1 : decode cX9_undo 1 = .ok (.getfield 10, 3) := by decide +kernel
theorem dX9_undo_4 : decode cX9_undo 4 = .ok (.invokevirtual 159, 3) := by decide +kernel
theorem dX9_undo_7 : decode cX9_undo 7 = .ok (.ifCond .ne 5, 3) := by decide +kernel
theorem dX9_undo_10 : decode cX9_undo 10 = .ok (.iconst (-1), 1) := by decide +kernel
theorem dX9_undo_11 : decode cX9_undo 11 = .ok (.ireturn, 1) := by decide +kernel
theorem dX9_undo_12 : decode cX9_undo 12 = .ok (.aload_n 0, 1) := by decide +kernel
theorem dX9_undo_13 : decode cX9_undo 13 = .ok (.getfield 10, 3) := by decide +kernel
theorem dX9_undo_16 : decode cX9_undo 16 = .ok (.getfield 163, 3) := by decide +kernel
theorem dX9_undo_19 : decode cX9_undo 19 = .ok (.ireturn, 1) := by decide +kernel
theorem dX9_of_0 : decode cX9_of 0 = .ok (.iload_n 1, 1) := by decide +kernel
theorem dX9_of_1 : decode cX9_of 1 = .ok (.iconst 0, 1) := by decide +kernel
theorem dX9_of_2 : decode cX9_of 2 = .ok (.aload_n 0, 1) := by decide +kernel
theorem dX9_of_3 : decode cX9_of 3 = .ok (.getfield 10, 3) := by decide +kernel
theorem dX9_of_6 : decode cX9_of 6 = .ok (.getfield 77, 3) := by decide +kernel
theorem dX9_of_9 : decode cX9_of 9 = .ok (.iconst 1, 1) := by decide +kernel
theorem dX9_of_10 : decode cX9_of 10 = .ok (.isub, 1) := by decide +kernel
theorem dX9_of_11 : decode cX9_of 11 = .ok (.invokestatic 63, 3) := by decide +kernel
theorem dX9_of_14 : decode cX9_of 14 = .ok (.ifCond .ne 6, 3) := by decide +kernel
theorem dX9_of_17 : decode cX9_of 17 = .ok (.bipush (-2), 2) := by decide +kernel
theorem dX9_of_19 : decode cX9_of 19 = .ok (.ireturn, 1) := by decide +kernel
theorem dX9_of_20 : decode cX9_of 20 = .ok (.aload_n 0, 1) := by decide +kernel
theorem dX9_of_21 : decode cX9_of 21 = .ok (.getfield 44, 3) := by decide +kernel
theorem dX9_of_24 : decode cX9_of 24 = .ok (.aload_n 0, 1) := by decide +kernel
theorem dX9_of_25 : decode cX9_of 25 = .ok (.getfield 10, 3) := by decide +kernel
theorem dX9_of_28 : decode cX9_of 28 = .ok (.getfield 87, 3) := by decide +kernel
theorem dX9_of_31 : decode cX9_of 31 = .ok (.aload_n 0, 1) := by decide +kernel
theorem dX9_of_32 : decode cX9_of 32 = .ok (.getfield 10, 3) := by decide +kernel
theorem dX9_of_35 : decode cX9_of 35 = .ok (.getfield 90, 3) := by decide +kernel
theorem dX9_of_38 : decode cX9_of 38 = .ok (.aload_n 0, 1) := by decide +kernel
theorem dX9_of_39 : decode cX9_of 39 = .ok (.getfield 10, 3) := by decide +kernel
theorem dX9_of_42 : decode cX9_of 42 = .ok (.getfield 93, 3) := by decide +kernel
theorem dX9_of_45 : decode cX9_of 45 = .ok (.invokevirtual 166, 3) := by decide +kernel
theorem dX9_of_48 : decode cX9_of 48 = .ok (.iload_n 2, 1) := by decide +kernel
theorem dX9_of_49 : decode cX9_of 49 = .ok (.tableswitch 102 0 4 #[35, 47, 59, 70, 86], 35) := by decide +kernel
theorem dX9_of_84 : decode cX9_of 84 = .ok (.aload_n 0, 1) := by decide +kernel
theorem dX9_of_85 : decode cX9_of 85 = .ok (.getfield 10, 3) := by decide +kernel
theorem dX9_of_88 : decode cX9_of 88 = .ok (.getfield 80, 3) := by decide +kernel
theorem dX9_of_91 : decode cX9_of 91 = .ok (.iload_n 1, 1) := by decide +kernel
theorem dX9_of_92 : decode cX9_of 92 = .ok (.iaload, 1) := by decide +kernel
theorem dX9_of_93 : decode cX9_of 93 = .ok (.goto 60, 3) := by decide +kernel
theorem dX9_of_96 : decode cX9_of 96 = .ok (.aload_n 0, 1) := by decide +kernel
theorem dX9_of_97 : decode cX9_of 97 = .ok (.getfield 10, 3) := by decide +kernel
theorem dX9_of_100 : decode cX9_of 100 = .ok (.getfield 84, 3) := by decide +kernel
theorem dX9_of_103 : decode cX9_of 103 = .ok (.iload_n 1, 1) := by decide +kernel
theorem dX9_of_104 : decode cX9_of 104 = .ok (.iaload, 1) := by decide +kernel
theorem dX9_of_105 : decode cX9_of 105 = .ok (.goto 48, 3) := by decide +kernel
theorem dX9_of_108 : decode cX9_of 108 = .ok (.aload_n 0, 1) := by decide +kernel
theorem dX9_of_109 : decode cX9_of 109 = .ok (.getfield 10, 3) := by decide +kernel
theorem dX9_of_112 : decode cX9_of 112 = .ok (.iload_n 1, 1) := by decide +kernel
theorem dX9_of_113 : decode cX9_of 113 = .ok (.invokevirtual 137, 3) := by decide +kernel
theorem dX9_of_116 : decode cX9_of 116 = .ok (.goto 37, 3) := by decide +kernel
theorem dX9_of_119 : decode cX9_of 119 = .ok (.aload_n 0, 1) := by decide +kernel
theorem dX9_of_120 : decode cX9_of 120 = .ok (.getfield 44, 3) := by decide +kernel
theorem dX9_of_123 : decode cX9_of 123 = .ok (.aload_n 0, 1) := by decide +kernel
theorem dX9_of_124 : decode cX9_of 124 = .ok (.getfield 10, 3) := by decide +kernel
theorem dX9_of_127 : decode cX9_of 127 = .ok (.iload_n 1, 1) := by decide +kernel
theorem dX9_of_128 : decode cX9_of 128 = .ok (.iconst 0, 1) := by decide +kernel
theorem dX9_of_129 : decode cX9_of 129 = .ok (.invokevirtual 170, 3) := by decide +kernel
theorem dX9_of_132 : decode cX9_of 132 = .ok (.goto 21, 3) := by decide +kernel
theorem dX9_of_135 : decode cX9_of 135 = .ok (.aload_n 0, 1) := by decide +kernel
theorem dX9_of_136 : decode cX9_of 136 = .ok (.getfield 44, 3) := by decide +kernel
theorem dX9_of_139 : decode cX9_of 139 = .ok (.aload_n 0, 1) := by decide +kernel
theorem dX9_of_140 : decode cX9_of 140 = .ok (.getfield 10, 3) := by decide +kernel
theorem dX9_of_143 : decode cX9_of 143 = .ok (.iload_n 1, 1) := by decide +kernel
theorem dX9_of_144 : decode cX9_of 144 = .ok (.iconst 1, 1) := by decide +kernel
theorem dX9_of_145 : decode cX9_of 145 = .ok (.invokevirtual 170, 3) := by decide +kernel
theorem dX9_of_148 : decode cX9_of 148 = .ok (.goto 5, 3) := by decide +kernel
theorem dX9_of_151 : decode cX9_of 151 = .ok (.bipush (-2), 2) := by decide +kernel
theorem dX9_of_153 : decode cX9_of 153 = .ok (.ireturn, 1) := by decide +kernel
theorem dX9_now_0 : decode cX9_now 0 = .ok (.aload_n 0, 1) := by decide +kernel
theorem dX9_now_1 : decode cX9_now 1 = .ok (.invokevirtual 174, 3) := by decide +kernel
theorem dX9_now_4 : decode cX9_now 4 = .ok (.iload_n 1, 1) := by decide +kernel
theorem dX9_now_5 : decode cX9_now 5 = .ok (.tableswitch 110 0 4 #[35, 45, 55, 65, 85], 35) := by decide +kernel
theorem dX9_now_40 : decode cX9_now 40 = .ok (.aload_n 0, 1) := by decide +kernel
theorem dX9_now_41 : decode cX9_now 41 = .ok (.getfield 44, 3) := by decide +kernel
theorem dX9_now_44 : decode cX9_now 44 = .ok (.getfield 131, 3) := by decide +kernel
theorem dX9_now_47 : decode cX9_now 47 = .ok (.goto 70, 3) := by decide +kernel
theorem dX9_now_50 : decode cX9_now 50 = .ok (.aload_n 0, 1) := by decide +kernel
theorem dX9_now_51 : decode cX9_now 51 = .ok (.getfield 44, 3) := by decide +kernel
theorem dX9_now_54 : decode cX9_now 54 = .ok (.getfield 134, 3) := by decide +kernel
theorem dX9_now_57 : decode cX9_now 57 = .ok (.goto 60, 3) := by decide +kernel
theorem dX9_now_60 : decode cX9_now 60 = .ok (.aload_n 0, 1) := by decide +kernel
theorem dX9_now_61 : decode cX9_now 61 = .ok (.getfield 44, 3) := by decide +kernel
theorem dX9_now_64 : decode cX9_now 64 = .ok (.getfield 177, 3) := by decide +kernel
theorem dX9_now_67 : decode cX9_now 67 = .ok (.goto 50, 3) := by decide +kernel
theorem dX9_now_70 : decode cX9_now 70 = .ok (.aload_n 0, 1) := by decide +kernel
theorem dX9_now_71 : decode cX9_now 71 = .ok (.getfield 44, 3) := by decide +kernel
theorem dX9_now_74 : decode cX9_now 74 = .ok (.getfield 177, 3) := by decide +kernel
theorem dX9_now_77 : decode cX9_now 77 = .ok (.aload_n 0, 1) := by decide +kernel
theorem dX9_now_78 : decode cX9_now 78 = .ok (.getfield 10, 3) := by decide +kernel
theorem dX9_now_81 : decode cX9_now 81 = .ok (.getfield 74, 3) := by decide +kernel
theorem dX9_now_84 : decode cX9_now 84 = .ok (.invokestatic 180, 3) := by decide +kernel
theorem dX9_now_87 : decode cX9_now 87 = .ok (.goto 30, 3) := by decide +kernel
theorem dX9_now_90 : decode cX9_now 90 = .ok (.aload_n 0, 1) := by decide +kernel
theorem dX9_now_91 : decode cX9_now 91 = .ok (.getfield 44, 3) := by decide +kernel
theorem dX9_now_94 : decode cX9_now 94 = .ok (.aload_n 0, 1) := by decide +kernel
theorem dX9_now_95 : decode cX9_now 95 = .ok (.getfield 10, 3) := by decide +kernel
theorem dX9_now_98 : decode cX9_now 98 = .ok (.getfield 123, 3) := by decide +kernel
theorem dX9_now_101 : decode cX9_now 101 = .ok (.invokevirtual 184, 3) := by decide +kernel
theorem dX9_now_104 : decode cX9_now 104 = .ok (.ifCond .eq 7, 3) := by decide +kernel
theorem dX9_now_107 : decode cX9_now 107 = .ok (.iconst 1, 1) := by decide +kernel
theorem dX9_now_108 : decode cX9_now 108 = .ok (.goto 9, 3) := by decide +kernel
theorem dX9_now_111 : decode cX9_now 111 = .ok (.iconst 0, 1) := by decide +kernel
theorem dX9_now_112 : decode cX9_now 112 = .ok (.goto 5, 3) := by decide +kernel
theorem dX9_now_115 : decode cX9_now 115 = .ok (.ldc 187, 2) := by decide +kernel
theorem dX9_now_117 : decode cX9_now 117 = .ok (.ireturn, 1) := by decide +kernel
theorem dX9_loadings_0 : decode cX9_loadings 0 = .ok (.aload_n 0, 1) := by decide +kernel
theorem dX9_loadings_1 : decode cX9_loadings 1 = .ok (.iload_n 1, 1) := by decide +kernel
theorem dX9_loadings_2 : decode cX9_loadings 2 = .ok (.iload_n 2, 1) := by decide +kernel
theorem dX9_loadings_3 : decode cX9_loadings 3 = .ok (.invokevirtual 188, 3) := by decide +kernel
theorem dX9_loadings_6 : decode cX9_loadings 6 = .ok (.ifCond .ne 7, 3) := by decide +kernel
theorem dX9_loadings_9 : decode cX9_loadings 9 = .ok (.ldc2_w 191, 3) := by decide +kernel
theorem dX9_loadings_12 : decode cX9_loadings 12 = .ok (.lreturn, 1) := by decide +kernel
theorem dX9_loadings_13 : decode cX9_loadings 13 = .ok (.aload_n 0, 1) := by decide +kernel
theorem dX9_loadings_14 : decode cX9_loadings 14 = .ok (.invokevirtual 174, 3) := by decide +kernel
theorem dX9_loadings_17 : decode cX9_loadings 17 = .ok (.aload_n 0, 1) := by decide +kernel
theorem dX9_loadings_18 : decode cX9_loadings 18 = .ok (.getfield 51, 3) := by decide +kernel
theorem dX9_loadings_21 : decode cX9_loadings 21 = .ok (.aload_n 0, 1) := by decide +kernel
theorem dX9_loadings_22 : decode cX9_loadings 22 = .ok (.getfield 10, 3) := by decide +kernel
theorem dX9_loadings_25 : decode cX9_loadings 25 = .ok (.aload_n 0, 1) := by decide +kernel
theorem dX9_loadings_26 : decode cX9_loadings 26 = .ok (.getfield 44, 3) := by decide +kernel
theorem dX9_loadings_29 : decode cX9_loadings 29 = .ok (.iload_n 1, 1) := by decide +kernel
theorem dX9_loadings_30 : decode cX9_loadings 30 = .ok (.iload_n 2, 1) := by decide +kernel
theorem dX9_loadings_31 : decode cX9_loadings 31 = .ok (.invokevirtual 193, 3) := by decide +kernel
theorem dX9_loadings_34 : decode cX9_loadings 34 = .ok (.aload_n 0, 1) := by decide +kernel
theorem dX9_loadings_35 : decode cX9_loadings 35 = .ok (.getfield 51, 3) := by decide +kernel
theorem dX9_loadings_38 : decode cX9_loadings 38 = .ok (.invokevirtual 197, 3) := by decide +kernel
theorem dX9_loadings_41 : decode cX9_loadings 41 = .ok (.i2l, 1) := by decide +kernel
theorem dX9_loadings_42 : decode cX9_loadings 42 = .ok (.lreturn, 1) := by decide +kernel
theorem dX9_gentle_0 : decode cX9_gentle 0 = .ok (.aload_n 0, 1) := by decide +kernel
theorem dX9_gentle_1 : decode cX9_gentle 1 = .ok (.iload_n 1, 1) := by decide +kernel
theorem dX9_gentle_2 : decode cX9_gentle 2 = .ok (.iload_n 2, 1) := by decide +kernel
theorem dX9_gentle_3 : decode cX9_gentle 3 = .ok (.invokevirtual 188, 3) := by decide +kernel
theorem dX9_gentle_6 : decode cX9_gentle 6 = .ok (.ifCond .eq 17, 3) := by decide +kernel
theorem dX9_gentle_9 : decode cX9_gentle 9 = .ok (.iload_n 3, 1) := by decide +kernel
theorem dX9_gentle_10 : decode cX9_gentle 10 = .ok (.iconst (-1), 1) := by decide +kernel
theorem dX9_gentle_11 : decode cX9_gentle 11 = .ok (.iload_n 1, 1) := by decide +kernel
theorem dX9_gentle_12 : decode cX9_gentle 12 = .ok (.invokestatic 201, 3) := by decide +kernel
theorem dX9_gentle_15 : decode cX9_gentle 15 = .ok (.iconst 1, 1) := by decide +kernel
theorem dX9_gentle_16 : decode cX9_gentle 16 = .ok (.isub, 1) := by decide +kernel
theorem dX9_gentle_17 : decode cX9_gentle 17 = .ok (.invokestatic 63, 3) := by decide +kernel
theorem dX9_gentle_20 : decode cX9_gentle 20 = .ok (.ifCond .ne 5, 3) := by decide +kernel
theorem dX9_gentle_23 : decode cX9_gentle 23 = .ok (.iconst (-1), 1) := by decide +kernel
theorem dX9_gentle_24 : decode cX9_gentle 24 = .ok (.ireturn, 1) := by decide +kernel
theorem dX9_gentle_25 : decode cX9_gentle 25 = .ok (.aload_n 0, 1) := by decide +kernel
theorem dX9_gentle_26 : decode cX9_gentle 26 = .ok (.invokevirtual 174, 3) := by decide +kernel
theorem dX9_gentle_29 : decode cX9_gentle 29 = .ok (.aload_n 0, 1) := by decide +kernel
theorem dX9_gentle_30 : decode cX9_gentle 30 = .ok (.getfield 51, 3) := by decide +kernel
theorem dX9_gentle_33 : decode cX9_gentle 33 = .ok (.aload_n 0, 1) := by decide +kernel
theorem dX9_gentle_34 : decode cX9_gentle 34 = .ok (.getfield 10, 3) := by decide +kernel
theorem dX9_gentle_37 : decode cX9_gentle 37 = .ok (.aload_n 0, 1) := by decide +kernel
theorem dX9_gentle_38 : decode cX9_gentle 38 = .ok (.getfield 44, 3) := by decide +kernel
theorem dX9_gentle_41 : decode cX9_gentle 41 = .ok (.iload_n 1, 1) := by decide +kernel
theorem dX9_gentle_42 : decode cX9_gentle 42 = .ok (.iload_n 2, 1) := by decide +kernel
theorem dX9_gentle_43 : decode cX9_gentle 43 = .ok (.invokevirtual 193, 3) := by decide +kernel
theorem dX9_gentle_46 : decode cX9_gentle 46 = .ok (.aload_n 0, 1) := by decide +kernel
theorem dX9_gentle_47 : decode cX9_gentle 47 = .ok (.getfield 51, 3) := by decide +kernel
theorem dX9_gentle_50 : decode cX9_gentle 50 = .ok (.invokevirtual 206, 3) := by decide +kernel
theorem dX9_gentle_53 : decode cX9_gentle 53 = .ok (.istore 4, 2) := by decide +kernel
theorem dX9_gentle_55 : decode cX9_gentle 55 = .ok (.iload_n 3, 1) := by decide +kernel
theorem dX9_gentle_56 : decode cX9_gentle 56 = .ok (.iconst (-1), 1) := by decide +kernel
theorem dX9_gentle_57 : decode cX9_gentle 57 = .ok (.if_icmp .eq 9, 3) := by decide +kernel
theorem dX9_gentle_60 : decode cX9_gentle 60 = .ok (.iload 4, 2) := by decide +kernel
theorem dX9_gentle_62 : decode cX9_gentle 62 = .ok (.iconst (-1), 1) := by decide +kernel
theorem dX9_gentle_63 : decode cX9_gentle 63 = .ok (.if_icmp .ne 6, 3) := by decide +kernel
theorem dX9_gentle_66 : decode cX9_gentle 66 = .ok (.iload 4, 2) := by decide +kernel
theorem dX9_gentle_68 : decode cX9_gentle 68 = .ok (.ireturn, 1) := by decide +kernel
theorem dX9_gentle_69 : decode cX9_gentle 69 = .ok (.aload_n 0, 1) := by decide +kernel
theorem dX9_gentle_70 : decode cX9_gentle 70 = .ok (.getfield 51, 3) := by decide +kernel
theorem dX9_gentle_73 : decode cX9_gentle 73 = .ok (.iload_n 3, 1) := by decide +kernel
theorem dX9_gentle_74 : decode cX9_gentle 74 = .ok (.iload 4, 2) := by decide +kernel
theorem dX9_gentle_76 : decode cX9_gentle 76 = .ok (.invokevirtual 209, 3) := by decide +kernel
theorem dX9_gentle_79 : decode cX9_gentle 79 = .ok (.ireturn, 1) := by decide +kernel
theorem dX9_reading_0 : decode cX9_reading 0 = .ok (.iload_n 1, 1) := by decide +kernel
theorem dX9_reading_1 : decode cX9_reading 1 = .ok (.invokestatic 212, 3) := by decide +kernel
theorem dX9_reading_4 : decode cX9_reading 4 = .ok (.ifCond .eq 24, 3) := by decide +kernel
theorem dX9_reading_7 : decode cX9_reading 7 = .ok (.iload_n 2, 1) := by decide +kernel
theorem dX9_reading_8 : decode cX9_reading 8 = .ok (.iconst 0, 1) := by decide +kernel
theorem dX9_reading_9 : decode cX9_reading 9 = .ok (.iconst 2, 1) := by decide +kernel
theorem dX9_reading_10 : decode cX9_reading 10 = .ok (.invokestatic 63, 3) := by decide +kernel
theorem dX9_reading_13 : decode cX9_reading 13 = .ok (.ifCond .eq 15, 3) := by decide +kernel
theorem dX9_reading_16 : decode cX9_reading 16 = .ok (.aload_n 0, 1) := by decide +kernel
theorem dX9_reading_17 : decode cX9_reading 17 = .ok (.getfield 10, 3) := by decide +kernel
theorem dX9_reading_20 : decode cX9_reading 20 = .ok (.getfield 215, 3) := by decide +kernel
theorem dX9_reading_23 : decode cX9_reading 23 = .ok (.bipush 10, 2) := by decide +kernel
theorem dX9_reading_25 : decode cX9_reading 25 = .ok (.if_icmp .lt 5, 3) := by decide +kernel
theorem dX9_reading_28 : decode cX9_reading 28 = .ok (.iconst (-1), 1) := by decide +kernel
theorem dX9_reading_29 : decode cX9_reading 29 = .ok (.ireturn, 1) := by decide +kernel
theorem dX9_reading_30 : decode cX9_reading 30 = .ok (.aload_n 0, 1) := by decide +kernel
theorem dX9_reading_31 : decode cX9_reading 31 = .ok (.invokevirtual 174, 3) := by decide +kernel
theorem dX9_reading_34 : decode cX9_reading 34 = .ok (.aload_n 0, 1) := by decide +kernel
theorem dX9_reading_35 : decode cX9_reading 35 = .ok (.getfield 10, 3) := by decide +kernel
theorem dX9_reading_38 : decode cX9_reading 38 = .ok (.getfield 218, 3) := by decide +kernel
theorem dX9_reading_41 : decode cX9_reading 41 = .ok (.aload_n 0, 1) := by decide +kernel
theorem dX9_reading_42 : decode cX9_reading 42 = .ok (.getfield 10, 3) := by decide +kernel
theorem dX9_reading_45 : decode cX9_reading 45 = .ok (.getfield 215, 3) := by decide +kernel
theorem dX9_reading_48 : decode cX9_reading 48 = .ok (.aaload, 1) := by decide +kernel
theorem dX9_reading_49 : decode cX9_reading 49 = .ok (.astore_n 3, 1) := by decide +kernel
theorem dX9_reading_50 : decode cX9_reading 50 = .ok (.aload_n 3, 1) := by decide +kernel
theorem dX9_reading_51 : decode cX9_reading 51 = .ok (.iload_n 1, 1) := by decide +kernel
theorem dX9_reading_52 : decode cX9_reading 52 = .ok (.putfield 222, 3) := by decide +kernel
theorem dX9_reading_55 : decode cX9_reading 55 = .ok (.aload_n 3, 1) := by decide +kernel
theorem dX9_reading_56 : decode cX9_reading 56 = .ok (.iload_n 2, 1) := by decide +kernel
theorem dX9_reading_57 : decode cX9_reading 57 = .ok (.putfield 227, 3) := by decide +kernel
theorem dX9_reading_60 : decode cX9_reading 60 = .ok (.aload_n 3, 1) := by decide +kernel
theorem dX9_reading_61 : decode cX9_reading 61 = .ok (.aload_n 0, 1) := by decide +kernel
theorem dX9_reading_62 : decode cX9_reading 62 = .ok (.getfield 10, 3) := by decide +kernel
theorem dX9_reading_65 : decode cX9_reading 65 = .ok (.invokevirtual 230, 3) := by decide +kernel
theorem dX9_reading_68 : decode cX9_reading 68 = .ok (.aload_n 3, 1) := by decide +kernel
theorem dX9_reading_69 : decode cX9_reading 69 = .ok (.aload_n 0, 1) := by decide +kernel
theorem dX9_reading_70 : decode cX9_reading 70 = .ok (.getfield 44, 3) := by decide +kernel
theorem dX9_reading_73 : decode cX9_reading 73 = .ok (.getfield 131, 3) := by decide +kernel
