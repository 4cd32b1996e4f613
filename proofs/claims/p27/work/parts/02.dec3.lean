theorem dX10_whole_23 : decode cX10_whole 23 = .ok (.iconst 2, 1) := by decide +kernel
theorem dX10_whole_24 : decode cX10_whole 24 = .ok (.if_icmp .ne 32, 3) := by decide +kernel
theorem dX10_whole_27 : decode cX10_whole 27 = .ok (.aload_n 0, 1) := by decide +kernel
theorem dX10_whole_28 : decode cX10_whole 28 = .ok (.dup, 1) := by decide +kernel
theorem dX10_whole_29 : decode cX10_whole 29 = .ok (.getfield 139, 3) := by decide +kernel
theorem dX10_whole_32 : decode cX10_whole 32 = .ok (.iconst 1, 1) := by decide +kernel
theorem dX10_whole_33 : decode cX10_whole 33 = .ok (.isub, 1) := by decide +kernel
theorem dX10_whole_34 : decode cX10_whole 34 = .ok (.putfield 139, 3) := by decide +kernel
theorem dX10_whole_37 : decode cX10_whole 37 = .ok (.aload_n 0, 1) := by decide +kernel
theorem dX10_whole_38 : decode cX10_whole 38 = .ok (.dup, 1) := by decide +kernel
theorem dX10_whole_39 : decode cX10_whole 39 = .ok (.getfield 146, 3) := by decide +kernel
theorem dX10_whole_42 : decode cX10_whole 42 = .ok (.iconst 1, 1) := by decide +kernel
theorem dX10_whole_43 : decode cX10_whole 43 = .ok (.isub, 1) := by decide +kernel
theorem dX10_whole_44 : decode cX10_whole 44 = .ok (.putfield 146, 3) := by decide +kernel
theorem dX10_whole_47 : decode cX10_whole 47 = .ok (.aload_n 0, 1) := by decide +kernel
theorem dX10_whole_48 : decode cX10_whole 48 = .ok (.iconst 2, 1) := by decide +kernel
theorem dX10_whole_49 : decode cX10_whole 49 = .ok (.iconst 0, 1) := by decide +kernel
theorem dX10_whole_50 : decode cX10_whole 50 = .ok (.invokevirtual 149, 3) := by decide +kernel
theorem dX10_whole_53 : decode cX10_whole 53 = .ok (.goto (-48), 3) := by decide +kernel
theorem dX10_whole_56 : decode cX10_whole 56 = .ok (.return_, 1) := by decide +kernel
theorem dX10_settle_0 : decode cX10_settle 0 = .ok (.aload_n 0, 1) := by decide +kernel
theorem dX10_settle_1 : decode cX10_settle 1 = .ok (.getfield 139, 3) := by decide +kernel
theorem dX10_settle_4 : decode cX10_settle 4 = .ok (.ifCond .le 61, 3) := by decide +kernel
theorem dX10_settle_7 : decode cX10_settle 7 = .ok (.aload_n 0, 1) := by decide +kernel
theorem dX10_settle_8 : decode cX10_settle 8 = .ok (.getfield 29, 3) := by decide +kernel
theorem dX10_settle_11 : decode cX10_settle 11 = .ok (.aload_n 0, 1) := by decide +kernel
theorem dX10_settle_12 : decode cX10_settle 12 = .ok (.getfield 139, 3) := by decide +kernel
theorem dX10_settle_15 : decode cX10_settle 15 = .ok (.iconst 1, 1) := by decide +kernel
theorem dX10_settle_16 : decode cX10_settle 16 = .ok (.isub, 1) := by decide +kernel
theorem dX10_settle_17 : decode cX10_settle 17 = .ok (.iaload, 1) := by decide +kernel
theorem dX10_settle_18 : decode cX10_settle 18 = .ok (.bipush 40, 2) := by decide +kernel
theorem dX10_settle_20 : decode cX10_settle 20 = .ok (.if_icmp .ge 45, 3) := by decide +kernel
theorem dX10_settle_23 : decode cX10_settle 23 = .ok (.aload_n 0, 1) := by decide +kernel
theorem dX10_settle_24 : decode cX10_settle 24 = .ok (.getfield 29, 3) := by decide +kernel
theorem dX10_settle_27 : decode cX10_settle 27 = .ok (.aload_n 0, 1) := by decide +kernel
theorem dX10_settle_28 : decode cX10_settle 28 = .ok (.getfield 139, 3) := by decide +kernel
theorem dX10_settle_31 : decode cX10_settle 31 = .ok (.iconst 1, 1) := by decide +kernel
theorem dX10_settle_32 : decode cX10_settle 32 = .ok (.isub, 1) := by decide +kernel
theorem dX10_settle_33 : decode cX10_settle 33 = .ok (.iaload, 1) := by decide +kernel
theorem dX10_settle_34 : decode cX10_settle 34 = .ok (.iload_n 1, 1) := by decide +kernel
theorem dX10_settle_35 : decode cX10_settle 35 = .ok (.if_icmp .lt 30, 3) := by decide +kernel
theorem dX10_settle_38 : decode cX10_settle 38 = .ok (.aload_n 0, 1) := by decide +kernel
theorem dX10_settle_39 : decode cX10_settle 39 = .ok (.dup, 1) := by decide +kernel
theorem dX10_settle_40 : decode cX10_settle 40 = .ok (.getfield 139, 3) := by decide +kernel
theorem dX10_settle_43 : decode cX10_settle 43 = .ok (.iconst 1, 1) := by decide +kernel
theorem dX10_settle_44 : decode cX10_settle 44 = .ok (.isub, 1) := by decide +kernel
theorem dX10_settle_45 : decode cX10_settle 45 = .ok (.putfield 139, 3) := by decide +kernel
theorem dX10_settle_48 : decode cX10_settle 48 = .ok (.aload_n 0, 1) := by decide +kernel
theorem dX10_settle_49 : decode cX10_settle 49 = .ok (.aload_n 0, 1) := by decide +kernel
theorem dX10_settle_50 : decode cX10_settle 50 = .ok (.getfield 29, 3) := by decide +kernel
theorem dX10_settle_53 : decode cX10_settle 53 = .ok (.aload_n 0, 1) := by decide +kernel
theorem dX10_settle_54 : decode cX10_settle 54 = .ok (.getfield 139, 3) := by decide +kernel
theorem dX10_settle_57 : decode cX10_settle 57 = .ok (.iaload, 1) := by decide +kernel
theorem dX10_settle_58 : decode cX10_settle 58 = .ok (.iconst 0, 1) := by decide +kernel
theorem dX10_settle_59 : decode cX10_settle 59 = .ok (.invokevirtual 149, 3) := by decide +kernel
theorem dX10_settle_62 : decode cX10_settle 62 = .ok (.goto (-62), 3) := by decide +kernel
theorem dX10_settle_65 : decode cX10_settle 65 = .ok (.return_, 1) := by decide +kernel
theorem dX10_nameOf_0 : decode cX10_nameOf 0 = .ok (.aload_n 0, 1) := by decide +kernel
theorem dX10_nameOf_1 : decode cX10_nameOf 1 = .ok (.getfield 107, 3) := by decide +kernel
theorem dX10_nameOf_4 : decode cX10_nameOf 4 = .ok (.iconst 2, 1) := by decide +kernel
theorem dX10_nameOf_5 : decode cX10_nameOf 5 = .ok (.if_icmp .eq 5, 3) := by decide +kernel
theorem dX10_nameOf_8 : decode cX10_nameOf 8 = .ok (.iconst (-1), 1) := by decide +kernel
theorem dX10_nameOf_9 : decode cX10_nameOf 9 = .ok (.ireturn, 1) := by decide +kernel
theorem dX10_nameOf_10 : decode cX10_nameOf 10 = .ok (.aload_n 0, 1) := by decide +kernel
theorem dX10_nameOf_11 : decode cX10_nameOf 11 = .ok (.getfield 121, 3) := by decide +kernel
theorem dX10_nameOf_14 : decode cX10_nameOf 14 = .ok (.bipush 104, 2) := by decide +kernel
theorem dX10_nameOf_16 : decode cX10_nameOf 16 = .ok (.bipush 111, 2) := by decide +kernel
theorem dX10_nameOf_18 : decode cX10_nameOf 18 = .ok (.bipush 117, 2) := by decide +kernel
theorem dX10_nameOf_20 : decode cX10_nameOf 20 = .ok (.bipush 114, 2) := by decide +kernel
theorem dX10_nameOf_22 : decode cX10_nameOf 22 = .ok (.invokestatic 153, 3) := by decide +kernel
theorem dX10_nameOf_25 : decode cX10_nameOf 25 = .ok (.lcmp, 1) := by decide +kernel
theorem dX10_nameOf_26 : decode cX10_nameOf 26 = .ok (.ifCond .ne 5, 3) := by decide +kernel
theorem dX10_nameOf_29 : decode cX10_nameOf 29 = .ok (.iconst 0, 1) := by decide +kernel
theorem dX10_nameOf_30 : decode cX10_nameOf 30 = .ok (.ireturn, 1) := by decide +kernel
theorem dX10_nameOf_31 : decode cX10_nameOf 31 = .ok (.aload_n 0, 1) := by decide +kernel
theorem dX10_nameOf_32 : decode cX10_nameOf 32 = .ok (.getfield 121, 3) := by decide +kernel
theorem dX10_nameOf_35 : decode cX10_nameOf 35 = .ok (.bipush 119, 2) := by decide +kernel
theorem dX10_nameOf_37 : decode cX10_nameOf 37 = .ok (.bipush 101, 2) := by decide +kernel
theorem dX10_nameOf_39 : decode cX10_nameOf 39 = .ok (.bipush 116, 2) := by decide +kernel
theorem dX10_nameOf_41 : decode cX10_nameOf 41 = .ok (.invokestatic 125, 3) := by decide +kernel
theorem dX10_nameOf_44 : decode cX10_nameOf 44 = .ok (.lcmp, 1) := by decide +kernel
theorem dX10_nameOf_45 : decode cX10_nameOf 45 = .ok (.ifCond .ne 5, 3) := by decide +kernel
theorem dX10_nameOf_48 : decode cX10_nameOf 48 = .ok (.iconst 1, 1) := by decide +kernel
theorem dX10_nameOf_49 : decode cX10_nameOf 49 = .ok (.ireturn, 1) := by decide +kernel
theorem dX10_nameOf_50 : decode cX10_nameOf 50 = .ok (.aload_n 0, 1) := by decide +kernel
theorem dX10_nameOf_51 : decode cX10_nameOf 51 = .ok (.getfield 121, 3) := by decide +kernel
theorem dX10_nameOf_54 : decode cX10_nameOf 54 = .ok (.bipush 119, 2) := by decide +kernel
theorem dX10_nameOf_56 : decode cX10_nameOf 56 = .ok (.bipush 105, 2) := by decide +kernel
theorem dX10_nameOf_58 : decode cX10_nameOf 58 = .ok (.bipush 110, 2) := by decide +kernel
theorem dX10_nameOf_60 : decode cX10_nameOf 60 = .ok (.bipush 100, 2) := by decide +kernel
theorem dX10_nameOf_62 : decode cX10_nameOf 62 = .ok (.invokestatic 153, 3) := by decide +kernel
theorem dX10_nameOf_65 : decode cX10_nameOf 65 = .ok (.lcmp, 1) := by decide +kernel
theorem dX10_nameOf_66 : decode cX10_nameOf 66 = .ok (.ifCond .ne 5, 3) := by decide +kernel
theorem dX10_nameOf_69 : decode cX10_nameOf 69 = .ok (.iconst 2, 1) := by decide +kernel
theorem dX10_nameOf_70 : decode cX10_nameOf 70 = .ok (.ireturn, 1) := by decide +kernel
theorem dX10_nameOf_71 : decode cX10_nameOf 71 = .ok (.aload_n 0, 1) := by decide +kernel
theorem dX10_nameOf_72 : decode cX10_nameOf 72 = .ok (.getfield 121, 3) := by decide +kernel
theorem dX10_nameOf_75 : decode cX10_nameOf 75 = .ok (.bipush 116, 2) := by decide +kernel
theorem dX10_nameOf_77 : decode cX10_nameOf 77 = .ok (.bipush 104, 2) := by decide +kernel
theorem dX10_nameOf_79 : decode cX10_nameOf 79 = .ok (.bipush 105, 2) := by decide +kernel
theorem dX10_nameOf_81 : decode cX10_nameOf 81 = .ok (.bipush 110, 2) := by decide +kernel
theorem dX10_nameOf_83 : decode cX10_nameOf 83 = .ok (.bipush 103, 2) := by decide +kernel
theorem dX10_nameOf_85 : decode cX10_nameOf 85 = .ok (.invokestatic 129, 3) := by decide +kernel
theorem dX10_nameOf_88 : decode cX10_nameOf 88 = .ok (.lcmp, 1) := by decide +kernel
theorem dX10_nameOf_89 : decode cX10_nameOf 89 = .ok (.ifCond .ne 5, 3) := by decide +kernel
theorem dX10_nameOf_92 : decode cX10_nameOf 92 = .ok (.iconst 3, 1) := by decide +kernel
theorem dX10_nameOf_93 : decode cX10_nameOf 93 = .ok (.ireturn, 1) := by decide +kernel
theorem dX10_nameOf_94 : decode cX10_nameOf 94 = .ok (.aload_n 0, 1) := by decide +kernel
theorem dX10_nameOf_95 : decode cX10_nameOf 95 = .ok (.getfield 121, 3) := by decide +kernel
theorem dX10_nameOf_98 : decode cX10_nameOf 98 = .ok (.bipush 119, 2) := by decide +kernel
theorem dX10_nameOf_100 : decode cX10_nameOf 100 = .ok (.bipush 101, 2) := by decide +kernel
theorem dX10_nameOf_102 : decode cX10_nameOf 102 = .ok (.bipush 105, 2) := by decide +kernel
theorem dX10_nameOf_104 : decode cX10_nameOf 104 = .ok (.bipush 103, 2) := by decide +kernel
theorem dX10_nameOf_106 : decode cX10_nameOf 106 = .ok (.bipush 104, 2) := by decide +kernel
theorem dX10_nameOf_108 : decode cX10_nameOf 108 = .ok (.bipush 116, 2) := by decide +kernel
theorem dX10_nameOf_110 : decode cX10_nameOf 110 = .ok (.invokestatic 157, 3) := by decide +kernel
theorem dX10_nameOf_113 : decode cX10_nameOf 113 = .ok (.lcmp, 1) := by decide +kernel
theorem dX10_nameOf_114 : decode cX10_nameOf 114 = .ok (.ifCond .ne 5, 3) := by decide +kernel
theorem dX10_nameOf_117 : decode cX10_nameOf 117 = .ok (.iconst 4, 1) := by decide +kernel
theorem dX10_nameOf_118 : decode cX10_nameOf 118 = .ok (.ireturn, 1) := by decide +kernel
theorem dX10_nameOf_119 : decode cX10_nameOf 119 = .ok (.aload_n 0, 1) := by decide +kernel
theorem dX10_nameOf_120 : decode cX10_nameOf 120 = .ok (.getfield 121, 3) := by decide +kernel
theorem dX10_nameOf_123 : decode cX10_nameOf 123 = .ok (.bipush 115, 2) := by decide +kernel
theorem dX10_nameOf_125 : decode cX10_nameOf 125 = .ok (.bipush 111, 2) := by decide +kernel
theorem dX10_nameOf_127 : decode cX10_nameOf 127 = .ok (.bipush 114, 2) := by decide +kernel
theorem dX10_nameOf_129 : decode cX10_nameOf 129 = .ok (.bipush 116, 2) := by decide +kernel
theorem dX10_nameOf_131 : decode cX10_nameOf 131 = .ok (.invokestatic 153, 3) := by decide +kernel
theorem dX10_nameOf_134 : decode cX10_nameOf 134 = .ok (.lcmp, 1) := by decide +kernel
theorem dX10_nameOf_135 : decode cX10_nameOf 135 = .ok (.ifCond .ne 5, 3) := by decide +kernel
theorem dX10_nameOf_138 : decode cX10_nameOf 138 = .ok (.iconst 5, 1) := by decide +kernel
theorem dX10_nameOf_139 : decode cX10_nameOf 139 = .ok (.ireturn, 1) := by decide +kernel
theorem dX10_nameOf_140 : decode cX10_nameOf 140 = .ok (.aload_n 0, 1) := by decide +kernel
theorem dX10_nameOf_141 : decode cX10_nameOf 141 = .ok (.getfield 121, 3) := by decide +kernel
theorem dX10_nameOf_144 : decode cX10_nameOf 144 = .ok (.bipush 112, 2) := by decide +kernel
theorem dX10_nameOf_146 : decode cX10_nameOf 146 = .ok (.bipush 97, 2) := by decide +kernel
theorem dX10_nameOf_148 : decode cX10_nameOf 148 = .ok (.bipush 110, 2) := by decide +kernel
theorem dX10_nameOf_150 : decode cX10_nameOf 150 = .ok (.invokestatic 125, 3) := by decide +kernel
theorem dX10_nameOf_153 : decode cX10_nameOf 153 = .ok (.lcmp, 1) := by decide +kernel
theorem dX10_nameOf_154 : decode cX10_nameOf 154 = .ok (.ifCond .ne 6, 3) := by decide +kernel
theorem dX10_nameOf_157 : decode cX10_nameOf 157 = .ok (.bipush 6, 2) := by decide +kernel
theorem dX10_nameOf_159 : decode cX10_nameOf 159 = .ok (.ireturn, 1) := by decide +kernel
theorem dX10_nameOf_160 : decode cX10_nameOf 160 = .ok (.aload_n 0, 1) := by decide +kernel
theorem dX10_nameOf_161 : decode cX10_nameOf 161 = .ok (.getfield 121, 3) := by decide +kernel
theorem dX10_nameOf_164 : decode cX10_nameOf 164 = .ok (.bipush 108, 2) := by decide +kernel
theorem dX10_nameOf_166 : decode cX10_nameOf 166 = .ok (.bipush 101, 2) := by decide +kernel
theorem dX10_nameOf_168 : decode cX10_nameOf 168 = .ok (.bipush 102, 2) := by decide +kernel
theorem dX10_nameOf_170 : decode cX10_nameOf 170 = .ok (.bipush 116, 2) := by decide +kernel
theorem dX10_nameOf_172 : decode cX10_nameOf 172 = .ok (.invokestatic 153, 3) := by decide +kernel
theorem dX10_nameOf_175 : decode cX10_nameOf 175 = .ok (.lcmp, 1) := by decide +kernel
theorem dX10_nameOf_176 : decode cX10_nameOf 176 = .ok (.ifCond .ne 6, 3) := by decide +kernel
theorem dX10_nameOf_179 : decode cX10_nameOf 179 = .ok (.bipush 7, 2) := by decide +kernel
theorem dX10_nameOf_181 : decode cX10_nameOf 181 = .ok (.ireturn, 1) := by decide +kernel
theorem dX10_nameOf_182 : decode cX10_nameOf 182 = .ok (.aload_n 0, 1) := by decide +kernel
theorem dX10_nameOf_183 : decode cX10_nameOf 183 = .ok (.getfield 121, 3) := by decide +kernel
theorem dX10_nameOf_186 : decode cX10_nameOf 186 = .ok (.bipush 114, 2) := by decide +kernel
theorem dX10_nameOf_188 : decode cX10_nameOf 188 = .ok (.bipush 105, 2) := by decide +kernel
theorem dX10_nameOf_190 : decode cX10_nameOf 190 = .ok (.bipush 103, 2) := by decide +kernel
theorem dX10_nameOf_192 : decode cX10_nameOf 192 = .ok (.bipush 104, 2) := by decide +kernel
theorem dX10_nameOf_194 : decode cX10_nameOf 194 = .ok (.bipush 116, 2) := by decide +kernel
theorem dX10_nameOf_196 : decode cX10_nameOf 196 = .ok (.invokestatic 129, 3) := by decide +kernel
theorem dX10_nameOf_199 : decode cX10_nameOf 199 = .ok (.lcmp, 1) := by decide +kernel
theorem dX10_nameOf_200 : decode cX10_nameOf 200 = .ok (.ifCond .ne 6, 3) := by decide +kernel
theorem dX10_nameOf_203 : decode cX10_nameOf 203 = .ok (.bipush 8, 2) := by decide +kernel
theorem dX10_nameOf_205 : decode cX10_nameOf 205 = .ok (.ireturn, 1) := by decide +kernel
theorem dX10_nameOf_206 : decode cX10_nameOf 206 = .ok (.aload_n 0, 1) := by decide +kernel
theorem dX10_nameOf_207 : decode cX10_nameOf 207 = .ok (.getfield 121, 3) := by decide +kernel
theorem dX10_nameOf_210 : decode cX10_nameOf 210 = .ok (.bipush 109, 2) := by decide +kernel
theorem dX10_nameOf_212 : decode cX10_nameOf 212 = .ok (.bipush 111, 2) := by decide +kernel
theorem dX10_nameOf_214 : decode cX10_nameOf 214 = .ok (.bipush 109, 2) := by decide +kernel
theorem dX10_nameOf_216 : decode cX10_nameOf 216 = .ok (.bipush 101, 2) := by decide +kernel
theorem dX10_nameOf_218 : decode cX10_nameOf 218 = .ok (.bipush 110, 2) := by decide +kernel
theorem dX10_nameOf_220 : decode cX10_nameOf 220 = .ok (.bipush 116, 2) := by decide +kernel
theorem dX10_nameOf_222 : decode cX10_nameOf 222 = .ok (.invokestatic 157, 3) := by decide +kernel
theorem dX10_nameOf_225 : decode cX10_nameOf 225 = .ok (.lcmp, 1) := by decide +kernel
theorem dX10_nameOf_226 : decode cX10_nameOf 226 = .ok (.ifCond .ne 8, 3) := by decide +kernel
theorem dX10_nameOf_229 : decode cX10_nameOf 229 = .ok (.bipush 9, 2) := by decide +kernel
theorem dX10_nameOf_231 : decode cX10_nameOf 231 = .ok (.goto 32, 3) := by decide +kernel
theorem dX10_nameOf_234 : decode cX10_nameOf 234 = .ok (.aload_n 0, 1) := by decide +kernel
theorem dX10_nameOf_235 : decode cX10_nameOf 235 = .ok (.getfield 121, 3) := by decide +kernel
theorem dX10_nameOf_238 : decode cX10_nameOf 238 = .ok (.bipush 116, 2) := by decide +kernel
theorem dX10_nameOf_240 : decode cX10_nameOf 240 = .ok (.bipush 117, 2) := by decide +kernel
theorem dX10_nameOf_242 : decode cX10_nameOf 242 = .ok (.bipush 114, 2) := by decide +kernel
theorem dX10_nameOf_244 : decode cX10_nameOf 244 = .ok (.bipush 110, 2) := by decide +kernel
theorem dX10_nameOf_246 : decode cX10_nameOf 246 = .ok (.bipush 101, 2) := by decide +kernel
theorem dX10_nameOf_248 : decode cX10_nameOf 248 = .ok (.bipush 100, 2) := by decide +kernel
theorem dX10_nameOf_250 : decode cX10_nameOf 250 = .ok (.invokestatic 157, 3) := by decide +kernel
theorem dX10_nameOf_253 : decode cX10_nameOf 253 = .ok (.lcmp, 1) := by decide +kernel
theorem dX10_nameOf_254 : decode cX10_nameOf 254 = .ok (.ifCond .ne 8, 3) := by decide +kernel
theorem dX10_nameOf_257 : decode cX10_nameOf 257 = .ok (.bipush 10, 2) := by decide +kernel
theorem dX10_nameOf_259 : decode cX10_nameOf 259 = .ok (.goto 4, 3) := by decide +kernel
theorem dX10_nameOf_262 : decode cX10_nameOf 262 = .ok (.iconst (-1), 1) := by decide +kernel
theorem dX10_nameOf_263 : decode cX10_nameOf 263 = .ok (.ireturn, 1) := by decide +kernel
theorem dX10_isBarred_0 : decode cX10_isBarred 0 = .ok (.aload_n 0, 1) := by decide +kernel
theorem dX10_isBarred_1 : decode cX10_isBarred 1 = .ok (.getfield 161, 3) := by decide +kernel
theorem dX10_isBarred_4 : decode cX10_isBarred 4 = .ok (.ifCond .ne 17, 3) := by decide +kernel
theorem dX10_isBarred_7 : decode cX10_isBarred 7 = .ok (.iload_n 1, 1) := by decide +kernel
theorem dX10_isBarred_8 : decode cX10_isBarred 8 = .ok (.bipush 6, 2) := by decide +kernel
theorem dX10_isBarred_10 : decode cX10_isBarred 10 = .ok (.if_icmp .le 7, 3) := by decide +kernel
theorem dX10_isBarred_13 : decode cX10_isBarred 13 = .ok (.iconst 1, 1) := by decide +kernel
theorem dX10_isBarred_14 : decode cX10_isBarred 14 = .ok (.goto 14, 3) := by decide +kernel
theorem dX10_isBarred_17 : decode cX10_isBarred 17 = .ok (.iconst 0, 1) := by decide +kernel
theorem dX10_isBarred_18 : decode cX10_isBarred 18 = .ok (.goto 10, 3) := by decide +kernel
theorem dX10_isBarred_21 : decode cX10_isBarred 21 = .ok (.iload_n 1, 1) := by decide +kernel
theorem dX10_isBarred_22 : decode cX10_isBarred 22 = .ok (.iconst 3, 1) := by decide +kernel
theorem dX10_isBarred_23 : decode cX10_isBarred 23 = .ok (.bipush 6, 2) := by decide +kernel
theorem dX10_isBarred_25 : decode cX10_isBarred 25 = .ok (.invokestatic 83, 3) := by decide +kernel
theorem dX10_isBarred_28 : decode cX10_isBarred 28 = .ok (.ireturn, 1) := by decide +kernel
theorem dX10_beginOne_0 : decode cX10_beginOne 0 = .ok (.aload_n 0, 1) := by decide +kernel
theorem dX10_beginOne_1 : decode cX10_beginOne 1 = .ok (.getfield 107, 3) := by decide +kernel
theorem dX10_beginOne_4 : decode cX10_beginOne 4 = .ok (.iconst 1, 1) := by decide +kernel
theorem dX10_beginOne_5 : decode cX10_beginOne 5 = .ok (.if_icmp .ne 34, 3) := by decide +kernel
theorem dX10_beginOne_8 : decode cX10_beginOne 8 = .ok (.aload_n 0, 1) := by decide +kernel
theorem dX10_beginOne_9 : decode cX10_beginOne 9 = .ok (.getfield 114, 3) := by decide +kernel
theorem dX10_beginOne_12 : decode cX10_beginOne 12 = .ok (.sipush 9999, 3) := by decide +kernel
theorem dX10_beginOne_15 : decode cX10_beginOne 15 = .ok (.if_icmp .le 5, 3) := by decide +kernel
theorem dX10_beginOne_18 : decode cX10_beginOne 18 = .ok (.iconst 2, 1) := by decide +kernel
theorem dX10_beginOne_19 : decode cX10_beginOne 19 = .ok (.ireturn, 1) := by decide +kernel
theorem dX10_beginOne_20 : decode cX10_beginOne 20 = .ok (.aload_n 0, 1) := by decide +kernel
theorem dX10_beginOne_21 : decode cX10_beginOne 21 = .ok (.iconst 0, 1) := by decide +kernel
theorem dX10_beginOne_22 : decode cX10_beginOne 22 = .ok (.aload_n 0, 1) := by decide +kernel
theorem dX10_beginOne_23 : decode cX10_beginOne 23 = .ok (.getfield 114, 3) := by decide +kernel
theorem dX10_beginOne_26 : decode cX10_beginOne 26 = .ok (.invokevirtual 149, 3) := by decide +kernel
theorem dX10_beginOne_29 : decode cX10_beginOne 29 = .ok (.aload_n 0, 1) := by decide +kernel
theorem dX10_beginOne_30 : decode cX10_beginOne 30 = .ok (.invokevirtual 164, 3) := by decide +kernel
theorem dX10_beginOne_33 : decode cX10_beginOne 33 = .ok (.aload_n 0, 1) := by decide +kernel
theorem dX10_beginOne_34 : decode cX10_beginOne 34 = .ok (.invokevirtual 167, 3) := by decide +kernel
theorem dX10_beginOne_37 : decode cX10_beginOne 37 = .ok (.iconst 0, 1) := by decide +kernel
theorem dX10_beginOne_38 : decode cX10_beginOne 38 = .ok (.ireturn, 1) := by decide +kernel
theorem dX10_beginOne_39 : decode cX10_beginOne 39 = .ok (.aload_n 0, 1) := by decide +kernel
theorem dX10_beginOne_40 : decode cX10_beginOne 40 = .ok (.invokevirtual 170, 3) := by decide +kernel
theorem dX10_beginOne_43 : decode cX10_beginOne 43 = .ok (.ifCond .lt 35, 3) := by decide +kernel
theorem dX10_beginOne_46 : decode cX10_beginOne 46 = .ok (.aload_n 0, 1) := by decide +kernel
theorem dX10_beginOne_47 : decode cX10_beginOne 47 = .ok (.aload_n 0, 1) := by decide +kernel
theorem dX10_beginOne_48 : decode cX10_beginOne 48 = .ok (.invokevirtual 170, 3) := by decide +kernel
theorem dX10_beginOne_51 : decode cX10_beginOne 51 = .ok (.invokevirtual 174, 3) := by decide +kernel
theorem dX10_beginOne_54 : decode cX10_beginOne 54 = .ok (.ifCond .eq 5, 3) := by decide +kernel
theorem dX10_beginOne_57 : decode cX10_beginOne 57 = .ok (.iconst 5, 1) := by decide +kernel
theorem dX10_beginOne_58 : decode cX10_beginOne 58 = .ok (.ireturn, 1) := by decide +kernel
theorem dX10_beginOne_59 : decode cX10_beginOne 59 = .ok (.aload_n 0, 1) := by decide +kernel
theorem dX10_beginOne_60 : decode cX10_beginOne 60 = .ok (.iconst 1, 1) := by decide +kernel
theorem dX10_beginOne_61 : decode cX10_beginOne 61 = .ok (.aload_n 0, 1) := by decide +kernel
theorem dX10_beginOne_62 : decode cX10_beginOne 62 = .ok (.invokevirtual 170, 3) := by decide +kernel
theorem dX10_beginOne_65 : decode cX10_beginOne 65 = .ok (.invokevirtual 149, 3) := by decide +kernel
theorem dX10_beginOne_68 : decode cX10_beginOne 68 = .ok (.aload_n 0, 1) := by decide +kernel
theorem dX10_beginOne_69 : decode cX10_beginOne 69 = .ok (.invokevirtual 164, 3) := by decide +kernel
theorem dX10_beginOne_72 : decode cX10_beginOne 72 = .ok (.aload_n 0, 1) := by decide +kernel
theorem dX10_beginOne_73 : decode cX10_beginOne 73 = .ok (.invokevirtual 167, 3) := by decide +kernel
theorem dX10_beginOne_76 : decode cX10_beginOne 76 = .ok (.iconst 0, 1) := by decide +kernel
theorem dX10_beginOne_77 : decode cX10_beginOne 77 = .ok (.ireturn, 1) := by decide +kernel
theorem dX10_beginOne_78 : decode cX10_beginOne 78 = .ok (.aload_n 0, 1) := by decide +kernel
theorem dX10_beginOne_79 : decode cX10_beginOne 79 = .ok (.getfield 107, 3) := by decide +kernel
theorem dX10_beginOne_82 : decode cX10_beginOne 82 = .ok (.bipush 40, 2) := by decide +kernel
theorem dX10_beginOne_84 : decode cX10_beginOne 84 = .ok (.if_icmp .ne 8, 3) := by decide +kernel
theorem dX10_beginOne_87 : decode cX10_beginOne 87 = .ok (.bipush 40, 2) := by decide +kernel
theorem dX10_beginOne_89 : decode cX10_beginOne 89 = .ok (.goto 17, 3) := by decide +kernel
theorem dX10_beginOne_92 : decode cX10_beginOne 92 = .ok (.aload_n 0, 1) := by decide +kernel
theorem dX10_beginOne_93 : decode cX10_beginOne 93 = .ok (.getfield 107, 3) := by decide +kernel
theorem dX10_beginOne_96 : decode cX10_beginOne 96 = .ok (.bipush 45, 2) := by decide +kernel
theorem dX10_beginOne_98 : decode cX10_beginOne 98 = .ok (.if_icmp .ne 7, 3) := by decide +kernel
theorem dX10_beginOne_101 : decode cX10_beginOne 101 = .ok (.iconst 2, 1) := by decide +kernel
theorem dX10_beginOne_102 : decode cX10_beginOne 102 = .ok (.goto 4, 3) := by decide +kernel
theorem dX10_beginOne_105 : decode cX10_beginOne 105 = .ok (.iconst 0, 1) := by decide +kernel
theorem dX10_beginOne_106 : decode cX10_beginOne 106 = .ok (.istore_n 1, 1) := by decide +kernel
theorem dX10_beginOne_107 : decode cX10_beginOne 107 = .ok (.iload_n 1, 1) := by decide +kernel
theorem dX10_beginOne_108 : decode cX10_beginOne 108 = .ok (.ifCond .ne 5, 3) := by decide +kernel
theorem dX10_beginOne_111 : decode cX10_beginOne 111 = .ok (.iconst 1, 1) := by decide +kernel
theorem dX10_beginOne_112 : decode cX10_beginOne 112 = .ok (.ireturn, 1) := by decide +kernel
theorem dX10_beginOne_113 : decode cX10_beginOne 113 = .ok (.aload_n 0, 1) := by decide +kernel
theorem dX10_beginOne_114 : decode cX10_beginOne 114 = .ok (.getfield 146, 3) := by decide +kernel
theorem dX10_beginOne_117 : decode cX10_beginOne 117 = .ok (.bipush 8, 2) := by decide +kernel
theorem dX10_beginOne_119 : decode cX10_beginOne 119 = .ok (.if_icmp .ne 5, 3) := by decide +kernel
theorem dX10_beginOne_122 : decode cX10_beginOne 122 = .ok (.iconst 3, 1) := by decide +kernel
theorem dX10_beginOne_123 : decode cX10_beginOne 123 = .ok (.ireturn, 1) := by decide +kernel
theorem dX10_beginOne_124 : decode cX10_beginOne 124 = .ok (.aload_n 0, 1) := by decide +kernel
theorem dX10_beginOne_125 : decode cX10_beginOne 125 = .ok (.dup, 1) := by decide +kernel
theorem dX10_beginOne_126 : decode cX10_beginOne 126 = .ok (.getfield 146, 3) := by decide +kernel
theorem dX10_beginOne_129 : decode cX10_beginOne 129 = .ok (.iconst 1, 1) := by decide +kernel
theorem dX10_beginOne_130 : decode cX10_beginOne 130 = .ok (.iadd, 1) := by decide +kernel
theorem dX10_beginOne_131 : decode cX10_beginOne 131 = .ok (.putfield 146, 3) := by decide +kernel
theorem dX10_beginOne_134 : decode cX10_beginOne 134 = .ok (.aload_n 0, 1) := by decide +kernel
theorem dX10_beginOne_135 : decode cX10_beginOne 135 = .ok (.iload_n 1, 1) := by decide +kernel
theorem dX10_beginOne_136 : decode cX10_beginOne 136 = .ok (.invokevirtual 177, 3) := by decide +kernel
theorem dX10_beginOne_139 : decode cX10_beginOne 139 = .ok (.aload_n 0, 1) := by decide +kernel
theorem dX10_beginOne_140 : decode cX10_beginOne 140 = .ok (.invokevirtual 164, 3) := by decide +kernel
theorem dX10_beginOne_143 : decode cX10_beginOne 143 = .ok (.iconst 0, 1) := by decide +kernel
theorem dX10_beginOne_144 : decode cX10_beginOne 144 = .ok (.ireturn, 1) := by decide +kernel
theorem dX10_hasParen_0 : decode cX10_hasParen 0 = .ok (.iconst 0, 1) := by decide +kernel
theorem dX10_hasParen_1 : decode cX10_hasParen 1 = .ok (.istore_n 1, 1) := by decide +kernel
theorem dX10_hasParen_2 : decode cX10_hasParen 2 = .ok (.iload_n 1, 1) := by decide +kernel
theorem dX10_hasParen_3 : decode cX10_hasParen 3 = .ok (.aload_n 0, 1) := by decide +kernel
theorem dX10_hasParen_4 : decode cX10_hasParen 4 = .ok (.getfield 139, 3) := by decide +kernel
theorem dX10_hasParen_7 : decode cX10_hasParen 7 = .ok (.if_icmp .ge 22, 3) := by decide +kernel
theorem dX10_hasParen_10 : decode cX10_hasParen 10 = .ok (.aload_n 0, 1) := by decide +kernel
theorem dX10_hasParen_11 : decode cX10_hasParen 11 = .ok (.getfield 29, 3) := by decide +kernel
theorem dX10_hasParen_14 : decode cX10_hasParen 14 = .ok (.iload_n 1, 1) := by decide +kernel
theorem dX10_hasParen_15 : decode cX10_hasParen 15 = .ok (.iaload, 1) := by decide +kernel
theorem dX10_hasParen_16 : decode cX10_hasParen 16 = .ok (.bipush 40, 2) := by decide +kernel
theorem dX10_hasParen_18 : decode cX10_hasParen 18 = .ok (.if_icmp .ne 5, 3) := by decide +kernel
theorem dX10_hasParen_21 : decode cX10_hasParen 21 = .ok (.iconst 1, 1) := by decide +kernel
theorem dX10_hasParen_22 : decode cX10_hasParen 22 = .ok (.ireturn, 1) := by decide +kernel
theorem dX10_hasParen_23 : decode cX10_hasParen 23 = .ok (.iinc 1 1, 3) := by decide +kernel
theorem dX10_hasParen_26 : decode cX10_hasParen 26 = .ok (.goto (-24), 3) := by decide +kernel
theorem dX10_hasParen_29 : decode cX10_hasParen 29 = .ok (.iconst 0, 1) := by decide +kernel
theorem dX10_hasParen_30 : decode cX10_hasParen 30 = .ok (.ireturn, 1) := by decide +kernel
theorem dX10_goesOn_0 : decode cX10_goesOn 0 = .ok (.aload_n 0, 1) := by decide +kernel
theorem dX10_goesOn_1 : decode cX10_goesOn 1 = .ok (.getfield 107, 3) := by decide +kernel
theorem dX10_goesOn_4 : decode cX10_goesOn 4 = .ok (.bipush 43, 2) := by decide +kernel
theorem dX10_goesOn_6 : decode cX10_goesOn 6 = .ok (.if_icmp .eq 46, 3) := by decide +kernel
theorem dX10_goesOn_9 : decode cX10_goesOn 9 = .ok (.aload_n 0, 1) := by decide +kernel
theorem dX10_goesOn_10 : decode cX10_goesOn 10 = .ok (.getfield 107, 3) := by decide +kernel
theorem dX10_goesOn_13 : decode cX10_goesOn 13 = .ok (.bipush 45, 2) := by decide +kernel
theorem dX10_goesOn_15 : decode cX10_goesOn 15 = .ok (.if_icmp .eq 37, 3) := by decide +kernel
theorem dX10_goesOn_18 : decode cX10_goesOn 18 = .ok (.aload_n 0, 1) := by decide +kernel
theorem dX10_goesOn_19 : decode cX10_goesOn 19 = .ok (.getfield 107, 3) := by decide +kernel
theorem dX10_goesOn_22 : decode cX10_goesOn 22 = .ok (.bipush 42, 2) := by decide +kernel
theorem dX10_goesOn_24 : decode cX10_goesOn 24 = .ok (.if_icmp .eq 28, 3) := by decide +kernel
theorem dX10_goesOn_27 : decode cX10_goesOn 27 = .ok (.aload_n 0, 1) := by decide +kernel
theorem dX10_goesOn_28 : decode cX10_goesOn 28 = .ok (.getfield 107, 3) := by decide +kernel
theorem dX10_goesOn_31 : decode cX10_goesOn 31 = .ok (.bipush 47, 2) := by decide +kernel
theorem dX10_goesOn_33 : decode cX10_goesOn 33 = .ok (.if_icmp .eq 19, 3) := by decide +kernel
theorem dX10_goesOn_36 : decode cX10_goesOn 36 = .ok (.aload_n 0, 1) := by decide +kernel
theorem dX10_goesOn_37 : decode cX10_goesOn 37 = .ok (.getfield 107, 3) := by decide +kernel
theorem dX10_goesOn_40 : decode cX10_goesOn 40 = .ok (.bipush 41, 2) := by decide +kernel
theorem dX10_goesOn_42 : decode cX10_goesOn 42 = .ok (.if_icmp .ne 14, 3) := by decide +kernel
theorem dX10_goesOn_45 : decode cX10_goesOn 45 = .ok (.aload_n 0, 1) := by decide +kernel
theorem dX10_goesOn_46 : decode cX10_goesOn 46 = .ok (.invokevirtual 180, 3) := by decide +kernel
theorem dX10_goesOn_49 : decode cX10_goesOn 49 = .ok (.ifCond .eq 7, 3) := by decide +kernel
theorem dX10_goesOn_52 : decode cX10_goesOn 52 = .ok (.iconst 1, 1) := by decide +kernel
theorem dX10_goesOn_53 : decode cX10_goesOn 53 = .ok (.goto 4, 3) := by decide +kernel
theorem dX10_goesOn_56 : decode cX10_goesOn 56 = .ok (.iconst 0, 1) := by decide +kernel
theorem dX10_goesOn_57 : decode cX10_goesOn 57 = .ok (.ireturn, 1) := by decide +kernel
theorem dX10_behindOne_0 : decode cX10_behindOne 0 = .ok (.aload_n 0, 1) := by decide +kernel
theorem dX10_behindOne_1 : decode cX10_behindOne 1 = .ok (.getfield 107, 3) := by decide +kernel
theorem dX10_behindOne_4 : decode cX10_behindOne 4 = .ok (.istore_n 1, 1) := by decide +kernel
theorem dX10_behindOne_5 : decode cX10_behindOne 5 = .ok (.iload_n 1, 1) := by decide +kernel
theorem dX10_behindOne_6 : decode cX10_behindOne 6 = .ok (.bipush 43, 2) := by decide +kernel
theorem dX10_behindOne_8 : decode cX10_behindOne 8 = .ok (.if_icmp .eq 9, 3) := by decide +kernel
theorem dX10_behindOne_11 : decode cX10_behindOne 11 = .ok (.iload_n 1, 1) := by decide +kernel
theorem dX10_behindOne_12 : decode cX10_behindOne 12 = .ok (.bipush 45, 2) := by decide +kernel
theorem dX10_behindOne_14 : decode cX10_behindOne 14 = .ok (.if_icmp .ne 31, 3) := by decide +kernel
theorem dX10_behindOne_17 : decode cX10_behindOne 17 = .ok (.aload_n 0, 1) := by decide +kernel
theorem dX10_behindOne_18 : decode cX10_behindOne 18 = .ok (.iconst 3, 1) := by decide +kernel
theorem dX10_behindOne_19 : decode cX10_behindOne 19 = .ok (.invokevirtual 184, 3) := by decide +kernel
theorem dX10_behindOne_22 : decode cX10_behindOne 22 = .ok (.aload_n 0, 1) := by decide +kernel
theorem dX10_behindOne_23 : decode cX10_behindOne 23 = .ok (.iload_n 1, 1) := by decide +kernel
theorem dX10_behindOne_24 : decode cX10_behindOne 24 = .ok (.bipush 43, 2) := by decide +kernel
theorem dX10_behindOne_26 : decode cX10_behindOne 26 = .ok (.if_icmp .ne 7, 3) := by decide +kernel
theorem dX10_behindOne_29 : decode cX10_behindOne 29 = .ok (.iconst 3, 1) := by decide +kernel
theorem dX10_behindOne_30 : decode cX10_behindOne 30 = .ok (.goto 4, 3) := by decide +kernel
theorem dX10_behindOne_33 : decode cX10_behindOne 33 = .ok (.iconst 4, 1) := by decide +kernel
theorem dX10_behindOne_34 : decode cX10_behindOne 34 = .ok (.invokevirtual 177, 3) := by decide +kernel
theorem dX10_behindOne_37 : decode cX10_behindOne 37 = .ok (.aload_n 0, 1) := by decide +kernel
theorem dX10_behindOne_38 : decode cX10_behindOne 38 = .ok (.iconst 0, 1) := by decide +kernel
theorem dX10_behindOne_39 : decode cX10_behindOne 39 = .ok (.putfield 142, 3) := by decide +kernel
theorem dX10_behindOne_42 : decode cX10_behindOne 42 = .ok (.goto 73, 3) := by decide +kernel
theorem dX10_behindOne_45 : decode cX10_behindOne 45 = .ok (.iload_n 1, 1) := by decide +kernel
theorem dX10_behindOne_46 : decode cX10_behindOne 46 = .ok (.bipush 42, 2) := by decide +kernel
theorem dX10_behindOne_48 : decode cX10_behindOne 48 = .ok (.if_icmp .eq 9, 3) := by decide +kernel
theorem dX10_behindOne_51 : decode cX10_behindOne 51 = .ok (.iload_n 1, 1) := by decide +kernel
theorem dX10_behindOne_52 : decode cX10_behindOne 52 = .ok (.bipush 47, 2) := by decide +kernel
theorem dX10_behindOne_54 : decode cX10_behindOne 54 = .ok (.if_icmp .ne 32, 3) := by decide +kernel
theorem dX10_behindOne_57 : decode cX10_behindOne 57 = .ok (.aload_n 0, 1) := by decide +kernel
theorem dX10_behindOne_58 : decode cX10_behindOne 58 = .ok (.iconst 5, 1) := by decide +kernel
theorem dX10_behindOne_59 : decode cX10_behindOne 59 = .ok (.invokevirtual 184, 3) := by decide +kernel
theorem dX10_behindOne_62 : decode cX10_behindOne 62 = .ok (.aload_n 0, 1) := by decide +kernel
theorem dX10_behindOne_63 : decode cX10_behindOne 63 = .ok (.iload_n 1, 1) := by decide +kernel
theorem dX10_behindOne_64 : decode cX10_behindOne 64 = .ok (.bipush 42, 2) := by decide +kernel
theorem dX10_behindOne_66 : decode cX10_behindOne 66 = .ok (.if_icmp .ne 7, 3) := by decide +kernel
theorem dX10_behindOne_69 : decode cX10_behindOne 69 = .ok (.iconst 5, 1) := by decide +kernel
theorem dX10_behindOne_70 : decode cX10_behindOne 70 = .ok (.goto 5, 3) := by decide +kernel
theorem dX10_behindOne_73 : decode cX10_behindOne 73 = .ok (.bipush 6, 2) := by decide +kernel
theorem dX10_behindOne_75 : decode cX10_behindOne 75 = .ok (.invokevirtual 177, 3) := by decide +kernel
theorem dX10_behindOne_78 : decode cX10_behindOne 78 = .ok (.aload_n 0, 1) := by decide +kernel
theorem dX10_behindOne_79 : decode cX10_behindOne 79 = .ok (.iconst 0, 1) := by decide +kernel
theorem dX10_behindOne_80 : decode cX10_behindOne 80 = .ok (.putfield 142, 3) := by decide +kernel
theorem dX10_behindOne_83 : decode cX10_behindOne 83 = .ok (.goto 32, 3) := by decide +kernel
theorem dX10_behindOne_86 : decode cX10_behindOne 86 = .ok (.aload_n 0, 1) := by decide +kernel
theorem dX10_behindOne_87 : decode cX10_behindOne 87 = .ok (.iconst 3, 1) := by decide +kernel
theorem dX10_behindOne_88 : decode cX10_behindOne 88 = .ok (.invokevirtual 184, 3) := by decide +kernel
theorem dX10_behindOne_91 : decode cX10_behindOne 91 = .ok (.aload_n 0, 1) := by decide +kernel
theorem dX10_behindOne_92 : decode cX10_behindOne 92 = .ok (.dup, 1) := by decide +kernel
theorem dX10_behindOne_93 : decode cX10_behindOne 93 = .ok (.getfield 139, 3) := by decide +kernel
theorem dX10_behindOne_96 : decode cX10_behindOne 96 = .ok (.iconst 1, 1) := by decide +kernel
theorem dX10_behindOne_97 : decode cX10_behindOne 97 = .ok (.isub, 1) := by decide +kernel
theorem dX10_behindOne_98 : decode cX10_behindOne 98 = .ok (.putfield 139, 3) := by decide +kernel
theorem dX10_behindOne_101 : decode cX10_behindOne 101 = .ok (.aload_n 0, 1) := by decide +kernel
theorem dX10_behindOne_102 : decode cX10_behindOne 102 = .ok (.dup, 1) := by decide +kernel
theorem dX10_behindOne_103 : decode cX10_behindOne 103 = .ok (.getfield 146, 3) := by decide +kernel
theorem dX10_behindOne_106 : decode cX10_behindOne 106 = .ok (.iconst 1, 1) := by decide +kernel
theorem dX10_behindOne_107 : decode cX10_behindOne 107 = .ok (.isub, 1) := by decide +kernel
theorem dX10_behindOne_108 : decode cX10_behindOne 108 = .ok (.putfield 146, 3) := by decide +kernel
theorem dX10_behindOne_111 : decode cX10_behindOne 111 = .ok (.aload_n 0, 1) := by decide +kernel
theorem dX10_behindOne_112 : decode cX10_behindOne 112 = .ok (.invokevirtual 167, 3) := by decide +kernel
theorem dX10_behindOne_115 : decode cX10_behindOne 115 = .ok (.aload_n 0, 1) := by decide +kernel
theorem dX10_behindOne_116 : decode cX10_behindOne 116 = .ok (.invokevirtual 164, 3) := by decide +kernel
theorem dX10_behindOne_119 : decode cX10_behindOne 119 = .ok (.iconst 0, 1) := by decide +kernel
theorem dX10_behindOne_120 : decode cX10_behindOne 120 = .ok (.ireturn, 1) := by decide +kernel
theorem dX10_summed_0 : decode cX10_summed 0 = .ok (.aload_n 0, 1) := by decide +kernel
theorem dX10_summed_1 : decode cX10_summed 1 = .ok (.iconst 0, 1) := by decide +kernel
theorem dX10_summed_2 : decode cX10_summed 2 = .ok (.putfield 139, 3) := by decide +kernel
theorem dX10_summed_5 : decode cX10_summed 5 = .ok (.aload_n 0, 1) := by decide +kernel
theorem dX10_summed_6 : decode cX10_summed 6 = .ok (.iconst 0, 1) := by decide +kernel
theorem dX10_summed_7 : decode cX10_summed 7 = .ok (.putfield 142, 3) := by decide +kernel
theorem dX10_summed_10 : decode cX10_summed 10 = .ok (.aload_n 0, 1) := by decide +kernel
theorem dX10_summed_11 : decode cX10_summed 11 = .ok (.getfield 142, 3) := by decide +kernel
theorem dX10_summed_14 : decode cX10_summed 14 = .ok (.ifCond .eq 10, 3) := by decide +kernel
theorem dX10_summed_17 : decode cX10_summed 17 = .ok (.aload_n 0, 1) := by decide +kernel
theorem dX10_summed_18 : decode cX10_summed 18 = .ok (.invokevirtual 187, 3) := by decide +kernel
theorem dX10_summed_21 : decode cX10_summed 21 = .ok (.ifCond .eq 31, 3) := by decide +kernel
theorem dX10_summed_24 : decode cX10_summed 24 = .ok (.aload_n 0, 1) := by decide +kernel
theorem dX10_summed_25 : decode cX10_summed 25 = .ok (.getfield 142, 3) := by decide +kernel
theorem dX10_summed_28 : decode cX10_summed 28 = .ok (.ifCond .eq 10, 3) := by decide +kernel
theorem dX10_summed_31 : decode cX10_summed 31 = .ok (.aload_n 0, 1) := by decide +kernel
theorem dX10_summed_32 : decode cX10_summed 32 = .ok (.invokevirtual 190, 3) := by decide +kernel
theorem dX10_summed_35 : decode cX10_summed 35 = .ok (.goto 7, 3) := by decide +kernel
theorem dX10_summed_38 : decode cX10_summed 38 = .ok (.aload_n 0, 1) := by decide +kernel
theorem dX10_summed_39 : decode cX10_summed 39 = .ok (.invokevirtual 193, 3) := by decide +kernel
theorem dX10_summed_42 : decode cX10_summed 42 = .ok (.istore_n 1, 1) := by decide +kernel
theorem dX10_summed_43 : decode cX10_summed 43 = .ok (.iload_n 1, 1) := by decide +kernel
theorem dX10_summed_44 : decode cX10_summed 44 = .ok (.ifCond .eq 5, 3) := by decide +kernel
theorem dX10_summed_47 : decode cX10_summed 47 = .ok (.iload_n 1, 1) := by decide +kernel
theorem dX10_summed_48 : decode cX10_summed 48 = .ok (.ireturn, 1) := by decide +kernel
theorem dX10_summed_49 : decode cX10_summed 49 = .ok (.goto (-39), 3) := by decide +kernel
theorem dX10_summed_52 : decode cX10_summed 52 = .ok (.aload_n 0, 1) := by decide +kernel
theorem dX10_summed_53 : decode cX10_summed 53 = .ok (.iconst 3, 1) := by decide +kernel
theorem dX10_summed_54 : decode cX10_summed 54 = .ok (.invokevirtual 184, 3) := by decide +kernel
theorem dX10_summed_57 : decode cX10_summed 57 = .ok (.aload_n 0, 1) := by decide +kernel
theorem dX10_summed_58 : decode cX10_summed 58 = .ok (.getfield 139, 3) := by decide +kernel
theorem dX10_summed_61 : decode cX10_summed 61 = .ok (.ifCond .le 7, 3) := by decide +kernel
theorem dX10_summed_64 : decode cX10_summed 64 = .ok (.iconst 1, 1) := by decide +kernel
theorem dX10_summed_65 : decode cX10_summed 65 = .ok (.goto 4, 3) := by decide +kernel
theorem dX10_summed_68 : decode cX10_summed 68 = .ok (.iconst 0, 1) := by decide +kernel
theorem dX10_summed_69 : decode cX10_summed 69 = .ok (.ireturn, 1) := by decide +kernel
theorem dX10_compareOf_0 : decode cX10_compareOf 0 = .ok (.aload_n 0, 1) := by decide +kernel
theorem dX10_compareOf_1 : decode cX10_compareOf 1 = .ok (.getfield 107, 3) := by decide +kernel
theorem dX10_compareOf_4 : decode cX10_compareOf 4 = .ok (.bipush 60, 2) := by decide +kernel
theorem dX10_compareOf_6 : decode cX10_compareOf 6 = .ok (.if_icmp .ne 8, 3) := by decide +kernel
theorem dX10_compareOf_9 : decode cX10_compareOf 9 = .ok (.bipush 10, 2) := by decide +kernel
theorem dX10_compareOf_11 : decode cX10_compareOf 11 = .ok (.goto 72, 3) := by decide +kernel
theorem dX10_compareOf_14 : decode cX10_compareOf 14 = .ok (.aload_n 0, 1) := by decide +kernel
theorem dX10_compareOf_15 : decode cX10_compareOf 15 = .ok (.getfield 107, 3) := by decide +kernel
theorem dX10_compareOf_18 : decode cX10_compareOf 18 = .ok (.iconst 4, 1) := by decide +kernel
theorem dX10_compareOf_19 : decode cX10_compareOf 19 = .ok (.if_icmp .ne 8, 3) := by decide +kernel
theorem dX10_compareOf_22 : decode cX10_compareOf 22 = .ok (.bipush 11, 2) := by decide +kernel
theorem dX10_compareOf_24 : decode cX10_compareOf 24 = .ok (.goto 59, 3) := by decide +kernel
theorem dX10_compareOf_27 : decode cX10_compareOf 27 = .ok (.aload_n 0, 1) := by decide +kernel
theorem dX10_compareOf_28 : decode cX10_compareOf 28 = .ok (.getfield 107, 3) := by decide +kernel
theorem dX10_compareOf_31 : decode cX10_compareOf 31 = .ok (.bipush 62, 2) := by decide +kernel
theorem dX10_compareOf_33 : decode cX10_compareOf 33 = .ok (.if_icmp .ne 8, 3) := by decide +kernel
theorem dX10_compareOf_36 : decode cX10_compareOf 36 = .ok (.bipush 12, 2) := by decide +kernel
theorem dX10_compareOf_38 : decode cX10_compareOf 38 = .ok (.goto 45, 3) := by decide +kernel
theorem dX10_compareOf_41 : decode cX10_compareOf 41 = .ok (.aload_n 0, 1) := by decide +kernel
theorem dX10_compareOf_42 : decode cX10_compareOf 42 = .ok (.getfield 107, 3) := by decide +kernel
theorem dX10_compareOf_45 : decode cX10_compareOf 45 = .ok (.iconst 5, 1) := by decide +kernel
theorem dX10_compareOf_46 : decode cX10_compareOf 46 = .ok (.if_icmp .ne 8, 3) := by decide +kernel
theorem dX10_compareOf_49 : decode cX10_compareOf 49 = .ok (.bipush 13, 2) := by decide +kernel
theorem dX10_compareOf_51 : decode cX10_compareOf 51 = .ok (.goto 32, 3) := by decide +kernel
theorem dX10_compareOf_54 : decode cX10_compareOf 54 = .ok (.aload_n 0, 1) := by decide +kernel
theorem dX10_compareOf_55 : decode cX10_compareOf 55 = .ok (.getfield 107, 3) := by decide +kernel
theorem dX10_compareOf_58 : decode cX10_compareOf 58 = .ok (.bipush 61, 2) := by decide +kernel
theorem dX10_compareOf_60 : decode cX10_compareOf 60 = .ok (.if_icmp .ne 8, 3) := by decide +kernel
theorem dX10_compareOf_63 : decode cX10_compareOf 63 = .ok (.bipush 14, 2) := by decide +kernel
theorem dX10_compareOf_65 : decode cX10_compareOf 65 = .ok (.goto 18, 3) := by decide +kernel
theorem dX10_compareOf_68 : decode cX10_compareOf 68 = .ok (.aload_n 0, 1) := by decide +kernel
theorem dX10_compareOf_69 : decode cX10_compareOf 69 = .ok (.getfield 107, 3) := by decide +kernel
theorem dX10_compareOf_72 : decode cX10_compareOf 72 = .ok (.bipush 35, 2) := by decide +kernel
theorem dX10_compareOf_74 : decode cX10_compareOf 74 = .ok (.if_icmp .ne 8, 3) := by decide +kernel
theorem dX10_compareOf_77 : decode cX10_compareOf 77 = .ok (.bipush 15, 2) := by decide +kernel
theorem dX10_compareOf_79 : decode cX10_compareOf 79 = .ok (.goto 4, 3) := by decide +kernel
theorem dX10_compareOf_82 : decode cX10_compareOf 82 = .ok (.iconst (-1), 1) := by decide +kernel
theorem dX10_compareOf_83 : decode cX10_compareOf 83 = .ok (.ireturn, 1) := by decide +kernel
theorem dX10_asks_0 : decode cX10_asks 0 = .ok (.iconst 0, 1) := by decide +kernel
theorem dX10_asks_1 : decode cX10_asks 1 = .ok (.istore_n 1, 1) := by decide +kernel
theorem dX10_asks_2 : decode cX10_asks 2 = .ok (.aload_n 0, 1) := by decide +kernel
theorem dX10_asks_3 : decode cX10_asks 3 = .ok (.bipush 110, 2) := by decide +kernel
theorem dX10_asks_5 : decode cX10_asks 5 = .ok (.bipush 111, 2) := by decide +kernel
theorem dX10_asks_7 : decode cX10_asks 7 = .ok (.bipush 116, 2) := by decide +kernel
theorem dX10_asks_9 : decode cX10_asks 9 = .ok (.invokestatic 125, 3) := by decide +kernel
theorem dX10_asks_12 : decode cX10_asks 12 = .ok (.invokevirtual 196, 3) := by decide +kernel
theorem dX10_asks_15 : decode cX10_asks 15 = .ok (.ifCond .eq 34, 3) := by decide +kernel
theorem dX10_asks_18 : decode cX10_asks 18 = .ok (.aload_n 0, 1) := by decide +kernel
theorem dX10_asks_19 : decode cX10_asks 19 = .ok (.getfield 146, 3) := by decide +kernel
theorem dX10_asks_22 : decode cX10_asks 22 = .ok (.bipush 8, 2) := by decide +kernel
theorem dX10_asks_24 : decode cX10_asks 24 = .ok (.if_icmp .ne 5, 3) := by decide +kernel
theorem dX10_asks_27 : decode cX10_asks 27 = .ok (.iconst 3, 1) := by decide +kernel
theorem dX10_asks_28 : decode cX10_asks 28 = .ok (.ireturn, 1) := by decide +kernel
theorem dX10_asks_29 : decode cX10_asks 29 = .ok (.aload_n 0, 1) := by decide +kernel
theorem dX10_asks_30 : decode cX10_asks 30 = .ok (.dup, 1) := by decide +kernel
theorem dX10_asks_31 : decode cX10_asks 31 = .ok (.getfield 146, 3) := by decide +kernel
theorem dX10_asks_34 : decode cX10_asks 34 = .ok (.iconst 1, 1) := by decide +kernel
theorem dX10_asks_35 : decode cX10_asks 35 = .ok (.iadd, 1) := by decide +kernel
theorem dX10_asks_36 : decode cX10_asks 36 = .ok (.putfield 146, 3) := by decide +kernel
theorem dX10_asks_39 : decode cX10_asks 39 = .ok (.iinc 1 1, 3) := by decide +kernel
theorem dX10_asks_42 : decode cX10_asks 42 = .ok (.aload_n 0, 1) := by decide +kernel
theorem dX10_asks_43 : decode cX10_asks 43 = .ok (.invokevirtual 164, 3) := by decide +kernel
theorem dX10_asks_46 : decode cX10_asks 46 = .ok (.goto (-44), 3) := by decide +kernel
theorem dX10_asks_49 : decode cX10_asks 49 = .ok (.aload_n 0, 1) := by decide +kernel
theorem dX10_asks_50 : decode cX10_asks 50 = .ok (.invokevirtual 200, 3) := by decide +kernel
theorem dX10_asks_53 : decode cX10_asks 53 = .ok (.istore_n 2, 1) := by decide +kernel
theorem dX10_asks_54 : decode cX10_asks 54 = .ok (.iload_n 2, 1) := by decide +kernel
theorem dX10_asks_55 : decode cX10_asks 55 = .ok (.ifCond .eq 5, 3) := by decide +kernel
theorem dX10_asks_58 : decode cX10_asks 58 = .ok (.iload_n 2, 1) := by decide +kernel
theorem dX10_asks_59 : decode cX10_asks 59 = .ok (.ireturn, 1) := by decide +kernel
theorem dX10_asks_60 : decode cX10_asks 60 = .ok (.aload_n 0, 1) := by decide +kernel
theorem dX10_asks_61 : decode cX10_asks 61 = .ok (.invokevirtual 203, 3) := by decide +kernel
theorem dX10_asks_64 : decode cX10_asks 64 = .ok (.istore_n 3, 1) := by decide +kernel
theorem dX10_asks_65 : decode cX10_asks 65 = .ok (.iload_n 3, 1) := by decide +kernel
theorem dX10_asks_66 : decode cX10_asks 66 = .ok (.ifCond .ge 5, 3) := by decide +kernel
theorem dX10_asks_69 : decode cX10_asks 69 = .ok (.iconst 1, 1) := by decide +kernel
theorem dX10_asks_70 : decode cX10_asks 70 = .ok (.ireturn, 1) := by decide +kernel
theorem dX10_asks_71 : decode cX10_asks 71 = .ok (.aload_n 0, 1) := by decide +kernel
theorem dX10_asks_72 : decode cX10_asks 72 = .ok (.invokevirtual 164, 3) := by decide +kernel
theorem dX10_asks_75 : decode cX10_asks 75 = .ok (.aload_n 0, 1) := by decide +kernel
theorem dX10_asks_76 : decode cX10_asks 76 = .ok (.invokevirtual 200, 3) := by decide +kernel
theorem dX10_asks_79 : decode cX10_asks 79 = .ok (.istore_n 2, 1) := by decide +kernel
theorem dX10_asks_80 : decode cX10_asks 80 = .ok (.iload_n 2, 1) := by decide +kernel
theorem dX10_asks_81 : decode cX10_asks 81 = .ok (.ifCond .eq 5, 3) := by decide +kernel
theorem dX10_asks_84 : decode cX10_asks 84 = .ok (.iload_n 2, 1) := by decide +kernel
theorem dX10_asks_85 : decode cX10_asks 85 = .ok (.ireturn, 1) := by decide +kernel
theorem dX10_asks_86 : decode cX10_asks 86 = .ok (.aload_n 0, 1) := by decide +kernel
theorem dX10_asks_87 : decode cX10_asks 87 = .ok (.iload_n 3, 1) := by decide +kernel
theorem dX10_asks_88 : decode cX10_asks 88 = .ok (.iconst 0, 1) := by decide +kernel
theorem dX10_asks_89 : decode cX10_asks 89 = .ok (.invokevirtual 149, 3) := by decide +kernel
theorem dX10_asks_92 : decode cX10_asks 92 = .ok (.aload_n 0, 1) := by decide +kernel
theorem dX10_asks_93 : decode cX10_asks 93 = .ok (.dup, 1) := by decide +kernel
theorem dX10_asks_94 : decode cX10_asks 94 = .ok (.getfield 146, 3) := by decide +kernel
theorem dX10_asks_97 : decode cX10_asks 97 = .ok (.iload_n 1, 1) := by decide +kernel
theorem dX10_asks_98 : decode cX10_asks 98 = .ok (.isub, 1) := by decide +kernel
theorem dX10_asks_99 : decode cX10_asks 99 = .ok (.putfield 146, 3) := by decide +kernel
theorem dX10_asks_102 : decode cX10_asks 102 = .ok (.iconst 0, 1) := by decide +kernel
theorem dX10_asks_103 : decode cX10_asks 103 = .ok (.istore 4, 2) := by decide +kernel
theorem dX10_asks_105 : decode cX10_asks 105 = .ok (.iload 4, 2) := by decide +kernel
theorem dX10_asks_107 : decode cX10_asks 107 = .ok (.iload_n 1, 1) := by decide +kernel
theorem dX10_asks_108 : decode cX10_asks 108 = .ok (.if_icmp .ge 16, 3) := by decide +kernel
theorem dX10_asks_111 : decode cX10_asks 111 = .ok (.aload_n 0, 1) := by decide +kernel
theorem dX10_asks_112 : decode cX10_asks 112 = .ok (.bipush 20, 2) := by decide +kernel
theorem dX10_asks_114 : decode cX10_asks 114 = .ok (.iconst 0, 1) := by decide +kernel
theorem dX10_asks_115 : decode cX10_asks 115 = .ok (.invokevirtual 149, 3) := by decide +kernel
theorem dX10_asks_118 : decode cX10_asks 118 = .ok (.iinc 4 1, 3) := by decide +kernel
theorem dX10_asks_121 : decode cX10_asks 121 = .ok (.goto (-16), 3) := by decide +kernel
theorem dX10_asks_124 : decode cX10_asks 124 = .ok (.iconst 0, 1) := by decide +kernel
theorem dX10_asks_125 : decode cX10_asks 125 = .ok (.ireturn, 1) := by decide +kernel
theorem dX10_either_0 : decode cX10_either 0 = .ok (.iconst 0, 1) := by decide +kernel
theorem dX10_either_1 : decode cX10_either 1 = .ok (.istore_n 1, 1) := by decide +kernel
theorem dX10_either_2 : decode cX10_either 2 = .ok (.iconst 0, 1) := by decide +kernel
theorem dX10_either_3 : decode cX10_either 3 = .ok (.istore_n 2, 1) := by decide +kernel
theorem dX10_either_4 : decode cX10_either 4 = .ok (.iconst 1, 1) := by decide +kernel
theorem dX10_either_5 : decode cX10_either 5 = .ok (.istore_n 3, 1) := by decide +kernel
theorem dX10_either_6 : decode cX10_either 6 = .ok (.iload_n 3, 1) := by decide +kernel
theorem dX10_either_7 : decode cX10_either 7 = .ok (.ifCond .eq 112, 3) := by decide +kernel
theorem dX10_either_10 : decode cX10_either 10 = .ok (.aload_n 0, 1) := by decide +kernel
theorem dX10_either_11 : decode cX10_either 11 = .ok (.invokevirtual 206, 3) := by decide +kernel
theorem dX10_either_14 : decode cX10_either 14 = .ok (.istore 4, 2) := by decide +kernel
theorem dX10_either_16 : decode cX10_either 16 = .ok (.iload 4, 2) := by decide +kernel
theorem dX10_either_18 : decode cX10_either 18 = .ok (.ifCond .eq 6, 3) := by decide +kernel
theorem dX10_either_21 : decode cX10_either 21 = .ok (.iload 4, 2) := by decide +kernel
theorem dX10_either_23 : decode cX10_either 23 = .ok (.ireturn, 1) := by decide +kernel
theorem dX10_either_24 : decode cX10_either 24 = .ok (.iload_n 1, 1) := by decide +kernel
theorem dX10_either_25 : decode cX10_either 25 = .ok (.ifCond .eq 10, 3) := by decide +kernel
theorem dX10_either_28 : decode cX10_either 28 = .ok (.aload_n 0, 1) := by decide +kernel
theorem dX10_either_29 : decode cX10_either 29 = .ok (.bipush 21, 2) := by decide +kernel
theorem dX10_either_31 : decode cX10_either 31 = .ok (.iconst 0, 1) := by decide +kernel
theorem dX10_either_32 : decode cX10_either 32 = .ok (.invokevirtual 149, 3) := by decide +kernel
theorem dX10_either_35 : decode cX10_either 35 = .ok (.aload_n 0, 1) := by decide +kernel
theorem dX10_either_36 : decode cX10_either 36 = .ok (.bipush 97, 2) := by decide +kernel
theorem dX10_either_38 : decode cX10_either 38 = .ok (.bipush 110, 2) := by decide +kernel
theorem dX10_either_40 : decode cX10_either 40 = .ok (.bipush 100, 2) := by decide +kernel
theorem dX10_either_42 : decode cX10_either 42 = .ok (.invokestatic 125, 3) := by decide +kernel
theorem dX10_either_45 : decode cX10_either 45 = .ok (.invokevirtual 196, 3) := by decide +kernel
theorem dX10_either_48 : decode cX10_either 48 = .ok (.istore_n 1, 1) := by decide +kernel
theorem dX10_either_49 : decode cX10_either 49 = .ok (.aload_n 0, 1) := by decide +kernel
theorem dX10_either_50 : decode cX10_either 50 = .ok (.getfield 107, 3) := by decide +kernel
theorem dX10_either_53 : decode cX10_either 53 = .ok (.iconst 2, 1) := by decide +kernel
theorem dX10_either_54 : decode cX10_either 54 = .ok (.if_icmp .ne 18, 3) := by decide +kernel
theorem dX10_either_57 : decode cX10_either 57 = .ok (.aload_n 0, 1) := by decide +kernel
theorem dX10_either_58 : decode cX10_either 58 = .ok (.getfield 121, 3) := by decide +kernel
theorem dX10_either_61 : decode cX10_either 61 = .ok (.ldc2_w 209, 3) := by decide +kernel
theorem dX10_either_64 : decode cX10_either 64 = .ok (.lcmp, 1) := by decide +kernel
theorem dX10_either_65 : decode cX10_either 65 = .ok (.ifCond .ne 7, 3) := by decide +kernel
theorem dX10_either_68 : decode cX10_either 68 = .ok (.iconst 1, 1) := by decide +kernel
theorem dX10_either_69 : decode cX10_either 69 = .ok (.goto 4, 3) := by decide +kernel
theorem dX10_either_72 : decode cX10_either 72 = .ok (.iconst 0, 1) := by decide +kernel
theorem dX10_either_73 : decode cX10_either 73 = .ok (.istore 5, 2) := by decide +kernel
theorem dX10_either_75 : decode cX10_either 75 = .ok (.iload_n 1, 1) := by decide +kernel
theorem dX10_either_76 : decode cX10_either 76 = .ok (.ifCond .ne 17, 3) := by decide +kernel
theorem dX10_either_79 : decode cX10_either 79 = .ok (.iload_n 2, 1) := by decide +kernel
theorem dX10_either_80 : decode cX10_either 80 = .ok (.ifCond .eq 10, 3) := by decide +kernel
theorem dX10_either_83 : decode cX10_either 83 = .ok (.aload_n 0, 1) := by decide +kernel
theorem dX10_either_84 : decode cX10_either 84 = .ok (.bipush 22, 2) := by decide +kernel
theorem dX10_either_86 : decode cX10_either 86 = .ok (.iconst 0, 1) := by decide +kernel
theorem dX10_either_87 : decode cX10_either 87 = .ok (.invokevirtual 149, 3) := by decide +kernel
theorem dX10_either_90 : decode cX10_either 90 = .ok (.iload 5, 2) := by decide +kernel
theorem dX10_either_92 : decode cX10_either 92 = .ok (.istore_n 2, 1) := by decide +kernel
theorem dX10_either_93 : decode cX10_either 93 = .ok (.iload_n 1, 1) := by decide +kernel
theorem dX10_either_94 : decode cX10_either 94 = .ok (.ifCond .ne 8, 3) := by decide +kernel
theorem dX10_either_97 : decode cX10_either 97 = .ok (.iload 5, 2) := by decide +kernel
theorem dX10_either_99 : decode cX10_either 99 = .ok (.ifCond .eq 7, 3) := by decide +kernel
theorem dX10_either_102 : decode cX10_either 102 = .ok (.iconst 1, 1) := by decide +kernel
theorem dX10_either_103 : decode cX10_either 103 = .ok (.goto 4, 3) := by decide +kernel
theorem dX10_either_106 : decode cX10_either 106 = .ok (.iconst 0, 1) := by decide +kernel
theorem dX10_either_107 : decode cX10_either 107 = .ok (.istore_n 3, 1) := by decide +kernel
theorem dX10_either_108 : decode cX10_either 108 = .ok (.iload_n 3, 1) := by decide +kernel
theorem dX10_either_109 : decode cX10_either 109 = .ok (.ifCond .eq 7, 3) := by decide +kernel
theorem dX10_either_112 : decode cX10_either 112 = .ok (.aload_n 0, 1) := by decide +kernel
theorem dX10_either_113 : decode cX10_either 113 = .ok (.invokevirtual 164, 3) := by decide +kernel
theorem dX10_either_116 : decode cX10_either 116 = .ok (.goto (-110), 3) := by decide +kernel
theorem dX10_either_119 : decode cX10_either 119 = .ok (.iconst 0, 1) := by decide +kernel
theorem dX10_either_120 : decode cX10_either 120 = .ok (.ireturn, 1) := by decide +kernel
theorem dX10_sortOf_0 : decode cX10_sortOf 0 = .ok (.aload_n 0, 1) := by decide +kernel
theorem dX10_sortOf_1 : decode cX10_sortOf 1 = .ok (.bipush 98, 2) := by decide +kernel
theorem dX10_sortOf_3 : decode cX10_sortOf 3 = .ok (.bipush 101, 2) := by decide +kernel
theorem dX10_sortOf_5 : decode cX10_sortOf 5 = .ok (.bipush 97, 2) := by decide +kernel
theorem dX10_sortOf_7 : decode cX10_sortOf 7 = .ok (.bipush 114, 2) := by decide +kernel
theorem dX10_sortOf_9 : decode cX10_sortOf 9 = .ok (.bipush 115, 2) := by decide +kernel
theorem dX10_sortOf_11 : decode cX10_sortOf 11 = .ok (.invokestatic 129, 3) := by decide +kernel
theorem dX10_sortOf_14 : decode cX10_sortOf 14 = .ok (.invokevirtual 196, 3) := by decide +kernel
theorem dX10_sortOf_17 : decode cX10_sortOf 17 = .ok (.ifCond .eq 5, 3) := by decide +kernel
theorem dX10_sortOf_20 : decode cX10_sortOf 20 = .ok (.iconst 0, 1) := by decide +kernel
theorem dX10_sortOf_21 : decode cX10_sortOf 21 = .ok (.ireturn, 1) := by decide +kernel
theorem dX10_sortOf_22 : decode cX10_sortOf 22 = .ok (.aload_n 0, 1) := by decide +kernel
theorem dX10_sortOf_23 : decode cX10_sortOf 23 = .ok (.bipush 115, 2) := by decide +kernel
theorem dX10_sortOf_25 : decode cX10_sortOf 25 = .ok (.bipush 97, 2) := by decide +kernel
theorem dX10_sortOf_27 : decode cX10_sortOf 27 = .ok (.bipush 102, 2) := by decide +kernel
theorem dX10_sortOf_29 : decode cX10_sortOf 29 = .ok (.bipush 101, 2) := by decide +kernel
theorem dX10_sortOf_31 : decode cX10_sortOf 31 = .ok (.invokestatic 153, 3) := by decide +kernel
theorem dX10_sortOf_34 : decode cX10_sortOf 34 = .ok (.invokevirtual 196, 3) := by decide +kernel
theorem dX10_sortOf_37 : decode cX10_sortOf 37 = .ok (.ifCond .eq 5, 3) := by decide +kernel
theorem dX10_sortOf_40 : decode cX10_sortOf 40 = .ok (.iconst 1, 1) := by decide +kernel
theorem dX10_sortOf_41 : decode cX10_sortOf 41 = .ok (.ireturn, 1) := by decide +kernel
theorem dX10_sortOf_42 : decode cX10_sortOf 42 = .ok (.aload_n 0, 1) := by decide +kernel
theorem dX10_sortOf_43 : decode cX10_sortOf 43 = .ok (.bipush 112, 2) := by decide +kernel
theorem dX10_sortOf_45 : decode cX10_sortOf 45 = .ok (.bipush 117, 2) := by decide +kernel
theorem dX10_sortOf_47 : decode cX10_sortOf 47 = .ok (.bipush 116, 2) := by decide +kernel
theorem dX10_sortOf_49 : decode cX10_sortOf 49 = .ok (.invokestatic 125, 3) := by decide +kernel
theorem dX10_sortOf_52 : decode cX10_sortOf 52 = .ok (.invokevirtual 196, 3) := by decide +kernel
theorem dX10_sortOf_55 : decode cX10_sortOf 55 = .ok (.ifCond .eq 5, 3) := by decide +kernel
theorem dX10_sortOf_58 : decode cX10_sortOf 58 = .ok (.iconst 2, 1) := by decide +kernel
theorem dX10_sortOf_59 : decode cX10_sortOf 59 = .ok (.ireturn, 1) := by decide +kernel
theorem dX10_sortOf_60 : decode cX10_sortOf 60 = .ok (.aload_n 0, 1) := by decide +kernel
theorem dX10_sortOf_61 : decode cX10_sortOf 61 = .ok (.bipush 116, 2) := by decide +kernel
theorem dX10_sortOf_63 : decode cX10_sortOf 63 = .ok (.bipush 97, 2) := by decide +kernel
theorem dX10_sortOf_65 : decode cX10_sortOf 65 = .ok (.bipush 107, 2) := by decide +kernel
theorem dX10_sortOf_67 : decode cX10_sortOf 67 = .ok (.bipush 101, 2) := by decide +kernel
theorem dX10_sortOf_69 : decode cX10_sortOf 69 = .ok (.invokestatic 153, 3) := by decide +kernel
theorem dX10_sortOf_72 : decode cX10_sortOf 72 = .ok (.invokevirtual 196, 3) := by decide +kernel
theorem dX10_sortOf_75 : decode cX10_sortOf 75 = .ok (.ifCond .eq 7, 3) := by decide +kernel
theorem dX10_sortOf_78 : decode cX10_sortOf 78 = .ok (.iconst 3, 1) := by decide +kernel
theorem dX10_sortOf_79 : decode cX10_sortOf 79 = .ok (.goto 26, 3) := by decide +kernel
theorem dX10_sortOf_82 : decode cX10_sortOf 82 = .ok (.aload_n 0, 1) := by decide +kernel
theorem dX10_sortOf_83 : decode cX10_sortOf 83 = .ok (.bipush 119, 2) := by decide +kernel
theorem dX10_sortOf_85 : decode cX10_sortOf 85 = .ok (.bipush 97, 2) := by decide +kernel
theorem dX10_sortOf_87 : decode cX10_sortOf 87 = .ok (.bipush 105, 2) := by decide +kernel
theorem dX10_sortOf_89 : decode cX10_sortOf 89 = .ok (.bipush 116, 2) := by decide +kernel
theorem dX10_sortOf_91 : decode cX10_sortOf 91 = .ok (.invokestatic 153, 3) := by decide +kernel
theorem dX10_sortOf_94 : decode cX10_sortOf 94 = .ok (.invokevirtual 196, 3) := by decide +kernel
theorem dX10_sortOf_97 : decode cX10_sortOf 97 = .ok (.ifCond .eq 7, 3) := by decide +kernel
theorem dX10_sortOf_100 : decode cX10_sortOf 100 = .ok (.iconst 4, 1) := by decide +kernel
theorem dX10_sortOf_101 : decode cX10_sortOf 101 = .ok (.goto 4, 3) := by decide +kernel
theorem dX10_sortOf_104 : decode cX10_sortOf 104 = .ok (.iconst (-1), 1) := by decide +kernel
theorem dX10_sortOf_105 : decode cX10_sortOf 105 = .ok (.ireturn, 1) := by decide +kernel
theorem dX10_figure_0 : decode cX10_figure 0 = .ok (.aload_n 0, 1) := by decide +kernel
theorem dX10_figure_1 : decode cX10_figure 1 = .ok (.getfield 107, 3) := by decide +kernel
theorem dX10_figure_4 : decode cX10_figure 4 = .ok (.iconst 1, 1) := by decide +kernel
theorem dX10_figure_5 : decode cX10_figure 5 = .ok (.if_icmp .eq 5, 3) := by decide +kernel
theorem dX10_figure_8 : decode cX10_figure 8 = .ok (.iconst 1, 1) := by decide +kernel
theorem dX10_figure_9 : decode cX10_figure 9 = .ok (.ireturn, 1) := by decide +kernel
theorem dX10_figure_10 : decode cX10_figure 10 = .ok (.aload_n 0, 1) := by decide +kernel
theorem dX10_figure_11 : decode cX10_figure 11 = .ok (.getfield 114, 3) := by decide +kernel
theorem dX10_figure_14 : decode cX10_figure 14 = .ok (.iload_n 2, 1) := by decide +kernel
theorem dX10_figure_15 : decode cX10_figure 15 = .ok (.if_icmp .le 5, 3) := by decide +kernel
theorem dX10_figure_18 : decode cX10_figure 18 = .ok (.iconst 2, 1) := by decide +kernel
theorem dX10_figure_19 : decode cX10_figure 19 = .ok (.ireturn, 1) := by decide +kernel
theorem dX10_figure_20 : decode cX10_figure 20 = .ok (.aload_n 0, 1) := by decide +kernel
theorem dX10_figure_21 : decode cX10_figure 21 = .ok (.getfield 16, 3) := by decide +kernel
theorem dX10_figure_24 : decode cX10_figure 24 = .ok (.iload_n 1, 1) := by decide +kernel
theorem dX10_figure_25 : decode cX10_figure 25 = .ok (.aload_n 0, 1) := by decide +kernel
theorem dX10_figure_26 : decode cX10_figure 26 = .ok (.getfield 114, 3) := by decide +kernel
theorem dX10_figure_29 : decode cX10_figure 29 = .ok (.iastore, 1) := by decide +kernel
theorem dX10_figure_30 : decode cX10_figure 30 = .ok (.aload_n 0, 1) := by decide +kernel
theorem dX10_figure_31 : decode cX10_figure 31 = .ok (.invokevirtual 164, 3) := by decide +kernel
theorem dX10_figure_34 : decode cX10_figure 34 = .ok (.iconst 0, 1) := by decide +kernel
theorem dX10_figure_35 : decode cX10_figure 35 = .ok (.ireturn, 1) := by decide +kernel
theorem dX10_laid_0 : decode cX10_laid 0 = .ok (.aload_n 0, 1) := by decide +kernel
theorem dX10_laid_1 : decode cX10_laid 1 = .ok (.iload_n 1, 1) := by decide +kernel
theorem dX10_laid_2 : decode cX10_laid 2 = .ok (.iconst 1, 1) := by decide +kernel
theorem dX10_laid_3 : decode cX10_laid 3 = .ok (.iadd, 1) := by decide +kernel
theorem dX10_laid_4 : decode cX10_laid 4 = .ok (.bipush 11, 2) := by decide +kernel
theorem dX10_laid_6 : decode cX10_laid 6 = .ok (.invokevirtual 211, 3) := by decide +kernel
theorem dX10_laid_9 : decode cX10_laid 9 = .ok (.istore_n 2, 1) := by decide +kernel
theorem dX10_laid_10 : decode cX10_laid 10 = .ok (.iload_n 2, 1) := by decide +kernel
theorem dX10_laid_11 : decode cX10_laid 11 = .ok (.ifCond .eq 5, 3) := by decide +kernel
theorem dX10_laid_14 : decode cX10_laid 14 = .ok (.iload_n 2, 1) := by decide +kernel
theorem dX10_laid_15 : decode cX10_laid 15 = .ok (.ireturn, 1) := by decide +kernel
theorem dX10_laid_16 : decode cX10_laid 16 = .ok (.aload_n 0, 1) := by decide +kernel
theorem dX10_laid_17 : decode cX10_laid 17 = .ok (.getfield 107, 3) := by decide +kernel
theorem dX10_laid_20 : decode cX10_laid 20 = .ok (.iconst 2, 1) := by decide +kernel
theorem dX10_laid_21 : decode cX10_laid 21 = .ok (.if_icmp .ne 14, 3) := by decide +kernel
theorem dX10_laid_24 : decode cX10_laid 24 = .ok (.aload_n 0, 1) := by decide +kernel
theorem dX10_laid_25 : decode cX10_laid 25 = .ok (.getfield 121, 3) := by decide +kernel
theorem dX10_laid_28 : decode cX10_laid 28 = .ok (.ldc2_w 215, 3) := by decide +kernel
theorem dX10_laid_31 : decode cX10_laid 31 = .ok (.lcmp, 1) := by decide +kernel
theorem dX10_laid_32 : decode cX10_laid 32 = .ok (.ifCond .eq 5, 3) := by decide +kernel
theorem dX10_laid_35 : decode cX10_laid 35 = .ok (.iconst 1, 1) := by decide +kernel
theorem dX10_laid_36 : decode cX10_laid 36 = .ok (.ireturn, 1) := by decide +kernel
theorem dX10_laid_37 : decode cX10_laid 37 = .ok (.aload_n 0, 1) := by decide +kernel
theorem dX10_laid_38 : decode cX10_laid 38 = .ok (.invokevirtual 164, 3) := by decide +kernel
theorem dX10_laid_41 : decode cX10_laid 41 = .ok (.aload_n 0, 1) := by decide +kernel
theorem dX10_laid_42 : decode cX10_laid 42 = .ok (.iload_n 1, 1) := by decide +kernel
theorem dX10_laid_43 : decode cX10_laid 43 = .ok (.iconst 2, 1) := by decide +kernel
theorem dX10_laid_44 : decode cX10_laid 44 = .ok (.iadd, 1) := by decide +kernel
theorem dX10_laid_45 : decode cX10_laid 45 = .ok (.iconst 1, 1) := by decide +kernel
theorem dX10_laid_46 : decode cX10_laid 46 = .ok (.invokevirtual 211, 3) := by decide +kernel
theorem dX10_laid_49 : decode cX10_laid 49 = .ok (.ireturn, 1) := by decide +kernel
theorem dX10_clause_0 : decode cX10_clause 0 = .ok (.aload_n 0, 1) := by decide +kernel
theorem dX10_clause_1 : decode cX10_clause 1 = .ok (.invokevirtual 217, 3) := by decide +kernel
theorem dX10_clause_4 : decode cX10_clause 4 = .ok (.istore_n 1, 1) := by decide +kernel
theorem dX10_clause_5 : decode cX10_clause 5 = .ok (.iload_n 1, 1) := by decide +kernel
theorem dX10_clause_6 : decode cX10_clause 6 = .ok (.ifCond .ge 5, 3) := by decide +kernel
theorem dX10_clause_9 : decode cX10_clause 9 = .ok (.iconst 1, 1) := by decide +kernel
theorem dX10_clause_10 : decode cX10_clause 10 = .ok (.ireturn, 1) := by decide +kernel
theorem dX10_clause_11 : decode cX10_clause 11 = .ok (.iload_n 1, 1) := by decide +kernel
theorem dX10_clause_12 : decode cX10_clause 12 = .ok (.iconst 2, 1) := by decide +kernel
theorem dX10_clause_13 : decode cX10_clause 13 = .ok (.if_icmp .ge 17, 3) := by decide +kernel
theorem dX10_clause_16 : decode cX10_clause 16 = .ok (.aload_n 0, 1) := by decide +kernel
theorem dX10_clause_17 : decode cX10_clause 17 = .ok (.getfield 220, 3) := by decide +kernel
theorem dX10_clause_20 : decode cX10_clause 20 = .ok (.iload_n 1, 1) := by decide +kernel
theorem dX10_clause_21 : decode cX10_clause 21 = .ok (.ishr, 1) := by decide +kernel
theorem dX10_clause_22 : decode cX10_clause 22 = .ok (.iconst 1, 1) := by decide +kernel
theorem dX10_clause_23 : decode cX10_clause 23 = .ok (.iand, 1) := by decide +kernel
theorem dX10_clause_24 : decode cX10_clause 24 = .ok (.iconst 1, 1) := by decide +kernel
theorem dX10_clause_25 : decode cX10_clause 25 = .ok (.if_icmp .ne 5, 3) := by decide +kernel
theorem dX10_clause_28 : decode cX10_clause 28 = .ok (.iconst 4, 1) := by decide +kernel
theorem dX10_clause_29 : decode cX10_clause 29 = .ok (.ireturn, 1) := by decide +kernel
theorem dX10_clause_30 : decode cX10_clause 30 = .ok (.aload_n 0, 1) := by decide +kernel
theorem dX10_clause_31 : decode cX10_clause 31 = .ok (.getfield 16, 3) := by decide +kernel
theorem dX10_clause_34 : decode cX10_clause 34 = .ok (.aload_n 0, 1) := by decide +kernel
theorem dX10_clause_35 : decode cX10_clause 35 = .ok (.getfield 133, 3) := by decide +kernel
theorem dX10_clause_38 : decode cX10_clause 38 = .ok (.iaload, 1) := by decide +kernel
theorem dX10_clause_39 : decode cX10_clause 39 = .ok (.istore_n 2, 1) := by decide +kernel
theorem dX10_clause_40 : decode cX10_clause 40 = .ok (.iload_n 2, 1) := by decide +kernel
theorem dX10_clause_41 : decode cX10_clause 41 = .ok (.bipush 24, 2) := by decide +kernel
theorem dX10_clause_43 : decode cX10_clause 43 = .ok (.if_icmp .ne 6, 3) := by decide +kernel
theorem dX10_clause_46 : decode cX10_clause 46 = .ok (.bipush 6, 2) := by decide +kernel
theorem dX10_clause_48 : decode cX10_clause 48 = .ok (.ireturn, 1) := by decide +kernel
theorem dX10_clause_49 : decode cX10_clause 49 = .ok (.iload_n 1, 1) := by decide +kernel
theorem dX10_clause_50 : decode cX10_clause 50 = .ok (.iconst 2, 1) := by decide +kernel
theorem dX10_clause_51 : decode cX10_clause 51 = .ok (.if_icmp .ge 15, 3) := by decide +kernel
theorem dX10_clause_54 : decode cX10_clause 54 = .ok (.aload_n 0, 1) := by decide +kernel
theorem dX10_clause_55 : decode cX10_clause 55 = .ok (.dup, 1) := by decide +kernel
theorem dX10_clause_56 : decode cX10_clause 56 = .ok (.getfield 220, 3) := by decide +kernel
theorem dX10_clause_59 : decode cX10_clause 59 = .ok (.iconst 1, 1) := by decide +kernel
theorem dX10_clause_60 : decode cX10_clause 60 = .ok (.iload_n 1, 1) := by decide +kernel
theorem dX10_clause_61 : decode cX10_clause 61 = .ok (.ishl, 1) := by decide +kernel
theorem dX10_clause_62 : decode cX10_clause 62 = .ok (.ior, 1) := by decide +kernel
theorem dX10_clause_63 : decode cX10_clause 63 = .ok (.putfield 220, 3) := by decide +kernel
theorem dX10_clause_66 : decode cX10_clause 66 = .ok (.aload_n 0, 1) := by decide +kernel
theorem dX10_clause_67 : decode cX10_clause 67 = .ok (.iload_n 1, 1) := by decide +kernel
theorem dX10_clause_68 : decode cX10_clause 68 = .ok (.putfield 161, 3) := by decide +kernel
theorem dX10_clause_71 : decode cX10_clause 71 = .ok (.aload_n 0, 1) := by decide +kernel
theorem dX10_clause_72 : decode cX10_clause 72 = .ok (.invokevirtual 164, 3) := by decide +kernel
theorem dX10_clause_75 : decode cX10_clause 75 = .ok (.aload_n 0, 1) := by decide +kernel
theorem dX10_clause_76 : decode cX10_clause 76 = .ok (.getfield 133, 3) := by decide +kernel
theorem dX10_clause_79 : decode cX10_clause 79 = .ok (.iconst 1, 1) := by decide +kernel
theorem dX10_clause_80 : decode cX10_clause 80 = .ok (.iadd, 1) := by decide +kernel
theorem dX10_clause_81 : decode cX10_clause 81 = .ok (.iconst 3, 1) := by decide +kernel
theorem dX10_clause_82 : decode cX10_clause 82 = .ok (.iload_n 2, 1) := by decide +kernel
theorem dX10_clause_83 : decode cX10_clause 83 = .ok (.imul, 1) := by decide +kernel
theorem dX10_clause_84 : decode cX10_clause 84 = .ok (.iadd, 1) := by decide +kernel
theorem dX10_clause_85 : decode cX10_clause 85 = .ok (.istore_n 3, 1) := by decide +kernel
theorem dX10_clause_86 : decode cX10_clause 86 = .ok (.aload_n 0, 1) := by decide +kernel
theorem dX10_clause_87 : decode cX10_clause 87 = .ok (.getfield 16, 3) := by decide +kernel
theorem dX10_clause_90 : decode cX10_clause 90 = .ok (.iload_n 3, 1) := by decide +kernel
theorem dX10_clause_91 : decode cX10_clause 91 = .ok (.iload_n 1, 1) := by decide +kernel
theorem dX10_clause_92 : decode cX10_clause 92 = .ok (.iastore, 1) := by decide +kernel
theorem dX10_clause_93 : decode cX10_clause 93 = .ok (.aload_n 0, 1) := by decide +kernel
theorem dX10_clause_94 : decode cX10_clause 94 = .ok (.getfield 136, 3) := by decide +kernel
theorem dX10_clause_97 : decode cX10_clause 97 = .ok (.istore 4, 2) := by decide +kernel
theorem dX10_clause_99 : decode cX10_clause 99 = .ok (.iload_n 1, 1) := by decide +kernel
theorem dX10_clause_100 : decode cX10_clause 100 = .ok (.iconst 2, 1) := by decide +kernel
theorem dX10_clause_101 : decode cX10_clause 101 = .ok (.if_icmp .ne 11, 3) := by decide +kernel
theorem dX10_clause_104 : decode cX10_clause 104 = .ok (.aload_n 0, 1) := by decide +kernel
theorem dX10_clause_105 : decode cX10_clause 105 = .ok (.iload_n 3, 1) := by decide +kernel
theorem dX10_clause_106 : decode cX10_clause 106 = .ok (.invokevirtual 223, 3) := by decide +kernel
theorem dX10_clause_109 : decode cX10_clause 109 = .ok (.goto 45, 3) := by decide +kernel
theorem dX10_clause_112 : decode cX10_clause 112 = .ok (.iload_n 1, 1) := by decide +kernel
theorem dX10_clause_113 : decode cX10_clause 113 = .ok (.iconst 2, 1) := by decide +kernel
theorem dX10_clause_114 : decode cX10_clause 114 = .ok (.if_icmp .le 25, 3) := by decide +kernel
theorem dX10_clause_117 : decode cX10_clause 117 = .ok (.aload_n 0, 1) := by decide +kernel
theorem dX10_clause_118 : decode cX10_clause 118 = .ok (.iload_n 3, 1) := by decide +kernel
theorem dX10_clause_119 : decode cX10_clause 119 = .ok (.iconst 1, 1) := by decide +kernel
theorem dX10_clause_120 : decode cX10_clause 120 = .ok (.iadd, 1) := by decide +kernel
theorem dX10_clause_121 : decode cX10_clause 121 = .ok (.iload_n 1, 1) := by decide +kernel
theorem dX10_clause_122 : decode cX10_clause 122 = .ok (.iconst 3, 1) := by decide +kernel
theorem dX10_clause_123 : decode cX10_clause 123 = .ok (.if_icmp .ne 8, 3) := by decide +kernel
theorem dX10_clause_126 : decode cX10_clause 126 = .ok (.bipush 11, 2) := by decide +kernel
theorem dX10_clause_128 : decode cX10_clause 128 = .ok (.goto 5, 3) := by decide +kernel
theorem dX10_clause_131 : decode cX10_clause 131 = .ok (.bipush 99, 2) := by decide +kernel
theorem dX10_clause_133 : decode cX10_clause 133 = .ok (.invokevirtual 211, 3) := by decide +kernel
theorem dX10_clause_136 : decode cX10_clause 136 = .ok (.goto 18, 3) := by decide +kernel
theorem dX10_clause_139 : decode cX10_clause 139 = .ok (.iload_n 1, 1) := by decide +kernel
theorem dX10_clause_140 : decode cX10_clause 140 = .ok (.ifCond .ne 10, 3) := by decide +kernel
theorem dX10_clause_143 : decode cX10_clause 143 = .ok (.aload_n 0, 1) := by decide +kernel
theorem dX10_clause_144 : decode cX10_clause 144 = .ok (.invokevirtual 200, 3) := by decide +kernel
theorem dX10_clause_147 : decode cX10_clause 147 = .ok (.goto 7, 3) := by decide +kernel
theorem dX10_clause_150 : decode cX10_clause 150 = .ok (.aload_n 0, 1) := by decide +kernel
theorem dX10_clause_151 : decode cX10_clause 151 = .ok (.invokevirtual 226, 3) := by decide +kernel
theorem dX10_clause_154 : decode cX10_clause 154 = .ok (.istore 5, 2) := by decide +kernel
theorem dX10_clause_156 : decode cX10_clause 156 = .ok (.iload 5, 2) := by decide +kernel
theorem dX10_clause_158 : decode cX10_clause 158 = .ok (.ifCond .eq 6, 3) := by decide +kernel
theorem dX10_clause_161 : decode cX10_clause 161 = .ok (.iload 5, 2) := by decide +kernel
theorem dX10_clause_163 : decode cX10_clause 163 = .ok (.ireturn, 1) := by decide +kernel
theorem dX10_clause_164 : decode cX10_clause 164 = .ok (.iload_n 1, 1) := by decide +kernel
theorem dX10_clause_165 : decode cX10_clause 165 = .ok (.iconst 2, 1) := by decide +kernel
theorem dX10_clause_166 : decode cX10_clause 166 = .ok (.if_icmp .ge 25, 3) := by decide +kernel
theorem dX10_clause_169 : decode cX10_clause 169 = .ok (.aload_n 0, 1) := by decide +kernel
theorem dX10_clause_170 : decode cX10_clause 170 = .ok (.getfield 16, 3) := by decide +kernel
theorem dX10_clause_173 : decode cX10_clause 173 = .ok (.iload_n 3, 1) := by decide +kernel
theorem dX10_clause_174 : decode cX10_clause 174 = .ok (.iconst 1, 1) := by decide +kernel
theorem dX10_clause_175 : decode cX10_clause 175 = .ok (.iadd, 1) := by decide +kernel
theorem dX10_clause_176 : decode cX10_clause 176 = .ok (.iload 4, 2) := by decide +kernel
theorem dX10_clause_178 : decode cX10_clause 178 = .ok (.iastore, 1) := by decide +kernel
theorem dX10_clause_179 : decode cX10_clause 179 = .ok (.aload_n 0, 1) := by decide +kernel
theorem dX10_clause_180 : decode cX10_clause 180 = .ok (.getfield 16, 3) := by decide +kernel
theorem dX10_clause_183 : decode cX10_clause 183 = .ok (.iload_n 3, 1) := by decide +kernel
theorem dX10_clause_184 : decode cX10_clause 184 = .ok (.iconst 2, 1) := by decide +kernel
theorem dX10_clause_185 : decode cX10_clause 185 = .ok (.iadd, 1) := by decide +kernel
theorem dX10_clause_186 : decode cX10_clause 186 = .ok (.aload_n 0, 1) := by decide +kernel
theorem dX10_clause_187 : decode cX10_clause 187 = .ok (.getfield 136, 3) := by decide +kernel
theorem dX10_clause_190 : decode cX10_clause 190 = .ok (.iastore, 1) := by decide +kernel
theorem dX10_clause_191 : decode cX10_clause 191 = .ok (.aload_n 0, 1) := by decide +kernel
theorem dX10_clause_192 : decode cX10_clause 192 = .ok (.getfield 16, 3) := by decide +kernel
theorem dX10_clause_195 : decode cX10_clause 195 = .ok (.aload_n 0, 1) := by decide +kernel
theorem dX10_clause_196 : decode cX10_clause 196 = .ok (.getfield 133, 3) := by decide +kernel
theorem dX10_clause_199 : decode cX10_clause 199 = .ok (.dup2, 1) := by decide +kernel
theorem dX10_clause_200 : decode cX10_clause 200 = .ok (.iaload, 1) := by decide +kernel
theorem dX10_clause_201 : decode cX10_clause 201 = .ok (.iconst 1, 1) := by decide +kernel
theorem dX10_clause_202 : decode cX10_clause 202 = .ok (.iadd, 1) := by decide +kernel
theorem dX10_clause_203 : decode cX10_clause 203 = .ok (.iastore, 1) := by decide +kernel
theorem dX10_clause_204 : decode cX10_clause 204 = .ok (.aload_n 0, 1) := by decide +kernel
theorem dX10_clause_205 : decode cX10_clause 205 = .ok (.getfield 107, 3) := by decide +kernel
theorem dX10_clause_208 : decode cX10_clause 208 = .ok (.bipush 59, 2) := by decide +kernel
theorem dX10_clause_210 : decode cX10_clause 210 = .ok (.if_icmp .eq 5, 3) := by decide +kernel
theorem dX10_clause_213 : decode cX10_clause 213 = .ok (.iconst 1, 1) := by decide +kernel
theorem dX10_clause_214 : decode cX10_clause 214 = .ok (.ireturn, 1) := by decide +kernel
theorem dX10_clause_215 : decode cX10_clause 215 = .ok (.aload_n 0, 1) := by decide +kernel
theorem dX10_clause_216 : decode cX10_clause 216 = .ok (.invokevirtual 164, 3) := by decide +kernel
theorem dX10_clause_219 : decode cX10_clause 219 = .ok (.iconst 0, 1) := by decide +kernel
theorem dX10_clause_220 : decode cX10_clause 220 = .ok (.ireturn, 1) := by decide +kernel
theorem dX10_readText_0 : decode cX10_readText 0 = .ok (.aload_n 0, 1) := by decide +kernel
theorem dX10_readText_1 : decode cX10_readText 1 = .ok (.sipush 680, 3) := by decide +kernel
theorem dX10_readText_4 : decode cX10_readText 4 = .ok (.aload_n 0, 1) := by decide +kernel
theorem dX10_readText_5 : decode cX10_readText 5 = .ok (.getfield 7, 3) := by decide +kernel
theorem dX10_readText_8 : decode cX10_readText 8 = .ok (.bipush 7, 2) := by decide +kernel
theorem dX10_readText_10 : decode cX10_readText 10 = .ok (.iaload, 1) := by decide +kernel
theorem dX10_readText_11 : decode cX10_readText 11 = .ok (.imul, 1) := by decide +kernel
theorem dX10_readText_12 : decode cX10_readText 12 = .ok (.putfield 133, 3) := by decide +kernel
theorem dX10_readText_15 : decode cX10_readText 15 = .ok (.aload_n 0, 1) := by decide +kernel
theorem dX10_readText_16 : decode cX10_readText 16 = .ok (.getfield 16, 3) := by decide +kernel
theorem dX10_readText_19 : decode cX10_readText 19 = .ok (.aload_n 0, 1) := by decide +kernel
theorem dX10_readText_20 : decode cX10_readText 20 = .ok (.getfield 133, 3) := by decide +kernel
theorem dX10_readText_23 : decode cX10_readText 23 = .ok (.iconst 0, 1) := by decide +kernel
theorem dX10_readText_24 : decode cX10_readText 24 = .ok (.iastore, 1) := by decide +kernel
theorem dX10_readText_25 : decode cX10_readText 25 = .ok (.aload_n 0, 1) := by decide +kernel
theorem dX10_readText_26 : decode cX10_readText 26 = .ok (.iconst 0, 1) := by decide +kernel
theorem dX10_readText_27 : decode cX10_readText 27 = .ok (.putfield 136, 3) := by decide +kernel
theorem dX10_readText_30 : decode cX10_readText 30 = .ok (.aload_n 0, 1) := by decide +kernel
theorem dX10_readText_31 : decode cX10_readText 31 = .ok (.iconst 0, 1) := by decide +kernel
theorem dX10_readText_32 : decode cX10_readText 32 = .ok (.putfield 146, 3) := by decide +kernel
theorem dX10_readText_35 : decode cX10_readText 35 = .ok (.aload_n 0, 1) := by decide +kernel
theorem dX10_readText_36 : decode cX10_readText 36 = .ok (.iconst 0, 1) := by decide +kernel
theorem dX10_readText_37 : decode cX10_readText 37 = .ok (.putfield 220, 3) := by decide +kernel
theorem dX10_readText_40 : decode cX10_readText 40 = .ok (.aload_n 0, 1) := by decide +kernel
theorem dX10_readText_41 : decode cX10_readText 41 = .ok (.iconst 0, 1) := by decide +kernel
theorem dX10_readText_42 : decode cX10_readText 42 = .ok (.putfield 98, 3) := by decide +kernel
theorem dX10_readText_45 : decode cX10_readText 45 = .ok (.aload_n 0, 1) := by decide +kernel
theorem dX10_readText_46 : decode cX10_readText 46 = .ok (.invokevirtual 164, 3) := by decide +kernel
theorem dX10_readText_49 : decode cX10_readText 49 = .ok (.aload_n 0, 1) := by decide +kernel
theorem dX10_readText_50 : decode cX10_readText 50 = .ok (.getfield 107, 3) := by decide +kernel
theorem dX10_readText_53 : decode cX10_readText 53 = .ok (.ifCond .eq 17, 3) := by decide +kernel
theorem dX10_readText_56 : decode cX10_readText 56 = .ok (.aload_n 0, 1) := by decide +kernel
theorem dX10_readText_57 : decode cX10_readText 57 = .ok (.invokevirtual 229, 3) := by decide +kernel
theorem dX10_readText_60 : decode cX10_readText 60 = .ok (.istore_n 1, 1) := by decide +kernel
theorem dX10_readText_61 : decode cX10_readText 61 = .ok (.iload_n 1, 1) := by decide +kernel
theorem dX10_readText_62 : decode cX10_readText 62 = .ok (.ifCond .eq 5, 3) := by decide +kernel
theorem dX10_readText_65 : decode cX10_readText 65 = .ok (.iload_n 1, 1) := by decide +kernel
theorem dX10_readText_66 : decode cX10_readText 66 = .ok (.ireturn, 1) := by decide +kernel
theorem dX10_readText_67 : decode cX10_readText 67 = .ok (.goto (-18), 3) := by decide +kernel
theorem dX10_readText_70 : decode cX10_readText 70 = .ok (.iconst 0, 1) := by decide +kernel
theorem dX10_readText_71 : decode cX10_readText 71 = .ok (.ireturn, 1) := by decide +kernel
theorem dX10_text_0 : decode cX10_text 0 = .ok (.aload_n 0, 1) := by decide +kernel
theorem dX10_text_1 : decode cX10_text 1 = .ok (.getfield 7, 3) := by decide +kernel
theorem dX10_text_4 : decode cX10_text 4 = .ok (.bipush 7, 2) := by decide +kernel
theorem dX10_text_6 : decode cX10_text 6 = .ok (.iaload, 1) := by decide +kernel
theorem dX10_text_7 : decode cX10_text 7 = .ok (.iconst 4, 1) := by decide +kernel
theorem dX10_text_8 : decode cX10_text 8 = .ok (.if_icmp .ne 5, 3) := by decide +kernel
theorem dX10_text_11 : decode cX10_text 11 = .ok (.iconst (-1), 1) := by decide +kernel
theorem dX10_text_12 : decode cX10_text 12 = .ok (.ireturn, 1) := by decide +kernel
theorem dX10_text_13 : decode cX10_text 13 = .ok (.aload_n 0, 1) := by decide +kernel
theorem dX10_text_14 : decode cX10_text 14 = .ok (.aload_n 0, 1) := by decide +kernel
theorem dX10_text_15 : decode cX10_text 15 = .ok (.invokevirtual 232, 3) := by decide +kernel
theorem dX10_text_18 : decode cX10_text 18 = .ok (.putfield 22, 3) := by decide +kernel
theorem dX10_text_21 : decode cX10_text 21 = .ok (.aload_n 0, 1) := by decide +kernel
theorem dX10_text_22 : decode cX10_text 22 = .ok (.aload_n 0, 1) := by decide +kernel
theorem dX10_text_23 : decode cX10_text 23 = .ok (.getfield 22, 3) := by decide +kernel
theorem dX10_text_26 : decode cX10_text 26 = .ok (.ifCond .ne 7, 3) := by decide +kernel
theorem dX10_text_29 : decode cX10_text 29 = .ok (.iconst (-1), 1) := by decide +kernel
theorem dX10_text_30 : decode cX10_text 30 = .ok (.goto 7, 3) := by decide +kernel
theorem dX10_text_33 : decode cX10_text 33 = .ok (.aload_n 0, 1) := by decide +kernel
theorem dX10_text_34 : decode cX10_text 34 = .ok (.getfield 104, 3) := by decide +kernel
theorem dX10_text_37 : decode cX10_text 37 = .ok (.putfield 26, 3) := by decide +kernel
theorem dX10_text_40 : decode cX10_text 40 = .ok (.aload_n 0, 1) := by decide +kernel
theorem dX10_text_41 : decode cX10_text 41 = .ok (.iconst 0, 1) := by decide +kernel
theorem dX10_text_42 : decode cX10_text 42 = .ok (.putfield 91, 3) := by decide +kernel
theorem dX10_text_45 : decode cX10_text 45 = .ok (.aload_n 0, 1) := by decide +kernel
theorem dX10_text_46 : decode cX10_text 46 = .ok (.getfield 22, 3) := by decide +kernel
theorem dX10_text_49 : decode cX10_text 49 = .ok (.ifCond .eq 5, 3) := by decide +kernel
theorem dX10_text_52 : decode cX10_text 52 = .ok (.iconst (-1), 1) := by decide +kernel
theorem dX10_text_53 : decode cX10_text 53 = .ok (.ireturn, 1) := by decide +kernel
theorem dX10_text_54 : decode cX10_text 54 = .ok (.aload_n 0, 1) := by decide +kernel
theorem dX10_text_55 : decode cX10_text 55 = .ok (.getfield 7, 3) := by decide +kernel
theorem dX10_text_58 : decode cX10_text 58 = .ok (.bipush 7, 2) := by decide +kernel
theorem dX10_text_60 : decode cX10_text 60 = .ok (.dup2, 1) := by decide +kernel
theorem dX10_text_61 : decode cX10_text 61 = .ok (.iaload, 1) := by decide +kernel
theorem dX10_text_62 : decode cX10_text 62 = .ok (.iconst 1, 1) := by decide +kernel
theorem dX10_text_63 : decode cX10_text 63 = .ok (.iadd, 1) := by decide +kernel
theorem dX10_text_64 : decode cX10_text 64 = .ok (.iastore, 1) := by decide +kernel
theorem dX10_text_65 : decode cX10_text 65 = .ok (.aload_n 0, 1) := by decide +kernel
theorem dX10_text_66 : decode cX10_text 66 = .ok (.getfield 7, 3) := by decide +kernel
theorem dX10_text_69 : decode cX10_text 69 = .ok (.bipush 7, 2) := by decide +kernel
theorem dX10_text_71 : decode cX10_text 71 = .ok (.iaload, 1) := by decide +kernel
theorem dX10_text_72 : decode cX10_text 72 = .ok (.iconst 1, 1) := by decide +kernel
theorem dX10_text_73 : decode cX10_text 73 = .ok (.isub, 1) := by decide +kernel
theorem dX10_text_74 : decode cX10_text 74 = .ok (.ireturn, 1) := by decide +kernel
theorem dX10_fault_0 : decode cX10_fault 0 = .ok (.iload_n 1, 1) := by decide +kernel
theorem dX10_fault_1 : decode cX10_fault 1 = .ok (.ifCond .ne 10, 3) := by decide +kernel
theorem dX10_fault_4 : decode cX10_fault 4 = .ok (.aload_n 0, 1) := by decide +kernel
theorem dX10_fault_5 : decode cX10_fault 5 = .ok (.getfield 22, 3) := by decide +kernel
theorem dX10_fault_8 : decode cX10_fault 8 = .ok (.goto 16, 3) := by decide +kernel
theorem dX10_fault_11 : decode cX10_fault 11 = .ok (.iload_n 1, 1) := by decide +kernel
theorem dX10_fault_12 : decode cX10_fault 12 = .ok (.iconst 1, 1) := by decide +kernel
theorem dX10_fault_13 : decode cX10_fault 13 = .ok (.if_icmp .ne 10, 3) := by decide +kernel
theorem dX10_fault_16 : decode cX10_fault 16 = .ok (.aload_n 0, 1) := by decide +kernel
theorem dX10_fault_17 : decode cX10_fault 17 = .ok (.getfield 26, 3) := by decide +kernel
theorem dX10_fault_20 : decode cX10_fault 20 = .ok (.goto 4, 3) := by decide +kernel
theorem dX10_fault_23 : decode cX10_fault 23 = .ok (.iconst (-1), 1) := by decide +kernel
theorem dX10_fault_24 : decode cX10_fault 24 = .ok (.ireturn, 1) := by decide +kernel
theorem dX10_by_0 : decode cX10_by 0 = .ok (.iload_n 1, 1) := by decide +kernel
theorem dX10_by_1 : decode cX10_by 1 = .ok (.iconst (-1), 1) := by decide +kernel
theorem dX10_by_2 : decode cX10_by 2 = .ok (.aload_n 0, 1) := by decide +kernel
theorem dX10_by_3 : decode cX10_by 3 = .ok (.getfield 7, 3) := by decide +kernel
theorem dX10_by_6 : decode cX10_by 6 = .ok (.bipush 7, 2) := by decide +kernel
theorem dX10_by_8 : decode cX10_by 8 = .ok (.iaload, 1) := by decide +kernel
theorem dX10_by_9 : decode cX10_by 9 = .ok (.iconst 1, 1) := by decide +kernel
theorem dX10_by_10 : decode cX10_by 10 = .ok (.isub, 1) := by decide +kernel
theorem dX10_by_11 : decode cX10_by 11 = .ok (.invokestatic 83, 3) := by decide +kernel
theorem dX10_by_14 : decode cX10_by 14 = .ok (.ifCond .ne 5, 3) := by decide +kernel
theorem dX10_by_17 : decode cX10_by 17 = .ok (.iconst 0, 1) := by decide +kernel
theorem dX10_by_18 : decode cX10_by 18 = .ok (.ireturn, 1) := by decide +kernel
theorem dX10_by_19 : decode cX10_by 19 = .ok (.aload_n 0, 1) := by decide +kernel
theorem dX10_by_20 : decode cX10_by 20 = .ok (.getfield 7, 3) := by decide +kernel
theorem dX10_by_23 : decode cX10_by 23 = .ok (.bipush 8, 2) := by decide +kernel
theorem dX10_by_25 : decode cX10_by 25 = .ok (.iload_n 1, 1) := by decide +kernel
theorem dX10_by_26 : decode cX10_by 26 = .ok (.iastore, 1) := by decide +kernel
theorem dX10_by_27 : decode cX10_by 27 = .ok (.iconst 1, 1) := by decide +kernel
theorem dX10_by_28 : decode cX10_by 28 = .ok (.ireturn, 1) := by decide +kernel
theorem dX10_clip_0 : decode cX10_clip 0 = .ok (.lload_n 0, 1) := by decide +kernel
theorem dX10_clip_1 : decode cX10_clip 1 = .ok (.ldc2_w 235, 3) := by decide +kernel
theorem dX10_clip_4 : decode cX10_clip 4 = .ok (.lcmp, 1) := by decide +kernel
theorem dX10_clip_5 : decode cX10_clip 5 = .ok (.ifCond .le 9, 3) := by decide +kernel
theorem dX10_clip_8 : decode cX10_clip 8 = .ok (.ldc2_w 235, 3) := by decide +kernel
theorem dX10_clip_11 : decode cX10_clip 11 = .ok (.goto 18, 3) := by decide +kernel
theorem dX10_clip_14 : decode cX10_clip 14 = .ok (.lload_n 0, 1) := by decide +kernel
theorem dX10_clip_15 : decode cX10_clip 15 = .ok (.ldc2_w 237, 3) := by decide +kernel
theorem dX10_clip_18 : decode cX10_clip 18 = .ok (.lcmp, 1) := by decide +kernel
theorem dX10_clip_19 : decode cX10_clip 19 = .ok (.ifCond .ge 9, 3) := by decide +kernel
theorem dX10_clip_22 : decode cX10_clip 22 = .ok (.ldc2_w 237, 3) := by decide +kernel
theorem dX10_clip_25 : decode cX10_clip 25 = .ok (.goto 4, 3) := by decide +kernel
theorem dX10_clip_28 : decode cX10_clip 28 = .ok (.lload_n 0, 1) := by decide +kernel
theorem dX10_clip_29 : decode cX10_clip 29 = .ok (.lreturn, 1) := by decide +kernel
theorem dX10_two_0 : decode cX10_two 0 = .ok (.iload_n 0, 1) := by decide +kernel
theorem dX10_two_1 : decode cX10_two 1 = .ok (.tableswitch 48 3 5 #[27, 34, 41], 27) := by decide +kernel
theorem dX10_two_28 : decode cX10_two 28 = .ok (.lload_n 1, 1) := by decide +kernel
theorem dX10_two_29 : decode cX10_two 29 = .ok (.lload_n 3, 1) := by decide +kernel
theorem dX10_two_30 : decode cX10_two 30 = .ok (.ladd, 1) := by decide +kernel
theorem dX10_two_31 : decode cX10_two 31 = .ok (.invokestatic 239, 3) := by decide +kernel
theorem dX10_two_34 : decode cX10_two 34 = .ok (.lreturn, 1) := by decide +kernel
theorem dX10_two_35 : decode cX10_two 35 = .ok (.lload_n 1, 1) := by decide +kernel
theorem dX10_two_36 : decode cX10_two 36 = .ok (.lload_n 3, 1) := by decide +kernel
theorem dX10_two_37 : decode cX10_two 37 = .ok (.lsub, 1) := by decide +kernel
theorem dX10_two_38 : decode cX10_two 38 = .ok (.invokestatic 239, 3) := by decide +kernel
theorem dX10_two_41 : decode cX10_two 41 = .ok (.lreturn, 1) := by decide +kernel
theorem dX10_two_42 : decode cX10_two 42 = .ok (.lload_n 1, 1) := by decide +kernel
theorem dX10_two_43 : decode cX10_two 43 = .ok (.lload_n 3, 1) := by decide +kernel
theorem dX10_two_44 : decode cX10_two 44 = .ok (.lmul, 1) := by decide +kernel
theorem dX10_two_45 : decode cX10_two 45 = .ok (.invokestatic 239, 3) := by decide +kernel
theorem dX10_two_48 : decode cX10_two 48 = .ok (.lreturn, 1) := by decide +kernel
theorem dX10_two_49 : decode cX10_two 49 = .ok (.lload_n 3, 1) := by decide +kernel
theorem dX10_two_50 : decode cX10_two 50 = .ok (.lconst 0, 1) := by decide +kernel
theorem dX10_two_51 : decode cX10_two 51 = .ok (.lcmp, 1) := by decide +kernel
theorem dX10_two_52 : decode cX10_two 52 = .ok (.ifCond .ne 7, 3) := by decide +kernel
theorem dX10_two_55 : decode cX10_two 55 = .ok (.lconst 0, 1) := by decide +kernel
theorem dX10_two_56 : decode cX10_two 56 = .ok (.goto 9, 3) := by decide +kernel
theorem dX10_two_59 : decode cX10_two 59 = .ok (.lload_n 1, 1) := by decide +kernel
theorem dX10_two_60 : decode cX10_two 60 = .ok (.lload_n 3, 1) := by decide +kernel
theorem dX10_two_61 : decode cX10_two 61 = .ok (.ldiv, 1) := by decide +kernel
theorem dX10_two_62 : decode cX10_two 62 = .ok (.invokestatic 239, 3) := by decide +kernel
theorem dX10_two_65 : decode cX10_two 65 = .ok (.lreturn, 1) := by decide +kernel
theorem dX10_isAsked_0 : decode cX10_isAsked 0 = .ok (.iload_n 0, 1) := by decide +kernel
theorem dX10_isAsked_1 : decode cX10_isAsked 1 = .ok (.bipush 10, 2) := by decide +kernel
theorem dX10_isAsked_3 : decode cX10_isAsked 3 = .ok (.if_icmp .ne 17, 3) := by decide +kernel
theorem dX10_isAsked_6 : decode cX10_isAsked 6 = .ok (.lload_n 1, 1) := by decide +kernel
theorem dX10_isAsked_7 : decode cX10_isAsked 7 = .ok (.lload_n 3, 1) := by decide +kernel
theorem dX10_isAsked_8 : decode cX10_isAsked 8 = .ok (.lcmp, 1) := by decide +kernel
theorem dX10_isAsked_9 : decode cX10_isAsked 9 = .ok (.ifCond .ge 7, 3) := by decide +kernel
theorem dX10_isAsked_12 : decode cX10_isAsked 12 = .ok (.iconst 1, 1) := by decide +kernel
theorem dX10_isAsked_13 : decode cX10_isAsked 13 = .ok (.goto 98, 3) := by decide +kernel
theorem dX10_isAsked_16 : decode cX10_isAsked 16 = .ok (.iconst 0, 1) := by decide +kernel
theorem dX10_isAsked_17 : decode cX10_isAsked 17 = .ok (.goto 94, 3) := by decide +kernel
theorem dX10_isAsked_20 : decode cX10_isAsked 20 = .ok (.iload_n 0, 1) := by decide +kernel
theorem dX10_isAsked_21 : decode cX10_isAsked 21 = .ok (.bipush 11, 2) := by decide +kernel
theorem dX10_isAsked_23 : decode cX10_isAsked 23 = .ok (.if_icmp .ne 17, 3) := by decide +kernel
theorem dX10_isAsked_26 : decode cX10_isAsked 26 = .ok (.lload_n 1, 1) := by decide +kernel
theorem dX10_isAsked_27 : decode cX10_isAsked 27 = .ok (.lload_n 3, 1) := by decide +kernel
theorem dX10_isAsked_28 : decode cX10_isAsked 28 = .ok (.lcmp, 1) := by decide +kernel
theorem dX10_isAsked_29 : decode cX10_isAsked 29 = .ok (.ifCond .gt 7, 3) := by decide +kernel
theorem dX10_isAsked_32 : decode cX10_isAsked 32 = .ok (.iconst 1, 1) := by decide +kernel
theorem dX10_isAsked_33 : decode cX10_isAsked 33 = .ok (.goto 78, 3) := by decide +kernel
theorem dX10_isAsked_36 : decode cX10_isAsked 36 = .ok (.iconst 0, 1) := by decide +kernel
theorem dX10_isAsked_37 : decode cX10_isAsked 37 = .ok (.goto 74, 3) := by decide +kernel
theorem dX10_isAsked_40 : decode cX10_isAsked 40 = .ok (.iload_n 0, 1) := by decide +kernel
theorem dX10_isAsked_41 : decode cX10_isAsked 41 = .ok (.bipush 12, 2) := by decide +kernel
theorem dX10_isAsked_43 : decode cX10_isAsked 43 = .ok (.if_icmp .ne 17, 3) := by decide +kernel
theorem dX10_isAsked_46 : decode cX10_isAsked 46 = .ok (.lload_n 1, 1) := by decide +kernel
theorem dX10_isAsked_47 : decode cX10_isAsked 47 = .ok (.lload_n 3, 1) := by decide +kernel
theorem dX10_isAsked_48 : decode cX10_isAsked 48 = .ok (.lcmp, 1) := by decide +kernel
theorem dX10_isAsked_49 : decode cX10_isAsked 49 = .ok (.ifCond .le 7, 3) := by decide +kernel
theorem dX10_isAsked_52 : decode cX10_isAsked 52 = .ok (.iconst 1, 1) := by decide +kernel
theorem dX10_isAsked_53 : decode cX10_isAsked 53 = .ok (.goto 58, 3) := by decide +kernel
theorem dX10_isAsked_56 : decode cX10_isAsked 56 = .ok (.iconst 0, 1) := by decide +kernel
theorem dX10_isAsked_57 : decode cX10_isAsked 57 = .ok (.goto 54, 3) := by decide +kernel
theorem dX10_isAsked_60 : decode cX10_isAsked 60 = .ok (.iload_n 0, 1) := by decide +kernel
theorem dX10_isAsked_61 : decode cX10_isAsked 61 = .ok (.bipush 13, 2) := by decide +kernel
theorem dX10_isAsked_63 : decode cX10_isAsked 63 = .ok (.if_icmp .ne 17, 3) := by decide +kernel
theorem dX10_isAsked_66 : decode cX10_isAsked 66 = .ok (.lload_n 1, 1) := by decide +kernel
theorem dX10_isAsked_67 : decode cX10_isAsked 67 = .ok (.lload_n 3, 1) := by decide +kernel
theorem dX10_isAsked_68 : decode cX10_isAsked 68 = .ok (.lcmp, 1) := by decide +kernel
theorem dX10_isAsked_69 : decode cX10_isAsked 69 = .ok (.ifCond .lt 7, 3) := by decide +kernel
theorem dX10_isAsked_72 : decode cX10_isAsked 72 = .ok (.iconst 1, 1) := by decide +kernel
theorem dX10_isAsked_73 : decode cX10_isAsked 73 = .ok (.goto 38, 3) := by decide +kernel
theorem dX10_isAsked_76 : decode cX10_isAsked 76 = .ok (.iconst 0, 1) := by decide +kernel
theorem dX10_isAsked_77 : decode cX10_isAsked 77 = .ok (.goto 34, 3) := by decide +kernel
theorem dX10_isAsked_80 : decode cX10_isAsked 80 = .ok (.iload_n 0, 1) := by decide +kernel
theorem dX10_isAsked_81 : decode cX10_isAsked 81 = .ok (.bipush 14, 2) := by decide +kernel
theorem dX10_isAsked_83 : decode cX10_isAsked 83 = .ok (.if_icmp .ne 17, 3) := by decide +kernel
theorem dX10_isAsked_86 : decode cX10_isAsked 86 = .ok (.lload_n 1, 1) := by decide +kernel
theorem dX10_isAsked_87 : decode cX10_isAsked 87 = .ok (.lload_n 3, 1) := by decide +kernel
theorem dX10_isAsked_88 : decode cX10_isAsked 88 = .ok (.lcmp, 1) := by decide +kernel
theorem dX10_isAsked_89 : decode cX10_isAsked 89 = .ok (.ifCond .ne 7, 3) := by decide +kernel
theorem dX10_isAsked_92 : decode cX10_isAsked 92 = .ok (.iconst 1, 1) := by decide +kernel
theorem dX10_isAsked_93 : decode cX10_isAsked 93 = .ok (.goto 18, 3) := by decide +kernel
theorem dX10_isAsked_96 : decode cX10_isAsked 96 = .ok (.iconst 0, 1) := by decide +kernel
theorem dX10_isAsked_97 : decode cX10_isAsked 97 = .ok (.goto 14, 3) := by decide +kernel
theorem dX10_isAsked_100 : decode cX10_isAsked 100 = .ok (.lload_n 1, 1) := by decide +kernel
theorem dX10_isAsked_101 : decode cX10_isAsked 101 = .ok (.lload_n 3, 1) := by decide +kernel
theorem dX10_isAsked_102 : decode cX10_isAsked 102 = .ok (.lcmp, 1) := by decide +kernel
theorem dX10_isAsked_103 : decode cX10_isAsked 103 = .ok (.ifCond .eq 7, 3) := by decide +kernel
theorem dX10_isAsked_106 : decode cX10_isAsked 106 = .ok (.iconst 1, 1) := by decide +kernel
theorem dX10_isAsked_107 : decode cX10_isAsked 107 = .ok (.goto 4, 3) := by decide +kernel
theorem dX10_isAsked_110 : decode cX10_isAsked 110 = .ok (.iconst 0, 1) := by decide +kernel
theorem dX10_isAsked_111 : decode cX10_isAsked 111 = .ok (.ireturn, 1) := by decide +kernel
theorem dX10_work_0 : decode cX10_work 0 = .ok (.sipush 680, 3) := by decide +kernel
theorem dX10_work_3 : decode cX10_work 3 = .ok (.aload_n 0, 1) := by decide +kernel
theorem dX10_work_4 : decode cX10_work 4 = .ok (.getfield 7, 3) := by decide +kernel
theorem dX10_work_7 : decode cX10_work 7 = .ok (.bipush 8, 2) := by decide +kernel
theorem dX10_work_9 : decode cX10_work 9 = .ok (.iaload, 1) := by decide +kernel
theorem dX10_work_10 : decode cX10_work 10 = .ok (.imul, 1) := by decide +kernel
theorem dX10_work_11 : decode cX10_work 11 = .ok (.iconst 1, 1) := by decide +kernel
theorem dX10_work_12 : decode cX10_work 12 = .ok (.iadd, 1) := by decide +kernel
theorem dX10_work_13 : decode cX10_work 13 = .ok (.iconst 3, 1) := by decide +kernel
theorem dX10_work_14 : decode cX10_work 14 = .ok (.iload_n 1, 1) := by decide +kernel
theorem dX10_work_15 : decode cX10_work 15 = .ok (.imul, 1) := by decide +kernel
theorem dX10_work_16 : decode cX10_work 16 = .ok (.iadd, 1) := by decide +kernel
theorem dX10_work_17 : decode cX10_work 17 = .ok (.istore_n 2, 1) := by decide +kernel
theorem dX10_work_18 : decode cX10_work 18 = .ok (.sipush 680, 3) := by decide +kernel
theorem dX10_work_21 : decode cX10_work 21 = .ok (.aload_n 0, 1) := by decide +kernel
theorem dX10_work_22 : decode cX10_work 22 = .ok (.getfield 7, 3) := by decide +kernel
theorem dX10_work_25 : decode cX10_work 25 = .ok (.bipush 8, 2) := by decide +kernel
theorem dX10_work_27 : decode cX10_work 27 = .ok (.iaload, 1) := by decide +kernel
theorem dX10_work_28 : decode cX10_work 28 = .ok (.imul, 1) := by decide +kernel
theorem dX10_work_29 : decode cX10_work 29 = .ok (.bipush 75, 2) := by decide +kernel
theorem dX10_work_31 : decode cX10_work 31 = .ok (.iadd, 1) := by decide +kernel
theorem dX10_work_32 : decode cX10_work 32 = .ok (.istore_n 3, 1) := by decide +kernel
theorem dX10_work_33 : decode cX10_work 33 = .ok (.iconst 0, 1) := by decide +kernel
theorem dX10_work_34 : decode cX10_work 34 = .ok (.istore 4, 2) := by decide +kernel
theorem dX10_work_36 : decode cX10_work 36 = .ok (.iconst 0, 1) := by decide +kernel
theorem dX10_work_37 : decode cX10_work 37 = .ok (.istore 5, 2) := by decide +kernel
theorem dX10_work_39 : decode cX10_work 39 = .ok (.aload_n 0, 1) := by decide +kernel
theorem dX10_work_40 : decode cX10_work 40 = .ok (.getfield 16, 3) := by decide +kernel
theorem dX10_work_43 : decode cX10_work 43 = .ok (.iload_n 2, 1) := by decide +kernel
theorem dX10_work_44 : decode cX10_work 44 = .ok (.iconst 1, 1) := by decide +kernel
theorem dX10_work_45 : decode cX10_work 45 = .ok (.iadd, 1) := by decide +kernel
theorem dX10_work_46 : decode cX10_work 46 = .ok (.iaload, 1) := by decide +kernel
theorem dX10_work_47 : decode cX10_work 47 = .ok (.istore 6, 2) := by decide +kernel
theorem dX10_work_49 : decode cX10_work 49 = .ok (.iload 6, 2) := by decide +kernel
theorem dX10_work_51 : decode cX10_work 51 = .ok (.aload_n 0, 1) := by decide +kernel
theorem dX10_work_52 : decode cX10_work 52 = .ok (.getfield 16, 3) := by decide +kernel
theorem dX10_work_55 : decode cX10_work 55 = .ok (.iload_n 2, 1) := by decide +kernel
theorem dX10_work_56 : decode cX10_work 56 = .ok (.iconst 2, 1) := by decide +kernel
theorem dX10_work_57 : decode cX10_work 57 = .ok (.iadd, 1) := by decide +kernel
theorem dX10_work_58 : decode cX10_work 58 = .ok (.iaload, 1) := by decide +kernel
theorem dX10_work_59 : decode cX10_work 59 = .ok (.if_icmp .ge 302, 3) := by decide +kernel
theorem dX10_work_62 : decode cX10_work 62 = .ok (.aload_n 0, 1) := by decide +kernel
theorem dX10_work_63 : decode cX10_work 63 = .ok (.getfield 16, 3) := by decide +kernel
theorem dX10_work_66 : decode cX10_work 66 = .ok (.iload_n 3, 1) := by decide +kernel
theorem dX10_work_67 : decode cX10_work 67 = .ok (.iconst 2, 1) := by decide +kernel
theorem dX10_work_68 : decode cX10_work 68 = .ok (.iload 6, 2) := by decide +kernel
theorem dX10_work_70 : decode cX10_work 70 = .ok (.imul, 1) := by decide +kernel
theorem dX10_work_71 : decode cX10_work 71 = .ok (.iadd, 1) := by decide +kernel
theorem dX10_work_72 : decode cX10_work 72 = .ok (.iaload, 1) := by decide +kernel
theorem dX10_work_73 : decode cX10_work 73 = .ok (.istore 7, 2) := by decide +kernel
theorem dX10_work_75 : decode cX10_work 75 = .ok (.aload_n 0, 1) := by decide +kernel
theorem dX10_work_76 : decode cX10_work 76 = .ok (.getfield 16, 3) := by decide +kernel
theorem dX10_work_79 : decode cX10_work 79 = .ok (.iload_n 3, 1) := by decide +kernel
theorem dX10_work_80 : decode cX10_work 80 = .ok (.iconst 2, 1) := by decide +kernel
theorem dX10_work_81 : decode cX10_work 81 = .ok (.iload 6, 2) := by decide +kernel
theorem dX10_work_83 : decode cX10_work 83 = .ok (.imul, 1) := by decide +kernel
theorem dX10_work_84 : decode cX10_work 84 = .ok (.iadd, 1) := by decide +kernel
theorem dX10_work_85 : decode cX10_work 85 = .ok (.iconst 1, 1) := by decide +kernel
theorem dX10_work_86 : decode cX10_work 86 = .ok (.iadd, 1) := by decide +kernel
theorem dX10_work_87 : decode cX10_work 87 = .ok (.iaload, 1) := by decide +kernel
theorem dX10_work_88 : decode cX10_work 88 = .ok (.istore 8, 2) := by decide +kernel
theorem dX10_work_90 : decode cX10_work 90 = .ok (.iload 7, 2) := by decide +kernel
theorem dX10_work_92 : decode cX10_work 92 = .ok (.iconst 1, 1) := by decide +kernel
theorem dX10_work_93 : decode cX10_work 93 = .ok (.if_icmp .gt 35, 3) := by decide +kernel
theorem dX10_work_96 : decode cX10_work 96 = .ok (.aload_n 0, 1) := by decide +kernel
theorem dX10_work_97 : decode cX10_work 97 = .ok (.getfield 35, 3) := by decide +kernel
theorem dX10_work_100 : decode cX10_work 100 = .ok (.iload 4, 2) := by decide +kernel
theorem dX10_work_102 : decode cX10_work 102 = .ok (.iload 7, 2) := by decide +kernel
theorem dX10_work_104 : decode cX10_work 104 = .ok (.ifCond .ne 9, 3) := by decide +kernel
theorem dX10_work_107 : decode cX10_work 107 = .ok (.iload 8, 2) := by decide +kernel
theorem dX10_work_109 : decode cX10_work 109 = .ok (.i2l, 1) := by decide +kernel
theorem dX10_work_110 : decode cX10_work 110 = .ok (.goto 11, 3) := by decide +kernel
theorem dX10_work_113 : decode cX10_work 113 = .ok (.aload_n 0, 1) := by decide +kernel
theorem dX10_work_114 : decode cX10_work 114 = .ok (.getfield 32, 3) := by decide +kernel
theorem dX10_work_117 : decode cX10_work 117 = .ok (.iload 8, 2) := by decide +kernel
theorem dX10_work_119 : decode cX10_work 119 = .ok (.iaload, 1) := by decide +kernel
theorem dX10_work_120 : decode cX10_work 120 = .ok (.i2l, 1) := by decide +kernel
theorem dX10_work_121 : decode cX10_work 121 = .ok (.lastore, 1) := by decide +kernel
theorem dX10_work_122 : decode cX10_work 122 = .ok (.iinc 4 1, 3) := by decide +kernel
theorem dX10_work_125 : decode cX10_work 125 = .ok (.goto 230, 3) := by decide +kernel
theorem dX10_work_128 : decode cX10_work 128 = .ok (.iload 7, 2) := by decide +kernel
theorem dX10_work_130 : decode cX10_work 130 = .ok (.iconst 2, 1) := by decide +kernel
theorem dX10_work_131 : decode cX10_work 131 = .ok (.if_icmp .ne 25, 3) := by decide +kernel
theorem dX10_work_134 : decode cX10_work 134 = .ok (.aload_n 0, 1) := by decide +kernel
theorem dX10_work_135 : decode cX10_work 135 = .ok (.getfield 35, 3) := by decide +kernel
theorem dX10_work_138 : decode cX10_work 138 = .ok (.iload 4, 2) := by decide +kernel
theorem dX10_work_140 : decode cX10_work 140 = .ok (.iconst 1, 1) := by decide +kernel
theorem dX10_work_141 : decode cX10_work 141 = .ok (.isub, 1) := by decide +kernel
theorem dX10_work_142 : decode cX10_work 142 = .ok (.aload_n 0, 1) := by decide +kernel
theorem dX10_work_143 : decode cX10_work 143 = .ok (.getfield 35, 3) := by decide +kernel
theorem dX10_work_146 : decode cX10_work 146 = .ok (.iload 4, 2) := by decide +kernel
theorem dX10_work_148 : decode cX10_work 148 = .ok (.iconst 1, 1) := by decide +kernel
theorem dX10_work_149 : decode cX10_work 149 = .ok (.isub, 1) := by decide +kernel
theorem dX10_work_150 : decode cX10_work 150 = .ok (.laload, 1) := by decide +kernel
theorem dX10_work_151 : decode cX10_work 151 = .ok (.lneg, 1) := by decide +kernel
theorem dX10_work_152 : decode cX10_work 152 = .ok (.lastore, 1) := by decide +kernel
theorem dX10_work_153 : decode cX10_work 153 = .ok (.goto 202, 3) := by decide +kernel
theorem dX10_work_156 : decode cX10_work 156 = .ok (.iload 7, 2) := by decide +kernel
theorem dX10_work_158 : decode cX10_work 158 = .ok (.bipush 10, 2) := by decide +kernel
theorem dX10_work_160 : decode cX10_work 160 = .ok (.if_icmp .ge 39, 3) := by decide +kernel
theorem dX10_work_163 : decode cX10_work 163 = .ok (.iinc 4 (-1), 3) := by decide +kernel
theorem dX10_work_166 : decode cX10_work 166 = .ok (.aload_n 0, 1) := by decide +kernel
theorem dX10_work_167 : decode cX10_work 167 = .ok (.getfield 35, 3) := by decide +kernel
theorem dX10_work_170 : decode cX10_work 170 = .ok (.iload 4, 2) := by decide +kernel
theorem dX10_work_172 : decode cX10_work 172 = .ok (.iconst 1, 1) := by decide +kernel
theorem dX10_work_173 : decode cX10_work 173 = .ok (.isub, 1) := by decide +kernel
theorem dX10_work_174 : decode cX10_work 174 = .ok (.iload 7, 2) := by decide +kernel
theorem dX10_work_176 : decode cX10_work 176 = .ok (.aload_n 0, 1) := by decide +kernel
theorem dX10_work_177 : decode cX10_work 177 = .ok (.getfield 35, 3) := by decide +kernel
theorem dX10_work_180 : decode cX10_work 180 = .ok (.iload 4, 2) := by decide +kernel
theorem dX10_work_182 : decode cX10_work 182 = .ok (.iconst 1, 1) := by decide +kernel
theorem dX10_work_183 : decode cX10_work 183 = .ok (.isub, 1) := by decide +kernel
theorem dX10_work_184 : decode cX10_work 184 = .ok (.laload, 1) := by decide +kernel
theorem dX10_work_185 : decode cX10_work 185 = .ok (.aload_n 0, 1) := by decide +kernel
theorem dX10_work_186 : decode cX10_work 186 = .ok (.getfield 35, 3) := by decide +kernel
theorem dX10_work_189 : decode cX10_work 189 = .ok (.iload 4, 2) := by decide +kernel
theorem dX10_work_191 : decode cX10_work 191 = .ok (.laload, 1) := by decide +kernel
theorem dX10_work_192 : decode cX10_work 192 = .ok (.invokestatic 243, 3) := by decide +kernel
theorem dX10_work_195 : decode cX10_work 195 = .ok (.lastore, 1) := by decide +kernel
theorem dX10_work_196 : decode cX10_work 196 = .ok (.goto 159, 3) := by decide +kernel
theorem dX10_work_199 : decode cX10_work 199 = .ok (.iload 7, 2) := by decide +kernel
theorem dX10_work_201 : decode cX10_work 201 = .ok (.bipush 20, 2) := by decide +kernel
theorem dX10_work_203 : decode cX10_work 203 = .ok (.if_icmp .ge 40, 3) := by decide +kernel
theorem dX10_work_206 : decode cX10_work 206 = .ok (.iinc 4 (-2), 3) := by decide +kernel
theorem dX10_work_209 : decode cX10_work 209 = .ok (.aload_n 0, 1) := by decide +kernel
theorem dX10_work_210 : decode cX10_work 210 = .ok (.getfield 39, 3) := by decide +kernel
theorem dX10_work_213 : decode cX10_work 213 = .ok (.iload 5, 2) := by decide +kernel
theorem dX10_work_215 : decode cX10_work 215 = .ok (.iload 7, 2) := by decide +kernel
theorem dX10_work_217 : decode cX10_work 217 = .ok (.aload_n 0, 1) := by decide +kernel
theorem dX10_work_218 : decode cX10_work 218 = .ok (.getfield 35, 3) := by decide +kernel
theorem dX10_work_221 : decode cX10_work 221 = .ok (.iload 4, 2) := by decide +kernel
theorem dX10_work_223 : decode cX10_work 223 = .ok (.laload, 1) := by decide +kernel
theorem dX10_work_224 : decode cX10_work 224 = .ok (.aload_n 0, 1) := by decide +kernel
theorem dX10_work_225 : decode cX10_work 225 = .ok (.getfield 35, 3) := by decide +kernel
theorem dX10_work_228 : decode cX10_work 228 = .ok (.iload 4, 2) := by decide +kernel
theorem dX10_work_230 : decode cX10_work 230 = .ok (.iconst 1, 1) := by decide +kernel
theorem dX10_work_231 : decode cX10_work 231 = .ok (.iadd, 1) := by decide +kernel
theorem dX10_work_232 : decode cX10_work 232 = .ok (.laload, 1) := by decide +kernel
theorem dX10_work_233 : decode cX10_work 233 = .ok (.invokestatic 247, 3) := by decide +kernel
theorem dX10_work_236 : decode cX10_work 236 = .ok (.bastore, 1) := by decide +kernel
theorem dX10_work_237 : decode cX10_work 237 = .ok (.iinc 5 1, 3) := by decide +kernel
theorem dX10_work_240 : decode cX10_work 240 = .ok (.goto 115, 3) := by decide +kernel
theorem dX10_work_243 : decode cX10_work 243 = .ok (.iload 7, 2) := by decide +kernel
theorem dX10_work_245 : decode cX10_work 245 = .ok (.bipush 20, 2) := by decide +kernel
theorem dX10_work_247 : decode cX10_work 247 = .ok (.if_icmp .ne 32, 3) := by decide +kernel
theorem dX10_work_250 : decode cX10_work 250 = .ok (.aload_n 0, 1) := by decide +kernel
theorem dX10_work_251 : decode cX10_work 251 = .ok (.getfield 39, 3) := by decide +kernel
theorem dX10_work_254 : decode cX10_work 254 = .ok (.iload 5, 2) := by decide +kernel
theorem dX10_work_256 : decode cX10_work 256 = .ok (.iconst 1, 1) := by decide +kernel
theorem dX10_work_257 : decode cX10_work 257 = .ok (.isub, 1) := by decide +kernel
theorem dX10_work_258 : decode cX10_work 258 = .ok (.aload_n 0, 1) := by decide +kernel
theorem dX10_work_259 : decode cX10_work 259 = .ok (.getfield 39, 3) := by decide +kernel
theorem dX10_work_262 : decode cX10_work 262 = .ok (.iload 5, 2) := by decide +kernel
theorem dX10_work_264 : decode cX10_work 264 = .ok (.iconst 1, 1) := by decide +kernel
theorem dX10_work_265 : decode cX10_work 265 = .ok (.isub, 1) := by decide +kernel
theorem dX10_work_266 : decode cX10_work 266 = .ok (.baload, 1) := by decide +kernel
theorem dX10_work_267 : decode cX10_work 267 = .ok (.ifCond .ne 7, 3) := by decide +kernel
theorem dX10_work_270 : decode cX10_work 270 = .ok (.iconst 1, 1) := by decide +kernel
theorem dX10_work_271 : decode cX10_work 271 = .ok (.goto 4, 3) := by decide +kernel
theorem dX10_work_274 : decode cX10_work 274 = .ok (.iconst 0, 1) := by decide +kernel
theorem dX10_work_275 : decode cX10_work 275 = .ok (.bastore, 1) := by decide +kernel
theorem dX10_work_276 : decode cX10_work 276 = .ok (.goto 79, 3) := by decide +kernel
theorem dX10_work_279 : decode cX10_work 279 = .ok (.iinc 5 (-1), 3) := by decide +kernel
theorem dX10_work_282 : decode cX10_work 282 = .ok (.aload_n 0, 1) := by decide +kernel
theorem dX10_work_283 : decode cX10_work 283 = .ok (.getfield 39, 3) := by decide +kernel
theorem dX10_work_286 : decode cX10_work 286 = .ok (.iload 5, 2) := by decide +kernel
theorem dX10_work_288 : decode cX10_work 288 = .ok (.iconst 1, 1) := by decide +kernel
theorem dX10_work_289 : decode cX10_work 289 = .ok (.isub, 1) := by decide +kernel
theorem dX10_work_290 : decode cX10_work 290 = .ok (.iload 7, 2) := by decide +kernel
theorem dX10_work_292 : decode cX10_work 292 = .ok (.bipush 21, 2) := by decide +kernel
theorem dX10_work_294 : decode cX10_work 294 = .ok (.if_icmp .ne 33, 3) := by decide +kernel
theorem dX10_work_297 : decode cX10_work 297 = .ok (.aload_n 0, 1) := by decide +kernel
theorem dX10_work_298 : decode cX10_work 298 = .ok (.getfield 39, 3) := by decide +kernel
theorem dX10_work_301 : decode cX10_work 301 = .ok (.iload 5, 2) := by decide +kernel
theorem dX10_work_303 : decode cX10_work 303 = .ok (.iconst 1, 1) := by decide +kernel
theorem dX10_work_304 : decode cX10_work 304 = .ok (.isub, 1) := by decide +kernel
theorem dX10_work_305 : decode cX10_work 305 = .ok (.baload, 1) := by decide +kernel
theorem dX10_work_306 : decode cX10_work 306 = .ok (.ifCond .eq 17, 3) := by decide +kernel
theorem dX10_work_309 : decode cX10_work 309 = .ok (.aload_n 0, 1) := by decide +kernel
theorem dX10_work_310 : decode cX10_work 310 = .ok (.getfield 39, 3) := by decide +kernel
theorem dX10_work_313 : decode cX10_work 313 = .ok (.iload 5, 2) := by decide +kernel
theorem dX10_work_315 : decode cX10_work 315 = .ok (.baload, 1) := by decide +kernel
theorem dX10_work_316 : decode cX10_work 316 = .ok (.ifCond .eq 7, 3) := by decide +kernel
theorem dX10_work_319 : decode cX10_work 319 = .ok (.iconst 1, 1) := by decide +kernel
theorem dX10_work_320 : decode cX10_work 320 = .ok (.goto 34, 3) := by decide +kernel
theorem dX10_work_323 : decode cX10_work 323 = .ok (.iconst 0, 1) := by decide +kernel
theorem dX10_work_324 : decode cX10_work 324 = .ok (.goto 30, 3) := by decide +kernel
theorem dX10_work_327 : decode cX10_work 327 = .ok (.aload_n 0, 1) := by decide +kernel
theorem dX10_work_328 : decode cX10_work 328 = .ok (.getfield 39, 3) := by decide +kernel
theorem dX10_work_331 : decode cX10_work 331 = .ok (.iload 5, 2) := by decide +kernel
theorem dX10_work_333 : decode cX10_work 333 = .ok (.iconst 1, 1) := by decide +kernel
theorem dX10_work_334 : decode cX10_work 334 = .ok (.isub, 1) := by decide +kernel
theorem dX10_work_335 : decode cX10_work 335 = .ok (.baload, 1) := by decide +kernel
theorem dX10_work_336 : decode cX10_work 336 = .ok (.ifCond .ne 13, 3) := by decide +kernel
theorem dX10_work_339 : decode cX10_work 339 = .ok (.aload_n 0, 1) := by decide +kernel
theorem dX10_work_340 : decode cX10_work 340 = .ok (.getfield 39, 3) := by decide +kernel
theorem dX10_work_343 : decode cX10_work 343 = .ok (.iload 5, 2) := by decide +kernel
theorem dX10_work_345 : decode cX10_work 345 = .ok (.baload, 1) := by decide +kernel
theorem dX10_work_346 : decode cX10_work 346 = .ok (.ifCond .eq 7, 3) := by decide +kernel
theorem dX10_work_349 : decode cX10_work 349 = .ok (.iconst 1, 1) := by decide +kernel
theorem dX10_work_350 : decode cX10_work 350 = .ok (.goto 4, 3) := by decide +kernel
theorem dX10_work_353 : decode cX10_work 353 = .ok (.iconst 0, 1) := by decide +kernel
theorem dX10_work_354 : decode cX10_work 354 = .ok (.bastore, 1) := by decide +kernel
theorem dX10_work_355 : decode cX10_work 355 = .ok (.iinc 6 1, 3) := by decide +kernel
theorem dX10_work_358 : decode cX10_work 358 = .ok (.goto (-309), 3) := by decide +kernel
theorem dX10_work_361 : decode cX10_work 361 = .ok (.return_, 1) := by decide +kernel
theorem dX10_clauseOf_0 : decode cX10_clauseOf 0 = .ok (.iconst 0, 1) := by decide +kernel
theorem dX10_clauseOf_1 : decode cX10_clauseOf 1 = .ok (.istore_n 2, 1) := by decide +kernel
theorem dX10_clauseOf_2 : decode cX10_clauseOf 2 = .ok (.aload_n 0, 1) := by decide +kernel
theorem dX10_clauseOf_3 : decode cX10_clauseOf 3 = .ok (.getfield 7, 3) := by decide +kernel
theorem dX10_clauseOf_6 : decode cX10_clauseOf 6 = .ok (.bipush 8, 2) := by decide +kernel
theorem dX10_clauseOf_8 : decode cX10_clauseOf 8 = .ok (.iaload, 1) := by decide +kernel
theorem dX10_clauseOf_9 : decode cX10_clauseOf 9 = .ok (.ifCond .lt 57, 3) := by decide +kernel
theorem dX10_clauseOf_12 : decode cX10_clauseOf 12 = .ok (.iload_n 2, 1) := by decide +kernel
theorem dX10_clauseOf_13 : decode cX10_clauseOf 13 = .ok (.aload_n 0, 1) := by decide +kernel
theorem dX10_clauseOf_14 : decode cX10_clauseOf 14 = .ok (.getfield 16, 3) := by decide +kernel
theorem dX10_clauseOf_17 : decode cX10_clauseOf 17 = .ok (.sipush 680, 3) := by decide +kernel
theorem dX10_clauseOf_20 : decode cX10_clauseOf 20 = .ok (.aload_n 0, 1) := by decide +kernel
theorem dX10_clauseOf_21 : decode cX10_clauseOf 21 = .ok (.getfield 7, 3) := by decide +kernel
theorem dX10_clauseOf_24 : decode cX10_clauseOf 24 = .ok (.bipush 8, 2) := by decide +kernel
theorem dX10_clauseOf_26 : decode cX10_clauseOf 26 = .ok (.iaload, 1) := by decide +kernel
theorem dX10_clauseOf_27 : decode cX10_clauseOf 27 = .ok (.imul, 1) := by decide +kernel
theorem dX10_clauseOf_28 : decode cX10_clauseOf 28 = .ok (.iaload, 1) := by decide +kernel
theorem dX10_clauseOf_29 : decode cX10_clauseOf 29 = .ok (.if_icmp .ge 37, 3) := by decide +kernel
theorem dX10_clauseOf_32 : decode cX10_clauseOf 32 = .ok (.aload_n 0, 1) := by decide +kernel
theorem dX10_clauseOf_33 : decode cX10_clauseOf 33 = .ok (.getfield 16, 3) := by decide +kernel
theorem dX10_clauseOf_36 : decode cX10_clauseOf 36 = .ok (.sipush 680, 3) := by decide +kernel
theorem dX10_clauseOf_39 : decode cX10_clauseOf 39 = .ok (.aload_n 0, 1) := by decide +kernel
theorem dX10_clauseOf_40 : decode cX10_clauseOf 40 = .ok (.getfield 7, 3) := by decide +kernel
theorem dX10_clauseOf_43 : decode cX10_clauseOf 43 = .ok (.bipush 8, 2) := by decide +kernel
theorem dX10_clauseOf_45 : decode cX10_clauseOf 45 = .ok (.iaload, 1) := by decide +kernel
theorem dX10_clauseOf_46 : decode cX10_clauseOf 46 = .ok (.imul, 1) := by decide +kernel
theorem dX10_clauseOf_47 : decode cX10_clauseOf 47 = .ok (.iconst 1, 1) := by decide +kernel
theorem dX10_clauseOf_48 : decode cX10_clauseOf 48 = .ok (.iadd, 1) := by decide +kernel
theorem dX10_clauseOf_49 : decode cX10_clauseOf 49 = .ok (.iconst 3, 1) := by decide +kernel
theorem dX10_clauseOf_50 : decode cX10_clauseOf 50 = .ok (.iload_n 2, 1) := by decide +kernel
theorem dX10_clauseOf_51 : decode cX10_clauseOf 51 = .ok (.imul, 1) := by decide +kernel
theorem dX10_clauseOf_52 : decode cX10_clauseOf 52 = .ok (.iadd, 1) := by decide +kernel
theorem dX10_clauseOf_53 : decode cX10_clauseOf 53 = .ok (.iaload, 1) := by decide +kernel
theorem dX10_clauseOf_54 : decode cX10_clauseOf 54 = .ok (.iload_n 1, 1) := by decide +kernel
theorem dX10_clauseOf_55 : decode cX10_clauseOf 55 = .ok (.if_icmp .ne 5, 3) := by decide +kernel
theorem dX10_clauseOf_58 : decode cX10_clauseOf 58 = .ok (.iload_n 2, 1) := by decide +kernel
theorem dX10_clauseOf_59 : decode cX10_clauseOf 59 = .ok (.ireturn, 1) := by decide +kernel
theorem dX10_clauseOf_60 : decode cX10_clauseOf 60 = .ok (.iinc 2 1, 3) := by decide +kernel
theorem dX10_clauseOf_63 : decode cX10_clauseOf 63 = .ok (.goto (-61), 3) := by decide +kernel
theorem dX10_clauseOf_66 : decode cX10_clauseOf 66 = .ok (.iconst (-1), 1) := by decide +kernel
theorem dX10_clauseOf_67 : decode cX10_clauseOf 67 = .ok (.ireturn, 1) := by decide +kernel
theorem dX10_name_0 : decode cX10_name 0 = .ok (.aload_n 0, 1) := by decide +kernel
theorem dX10_name_1 : decode cX10_name 1 = .ok (.getfield 32, 3) := by decide +kernel
theorem dX10_name_4 : decode cX10_name 4 = .ok (.iconst 0, 1) := by decide +kernel
theorem dX10_name_5 : decode cX10_name 5 = .ok (.iload_n 1, 1) := by decide +kernel
theorem dX10_name_6 : decode cX10_name 6 = .ok (.iastore, 1) := by decide +kernel
theorem dX10_name_7 : decode cX10_name 7 = .ok (.aload_n 0, 1) := by decide +kernel
theorem dX10_name_8 : decode cX10_name 8 = .ok (.getfield 32, 3) := by decide +kernel
theorem dX10_name_11 : decode cX10_name 11 = .ok (.iconst 1, 1) := by decide +kernel
theorem dX10_name_12 : decode cX10_name 12 = .ok (.iload_n 2, 1) := by decide +kernel
theorem dX10_name_13 : decode cX10_name 13 = .ok (.iastore, 1) := by decide +kernel
theorem dX10_name_14 : decode cX10_name 14 = .ok (.aload_n 0, 1) := by decide +kernel
theorem dX10_name_15 : decode cX10_name 15 = .ok (.getfield 32, 3) := by decide +kernel
theorem dX10_name_18 : decode cX10_name 18 = .ok (.iconst 2, 1) := by decide +kernel
theorem dX10_name_19 : decode cX10_name 19 = .ok (.iload_n 3, 1) := by decide +kernel
theorem dX10_name_20 : decode cX10_name 20 = .ok (.iastore, 1) := by decide +kernel
theorem dX10_name_21 : decode cX10_name 21 = .ok (.return_, 1) := by decide +kernel
theorem dX10_borne_0 : decode cX10_borne 0 = .ok (.aload_n 0, 1) := by decide +kernel
theorem dX10_borne_1 : decode cX10_borne 1 = .ok (.iconst 0, 1) := by decide +kernel
theorem dX10_borne_2 : decode cX10_borne 2 = .ok (.invokevirtual 251, 3) := by decide +kernel
theorem dX10_borne_5 : decode cX10_borne 5 = .ok (.istore 5, 2) := by decide +kernel
theorem dX10_borne_7 : decode cX10_borne 7 = .ok (.iload 5, 2) := by decide +kernel
theorem dX10_borne_9 : decode cX10_borne 9 = .ok (.ifCond .ge 5, 3) := by decide +kernel
theorem dX10_borne_12 : decode cX10_borne 12 = .ok (.iload_n 2, 1) := by decide +kernel
theorem dX10_borne_13 : decode cX10_borne 13 = .ok (.ireturn, 1) := by decide +kernel
theorem dX10_borne_14 : decode cX10_borne 14 = .ok (.aload_n 0, 1) := by decide +kernel
theorem dX10_borne_15 : decode cX10_borne 15 = .ok (.getfield 32, 3) := by decide +kernel
theorem dX10_borne_18 : decode cX10_borne 18 = .ok (.iconst 3, 1) := by decide +kernel
theorem dX10_borne_19 : decode cX10_borne 19 = .ok (.iload_n 1, 1) := by decide +kernel
theorem dX10_borne_20 : decode cX10_borne 20 = .ok (.iastore, 1) := by decide +kernel
theorem dX10_borne_21 : decode cX10_borne 21 = .ok (.aload_n 0, 1) := by decide +kernel
theorem dX10_borne_22 : decode cX10_borne 22 = .ok (.getfield 32, 3) := by decide +kernel
theorem dX10_borne_25 : decode cX10_borne 25 = .ok (.iconst 4, 1) := by decide +kernel
theorem dX10_borne_26 : decode cX10_borne 26 = .ok (.iload_n 2, 1) := by decide +kernel
theorem dX10_borne_27 : decode cX10_borne 27 = .ok (.iastore, 1) := by decide +kernel
theorem dX10_borne_28 : decode cX10_borne 28 = .ok (.aload_n 0, 1) := by decide +kernel
theorem dX10_borne_29 : decode cX10_borne 29 = .ok (.getfield 32, 3) := by decide +kernel
theorem dX10_borne_32 : decode cX10_borne 32 = .ok (.iconst 5, 1) := by decide +kernel
theorem dX10_borne_33 : decode cX10_borne 33 = .ok (.iload_n 3, 1) := by decide +kernel
theorem dX10_borne_34 : decode cX10_borne 34 = .ok (.iastore, 1) := by decide +kernel
theorem dX10_borne_35 : decode cX10_borne 35 = .ok (.aload_n 0, 1) := by decide +kernel
theorem dX10_borne_36 : decode cX10_borne 36 = .ok (.getfield 32, 3) := by decide +kernel
theorem dX10_borne_39 : decode cX10_borne 39 = .ok (.bipush 6, 2) := by decide +kernel
theorem dX10_borne_41 : decode cX10_borne 41 = .ok (.iload 4, 2) := by decide +kernel
theorem dX10_borne_43 : decode cX10_borne 43 = .ok (.iastore, 1) := by decide +kernel
theorem dX10_borne_44 : decode cX10_borne 44 = .ok (.aload_n 0, 1) := by decide +kernel
theorem dX10_borne_45 : decode cX10_borne 45 = .ok (.iload 5, 2) := by decide +kernel
theorem dX10_borne_47 : decode cX10_borne 47 = .ok (.invokevirtual 254, 3) := by decide +kernel
theorem dX10_borne_50 : decode cX10_borne 50 = .ok (.aload_n 0, 1) := by decide +kernel
theorem dX10_borne_51 : decode cX10_borne 51 = .ok (.getfield 35, 3) := by decide +kernel
theorem dX10_borne_54 : decode cX10_borne 54 = .ok (.iconst 0, 1) := by decide +kernel
theorem dX10_borne_55 : decode cX10_borne 55 = .ok (.laload, 1) := by decide +kernel
theorem dX10_borne_56 : decode cX10_borne 56 = .ok (.iconst 0, 1) := by decide +kernel
theorem dX10_borne_57 : decode cX10_borne 57 = .ok (.sipush 9999, 3) := by decide +kernel
theorem dX10_borne_60 : decode cX10_borne 60 = .ok (.invokestatic 257, 3) := by decide +kernel
theorem dX10_borne_63 : decode cX10_borne 63 = .ok (.ireturn, 1) := by decide +kernel
theorem dX10_bears_0 : decode cX10_bears 0 = .ok (.aload_n 0, 1) := by decide +kernel
theorem dX10_bears_1 : decode cX10_bears 1 = .ok (.iload_n 1, 1) := by decide +kernel
theorem dX10_bears_2 : decode cX10_bears 2 = .ok (.aload_n 0, 1) := by decide +kernel
theorem dX10_bears_3 : decode cX10_bears 3 = .ok (.getfield 7, 3) := by decide +kernel
theorem dX10_bears_6 : decode cX10_bears 6 = .ok (.iload_n 1, 1) := by decide +kernel
theorem dX10_bears_7 : decode cX10_bears 7 = .ok (.invokestatic 87, 3) := by decide +kernel
theorem dX10_bears_10 : decode cX10_bears 10 = .ok (.iaload, 1) := by decide +kernel
theorem dX10_bears_11 : decode cX10_bears 11 = .ok (.aload_n 0, 1) := by decide +kernel
theorem dX10_bears_12 : decode cX10_bears 12 = .ok (.getfield 7, 3) := by decide +kernel
theorem dX10_bears_15 : decode cX10_bears 15 = .ok (.iload_n 1, 1) := by decide +kernel
theorem dX10_bears_16 : decode cX10_bears 16 = .ok (.invokestatic 87, 3) := by decide +kernel
theorem dX10_bears_19 : decode cX10_bears 19 = .ok (.iconst 1, 1) := by decide +kernel
theorem dX10_bears_20 : decode cX10_bears 20 = .ok (.iadd, 1) := by decide +kernel
theorem dX10_bears_21 : decode cX10_bears 21 = .ok (.iaload, 1) := by decide +kernel
theorem dX10_bears_22 : decode cX10_bears 22 = .ok (.iload_n 2, 1) := by decide +kernel
theorem dX10_bears_23 : decode cX10_bears 23 = .ok (.invokevirtual 261, 3) := by decide +kernel
theorem dX10_bears_26 : decode cX10_bears 26 = .ok (.ireturn, 1) := by decide +kernel
theorem dX10_nameNow_0 : decode cX10_nameNow 0 = .ok (.aload_n 0, 1) := by decide +kernel
theorem dX10_nameNow_1 : decode cX10_nameNow 1 = .ok (.aload_n 0, 1) := by decide +kernel
theorem dX10_nameNow_2 : decode cX10_nameNow 2 = .ok (.getfield 7, 3) := by decide +kernel
theorem dX10_nameNow_5 : decode cX10_nameNow 5 = .ok (.iconst 4, 1) := by decide +kernel
theorem dX10_nameNow_6 : decode cX10_nameNow 6 = .ok (.iaload, 1) := by decide +kernel
theorem dX10_nameNow_7 : decode cX10_nameNow 7 = .ok (.aload_n 0, 1) := by decide +kernel
theorem dX10_nameNow_8 : decode cX10_nameNow 8 = .ok (.getfield 7, 3) := by decide +kernel
theorem dX10_nameNow_11 : decode cX10_nameNow 11 = .ok (.iconst 5, 1) := by decide +kernel
theorem dX10_nameNow_12 : decode cX10_nameNow 12 = .ok (.iaload, 1) := by decide +kernel
theorem dX10_nameNow_13 : decode cX10_nameNow 13 = .ok (.aload_n 0, 1) := by decide +kernel
theorem dX10_nameNow_14 : decode cX10_nameNow 14 = .ok (.getfield 7, 3) := by decide +kernel
theorem dX10_nameNow_17 : decode cX10_nameNow 17 = .ok (.bipush 6, 2) := by decide +kernel
theorem dX10_nameNow_19 : decode cX10_nameNow 19 = .ok (.iaload, 1) := by decide +kernel
theorem dX10_nameNow_20 : decode cX10_nameNow 20 = .ok (.invokevirtual 264, 3) := by decide +kernel
theorem dX10_nameNow_23 : decode cX10_nameNow 23 = .ok (.return_, 1) := by decide +kernel
theorem dX10_load_0 : decode cX10_load 0 = .ok (.iconst 0, 1) := by decide +kernel
theorem dX10_load_1 : decode cX10_load 1 = .ok (.istore_n 2, 1) := by decide +kernel
theorem dX10_load_2 : decode cX10_load 2 = .ok (.iconst 0, 1) := by decide +kernel
theorem dX10_load_3 : decode cX10_load 3 = .ok (.istore_n 3, 1) := by decide +kernel
theorem dX10_load_4 : decode cX10_load 4 = .ok (.iload_n 3, 1) := by decide +kernel
theorem dX10_load_5 : decode cX10_load 5 = .ok (.aload_n 0, 1) := by decide +kernel
theorem dX10_load_6 : decode cX10_load 6 = .ok (.getfield 7, 3) := by decide +kernel
theorem dX10_load_9 : decode cX10_load 9 = .ok (.iconst 0, 1) := by decide +kernel
theorem dX10_load_10 : decode cX10_load 10 = .ok (.iaload, 1) := by decide +kernel
theorem dX10_load_11 : decode cX10_load 11 = .ok (.if_icmp .ge 31, 3) := by decide +kernel
theorem dX10_load_14 : decode cX10_load 14 = .ok (.iload_n 2, 1) := by decide +kernel
theorem dX10_load_15 : decode cX10_load 15 = .ok (.aload_n 0, 1) := by decide +kernel
theorem dX10_load_16 : decode cX10_load 16 = .ok (.iload_n 3, 1) := by decide +kernel
theorem dX10_load_17 : decode cX10_load 17 = .ok (.invokevirtual 268, 3) := by decide +kernel
theorem dX10_load_20 : decode cX10_load 20 = .ok (.iload_n 1, 1) := by decide +kernel
theorem dX10_load_21 : decode cX10_load 21 = .ok (.if_icmp .ne 12, 3) := by decide +kernel
theorem dX10_load_24 : decode cX10_load 24 = .ok (.aload_n 0, 1) := by decide +kernel
theorem dX10_load_25 : decode cX10_load 25 = .ok (.iload_n 3, 1) := by decide +kernel
theorem dX10_load_26 : decode cX10_load 26 = .ok (.iload_n 1, 1) := by decide +kernel
theorem dX10_load_27 : decode cX10_load 27 = .ok (.invokevirtual 271, 3) := by decide +kernel
theorem dX10_load_30 : decode cX10_load 30 = .ok (.goto 4, 3) := by decide +kernel
theorem dX10_load_33 : decode cX10_load 33 = .ok (.iconst 0, 1) := by decide +kernel
theorem dX10_load_34 : decode cX10_load 34 = .ok (.iadd, 1) := by decide +kernel
theorem dX10_load_35 : decode cX10_load 35 = .ok (.istore_n 2, 1) := by decide +kernel
theorem dX10_load_36 : decode cX10_load 36 = .ok (.iinc 3 1, 3) := by decide +kernel
theorem dX10_load_39 : decode cX10_load 39 = .ok (.goto (-35), 3) := by decide +kernel
theorem dX10_load_42 : decode cX10_load 42 = .ok (.iload_n 2, 1) := by decide +kernel
theorem dX10_load_43 : decode cX10_load 43 = .ok (.ireturn, 1) := by decide +kernel
theorem dX10_without_0 : decode cX10_without 0 = .ok (.iload_n 0, 1) := by decide +kernel
theorem dX10_without_1 : decode cX10_without 1 = .ok (.ifCond .ge 8, 3) := by decide +kernel
theorem dX10_without_4 : decode cX10_without 4 = .ok (.iload_n 0, 1) := by decide +kernel
theorem dX10_without_5 : decode cX10_without 5 = .ok (.ineg, 1) := by decide +kernel
theorem dX10_without_6 : decode cX10_without 6 = .ok (.goto 4, 3) := by decide +kernel
theorem dX10_without_9 : decode cX10_without 9 = .ok (.iload_n 0, 1) := by decide +kernel
theorem dX10_without_10 : decode cX10_without 10 = .ok (.ireturn, 1) := by decide +kernel
theorem dX10_beamBy_0 : decode cX10_beamBy 0 = .ok (.iload_n 0, 1) := by decide +kernel
theorem dX10_beamBy_1 : decode cX10_beamBy 1 = .ok (.invokestatic 274, 3) := by decide +kernel
theorem dX10_beamBy_4 : decode cX10_beamBy 4 = .ok (.iload_n 1, 1) := by decide +kernel
theorem dX10_beamBy_5 : decode cX10_beamBy 5 = .ok (.if_icmp .gt 7, 3) := by decide +kernel
theorem dX10_beamBy_8 : decode cX10_beamBy 8 = .ok (.iconst 0, 1) := by decide +kernel
theorem dX10_beamBy_9 : decode cX10_beamBy 9 = .ok (.goto 12, 3) := by decide +kernel
theorem dX10_beamBy_12 : decode cX10_beamBy 12 = .ok (.iload_n 0, 1) := by decide +kernel
theorem dX10_beamBy_13 : decode cX10_beamBy 13 = .ok (.ifCond .le 7, 3) := by decide +kernel
theorem dX10_beamBy_16 : decode cX10_beamBy 16 = .ok (.iconst 1, 1) := by decide +kernel
theorem dX10_beamBy_17 : decode cX10_beamBy 17 = .ok (.goto 4, 3) := by decide +kernel
theorem dX10_beamBy_20 : decode cX10_beamBy 20 = .ok (.iconst 2, 1) := by decide +kernel
theorem dX10_beamBy_21 : decode cX10_beamBy 21 = .ok (.ireturn, 1) := by decide +kernel
theorem dX10_moment_0 : decode cX10_moment 0 = .ok (.aload_n 0, 1) := by decide +kernel
theorem dX10_moment_1 : decode cX10_moment 1 = .ok (.getfield 7, 3) := by decide +kernel
theorem dX10_moment_4 : decode cX10_moment 4 = .ok (.iconst 1, 1) := by decide +kernel
theorem dX10_moment_5 : decode cX10_moment 5 = .ok (.iaload, 1) := by decide +kernel
theorem dX10_moment_6 : decode cX10_moment 6 = .ok (.iload_n 1, 1) := by decide +kernel
theorem dX10_moment_7 : decode cX10_moment 7 = .ok (.imul, 1) := by decide +kernel
theorem dX10_moment_8 : decode cX10_moment 8 = .ok (.aload_n 0, 1) := by decide +kernel
theorem dX10_moment_9 : decode cX10_moment 9 = .ok (.getfield 7, 3) := by decide +kernel
theorem dX10_moment_12 : decode cX10_moment 12 = .ok (.iconst 2, 1) := by decide +kernel
theorem dX10_moment_13 : decode cX10_moment 13 = .ok (.iaload, 1) := by decide +kernel
theorem dX10_moment_14 : decode cX10_moment 14 = .ok (.iload_n 2, 1) := by decide +kernel
theorem dX10_moment_15 : decode cX10_moment 15 = .ok (.imul, 1) := by decide +kernel
theorem dX10_moment_16 : decode cX10_moment 16 = .ok (.isub, 1) := by decide +kernel
theorem dX10_moment_17 : decode cX10_moment 17 = .ok (.bipush 10, 2) := by decide +kernel
theorem dX10_moment_19 : decode cX10_moment 19 = .ok (.aload_n 0, 1) := by decide +kernel
theorem dX10_moment_20 : decode cX10_moment 20 = .ok (.getfield 7, 3) := by decide +kernel
theorem dX10_moment_23 : decode cX10_moment 23 = .ok (.bipush 6, 2) := by decide +kernel
theorem dX10_moment_25 : decode cX10_moment 25 = .ok (.iaload, 1) := by decide +kernel
theorem dX10_moment_26 : decode cX10_moment 26 = .ok (.imul, 1) := by decide +kernel
theorem dX10_moment_27 : decode cX10_moment 27 = .ok (.iadd, 1) := by decide +kernel
theorem dX10_moment_28 : decode cX10_moment 28 = .ok (.ireturn, 1) := by decide +kernel
theorem dX10_isSafe_0 : decode cX10_isSafe 0 = .ok (.aload_n 0, 1) := by decide +kernel
theorem dX10_isSafe_1 : decode cX10_isSafe 1 = .ok (.iconst 1, 1) := by decide +kernel
theorem dX10_isSafe_2 : decode cX10_isSafe 2 = .ok (.invokevirtual 251, 3) := by decide +kernel
theorem dX10_isSafe_5 : decode cX10_isSafe 5 = .ok (.istore_n 3, 1) := by decide +kernel
theorem dX10_isSafe_6 : decode cX10_isSafe 6 = .ok (.iload_n 3, 1) := by decide +kernel
theorem dX10_isSafe_7 : decode cX10_isSafe 7 = .ok (.ifCond .ge 5, 3) := by decide +kernel
theorem dX10_isSafe_10 : decode cX10_isSafe 10 = .ok (.iconst 1, 1) := by decide +kernel
theorem dX10_isSafe_11 : decode cX10_isSafe 11 = .ok (.ireturn, 1) := by decide +kernel
theorem dX10_isSafe_12 : decode cX10_isSafe 12 = .ok (.aload_n 0, 1) := by decide +kernel
theorem dX10_isSafe_13 : decode cX10_isSafe 13 = .ok (.getfield 32, 3) := by decide +kernel
theorem dX10_isSafe_16 : decode cX10_isSafe 16 = .ok (.bipush 7, 2) := by decide +kernel
theorem dX10_isSafe_18 : decode cX10_isSafe 18 = .ok (.iload_n 1, 1) := by decide +kernel
theorem dX10_isSafe_19 : decode cX10_isSafe 19 = .ok (.iastore, 1) := by decide +kernel
theorem dX10_isSafe_20 : decode cX10_isSafe 20 = .ok (.aload_n 0, 1) := by decide +kernel
theorem dX10_isSafe_21 : decode cX10_isSafe 21 = .ok (.getfield 32, 3) := by decide +kernel
theorem dX10_isSafe_24 : decode cX10_isSafe 24 = .ok (.bipush 8, 2) := by decide +kernel
theorem dX10_isSafe_26 : decode cX10_isSafe 26 = .ok (.iload_n 2, 1) := by decide +kernel
theorem dX10_isSafe_27 : decode cX10_isSafe 27 = .ok (.iastore, 1) := by decide +kernel
theorem dX10_isSafe_28 : decode cX10_isSafe 28 = .ok (.aload_n 0, 1) := by decide +kernel
theorem dX10_isSafe_29 : decode cX10_isSafe 29 = .ok (.getfield 32, 3) := by decide +kernel
theorem dX10_isSafe_32 : decode cX10_isSafe 32 = .ok (.bipush 9, 2) := by decide +kernel
theorem dX10_isSafe_34 : decode cX10_isSafe 34 = .ok (.aload_n 0, 1) := by decide +kernel
theorem dX10_isSafe_35 : decode cX10_isSafe 35 = .ok (.iload_n 1, 1) := by decide +kernel
theorem dX10_isSafe_36 : decode cX10_isSafe 36 = .ok (.iload_n 2, 1) := by decide +kernel
theorem dX10_isSafe_37 : decode cX10_isSafe 37 = .ok (.invokevirtual 277, 3) := by decide +kernel
theorem dX10_isSafe_40 : decode cX10_isSafe 40 = .ok (.iastore, 1) := by decide +kernel
theorem dX10_isSafe_41 : decode cX10_isSafe 41 = .ok (.aload_n 0, 1) := by decide +kernel
theorem dX10_isSafe_42 : decode cX10_isSafe 42 = .ok (.getfield 32, 3) := by decide +kernel
