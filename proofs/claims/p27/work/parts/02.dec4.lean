theorem dX10_isSafe_45 : decode cX10_isSafe 45 = .ok (.bipush 10, 2) := by decide +kernel
theorem dX10_isSafe_47 : decode cX10_isSafe 47 = .ok (.aload_n 0, 1) := by decide +kernel
theorem dX10_isSafe_48 : decode cX10_isSafe 48 = .ok (.getfield 32, 3) := by decide +kernel
theorem dX10_isSafe_51 : decode cX10_isSafe 51 = .ok (.bipush 9, 2) := by decide +kernel
theorem dX10_isSafe_53 : decode cX10_isSafe 53 = .ok (.iaload, 1) := by decide +kernel
theorem dX10_isSafe_54 : decode cX10_isSafe 54 = .ok (.invokestatic 274, 3) := by decide +kernel
theorem dX10_isSafe_57 : decode cX10_isSafe 57 = .ok (.iastore, 1) := by decide +kernel
theorem dX10_isSafe_58 : decode cX10_isSafe 58 = .ok (.aload_n 0, 1) := by decide +kernel
theorem dX10_isSafe_59 : decode cX10_isSafe 59 = .ok (.iload_n 3, 1) := by decide +kernel
theorem dX10_isSafe_60 : decode cX10_isSafe 60 = .ok (.invokevirtual 254, 3) := by decide +kernel
theorem dX10_isSafe_63 : decode cX10_isSafe 63 = .ok (.aload_n 0, 1) := by decide +kernel
theorem dX10_isSafe_64 : decode cX10_isSafe 64 = .ok (.getfield 39, 3) := by decide +kernel
theorem dX10_isSafe_67 : decode cX10_isSafe 67 = .ok (.iconst 0, 1) := by decide +kernel
theorem dX10_isSafe_68 : decode cX10_isSafe 68 = .ok (.baload, 1) := by decide +kernel
theorem dX10_isSafe_69 : decode cX10_isSafe 69 = .ok (.ireturn, 1) := by decide +kernel
theorem dX10_isSafeNow_0 : decode cX10_isSafeNow 0 = .ok (.aload_n 0, 1) := by decide +kernel
theorem dX10_isSafeNow_1 : decode cX10_isSafeNow 1 = .ok (.invokevirtual 280, 3) := by decide +kernel
theorem dX10_isSafeNow_4 : decode cX10_isSafeNow 4 = .ok (.aload_n 0, 1) := by decide +kernel
theorem dX10_isSafeNow_5 : decode cX10_isSafeNow 5 = .ok (.iconst 0, 1) := by decide +kernel
theorem dX10_isSafeNow_6 : decode cX10_isSafeNow 6 = .ok (.invokevirtual 283, 3) := by decide +kernel
theorem dX10_isSafeNow_9 : decode cX10_isSafeNow 9 = .ok (.istore_n 1, 1) := by decide +kernel
theorem dX10_isSafeNow_10 : decode cX10_isSafeNow 10 = .ok (.aload_n 0, 1) := by decide +kernel
theorem dX10_isSafeNow_11 : decode cX10_isSafeNow 11 = .ok (.iload_n 1, 1) := by decide +kernel
theorem dX10_isSafeNow_12 : decode cX10_isSafeNow 12 = .ok (.aload_n 0, 1) := by decide +kernel
theorem dX10_isSafeNow_13 : decode cX10_isSafeNow 13 = .ok (.iconst 1, 1) := by decide +kernel
theorem dX10_isSafeNow_14 : decode cX10_isSafeNow 14 = .ok (.invokevirtual 283, 3) := by decide +kernel
theorem dX10_isSafeNow_17 : decode cX10_isSafeNow 17 = .ok (.invokevirtual 286, 3) := by decide +kernel
theorem dX10_isSafeNow_20 : decode cX10_isSafeNow 20 = .ok (.ireturn, 1) := by decide +kernel
theorem dX10_of_0 : decode cX10_of 0 = .ok (.aload_n 0, 1) := by decide +kernel
theorem dX10_of_1 : decode cX10_of 1 = .ok (.iload_n 1, 1) := by decide +kernel
theorem dX10_of_2 : decode cX10_of 2 = .ok (.invokevirtual 290, 3) := by decide +kernel
theorem dX10_of_5 : decode cX10_of 5 = .ok (.ifCond .eq 12, 3) := by decide +kernel
theorem dX10_of_8 : decode cX10_of 8 = .ok (.iload_n 2, 1) := by decide +kernel
theorem dX10_of_9 : decode cX10_of 9 = .ok (.iconst 0, 1) := by decide +kernel
theorem dX10_of_10 : decode cX10_of 10 = .ok (.iconst 4, 1) := by decide +kernel
theorem dX10_of_11 : decode cX10_of 11 = .ok (.invokestatic 83, 3) := by decide +kernel
theorem dX10_of_14 : decode cX10_of 14 = .ok (.ifCond .ne 6, 3) := by decide +kernel
theorem dX10_of_17 : decode cX10_of 17 = .ok (.bipush (-2), 2) := by decide +kernel
theorem dX10_of_19 : decode cX10_of 19 = .ok (.ireturn, 1) := by decide +kernel
theorem dX10_of_20 : decode cX10_of 20 = .ok (.aload_n 0, 1) := by decide +kernel
theorem dX10_of_21 : decode cX10_of 21 = .ok (.invokevirtual 280, 3) := by decide +kernel
theorem dX10_of_24 : decode cX10_of 24 = .ok (.iload_n 2, 1) := by decide +kernel
theorem dX10_of_25 : decode cX10_of 25 = .ok (.iconst 3, 1) := by decide +kernel
theorem dX10_of_26 : decode cX10_of 26 = .ok (.if_icmp .ge 17, 3) := by decide +kernel
theorem dX10_of_29 : decode cX10_of 29 = .ok (.aload_n 0, 1) := by decide +kernel
theorem dX10_of_30 : decode cX10_of 30 = .ok (.getfield 7, 3) := by decide +kernel
theorem dX10_of_33 : decode cX10_of 33 = .ok (.iload_n 1, 1) := by decide +kernel
theorem dX10_of_34 : decode cX10_of 34 = .ok (.invokestatic 87, 3) := by decide +kernel
theorem dX10_of_37 : decode cX10_of 37 = .ok (.iload_n 2, 1) := by decide +kernel
theorem dX10_of_38 : decode cX10_of 38 = .ok (.iadd, 1) := by decide +kernel
theorem dX10_of_39 : decode cX10_of 39 = .ok (.iaload, 1) := by decide +kernel
theorem dX10_of_40 : decode cX10_of 40 = .ok (.goto 11, 3) := by decide +kernel
theorem dX10_of_43 : decode cX10_of 43 = .ok (.aload_n 0, 1) := by decide +kernel
theorem dX10_of_44 : decode cX10_of 44 = .ok (.iload_n 1, 1) := by decide +kernel
theorem dX10_of_45 : decode cX10_of 45 = .ok (.iload_n 2, 1) := by decide +kernel
theorem dX10_of_46 : decode cX10_of 46 = .ok (.iconst 3, 1) := by decide +kernel
theorem dX10_of_47 : decode cX10_of 47 = .ok (.isub, 1) := by decide +kernel
theorem dX10_of_48 : decode cX10_of 48 = .ok (.invokevirtual 271, 3) := by decide +kernel
theorem dX10_of_51 : decode cX10_of 51 = .ok (.ireturn, 1) := by decide +kernel
theorem dX10_now_0 : decode cX10_now 0 = .ok (.aload_n 0, 1) := by decide +kernel
theorem dX10_now_1 : decode cX10_now 1 = .ok (.invokevirtual 280, 3) := by decide +kernel
theorem dX10_now_4 : decode cX10_now 4 = .ok (.aload_n 0, 1) := by decide +kernel
theorem dX10_now_5 : decode cX10_now 5 = .ok (.iconst 0, 1) := by decide +kernel
theorem dX10_now_6 : decode cX10_now 6 = .ok (.invokevirtual 283, 3) := by decide +kernel
theorem dX10_now_9 : decode cX10_now 9 = .ok (.istore_n 2, 1) := by decide +kernel
theorem dX10_now_10 : decode cX10_now 10 = .ok (.aload_n 0, 1) := by decide +kernel
theorem dX10_now_11 : decode cX10_now 11 = .ok (.iconst 1, 1) := by decide +kernel
theorem dX10_now_12 : decode cX10_now 12 = .ok (.invokevirtual 283, 3) := by decide +kernel
theorem dX10_now_15 : decode cX10_now 15 = .ok (.istore_n 3, 1) := by decide +kernel
theorem dX10_now_16 : decode cX10_now 16 = .ok (.iload_n 1, 1) := by decide +kernel
theorem dX10_now_17 : decode cX10_now 17 = .ok (.tableswitch 77 0 4 #[35, 37, 39, 46, 62], 35) := by decide +kernel
theorem dX10_now_52 : decode cX10_now 52 = .ok (.iload_n 2, 1) := by decide +kernel
theorem dX10_now_53 : decode cX10_now 53 = .ok (.ireturn, 1) := by decide +kernel
theorem dX10_now_54 : decode cX10_now 54 = .ok (.iload_n 3, 1) := by decide +kernel
theorem dX10_now_55 : decode cX10_now 55 = .ok (.ireturn, 1) := by decide +kernel
theorem dX10_now_56 : decode cX10_now 56 = .ok (.aload_n 0, 1) := by decide +kernel
theorem dX10_now_57 : decode cX10_now 57 = .ok (.iload_n 2, 1) := by decide +kernel
theorem dX10_now_58 : decode cX10_now 58 = .ok (.iload_n 3, 1) := by decide +kernel
theorem dX10_now_59 : decode cX10_now 59 = .ok (.invokevirtual 277, 3) := by decide +kernel
theorem dX10_now_62 : decode cX10_now 62 = .ok (.ireturn, 1) := by decide +kernel
theorem dX10_now_63 : decode cX10_now 63 = .ok (.aload_n 0, 1) := by decide +kernel
theorem dX10_now_64 : decode cX10_now 64 = .ok (.iload_n 2, 1) := by decide +kernel
theorem dX10_now_65 : decode cX10_now 65 = .ok (.iload_n 3, 1) := by decide +kernel
theorem dX10_now_66 : decode cX10_now 66 = .ok (.invokevirtual 277, 3) := by decide +kernel
theorem dX10_now_69 : decode cX10_now 69 = .ok (.aload_n 0, 1) := by decide +kernel
theorem dX10_now_70 : decode cX10_now 70 = .ok (.getfield 7, 3) := by decide +kernel
theorem dX10_now_73 : decode cX10_now 73 = .ok (.iconst 3, 1) := by decide +kernel
theorem dX10_now_74 : decode cX10_now 74 = .ok (.iaload, 1) := by decide +kernel
theorem dX10_now_75 : decode cX10_now 75 = .ok (.invokestatic 293, 3) := by decide +kernel
theorem dX10_now_78 : decode cX10_now 78 = .ok (.ireturn, 1) := by decide +kernel
theorem dX10_now_79 : decode cX10_now 79 = .ok (.aload_n 0, 1) := by decide +kernel
theorem dX10_now_80 : decode cX10_now 80 = .ok (.iload_n 2, 1) := by decide +kernel
theorem dX10_now_81 : decode cX10_now 81 = .ok (.iload_n 3, 1) := by decide +kernel
theorem dX10_now_82 : decode cX10_now 82 = .ok (.invokevirtual 286, 3) := by decide +kernel
theorem dX10_now_85 : decode cX10_now 85 = .ok (.ifCond .eq 7, 3) := by decide +kernel
theorem dX10_now_88 : decode cX10_now 88 = .ok (.iconst 1, 1) := by decide +kernel
theorem dX10_now_89 : decode cX10_now 89 = .ok (.goto 4, 3) := by decide +kernel
theorem dX10_now_92 : decode cX10_now 92 = .ok (.iconst 0, 1) := by decide +kernel
theorem dX10_now_93 : decode cX10_now 93 = .ok (.ireturn, 1) := by decide +kernel
theorem dX10_now_94 : decode cX10_now 94 = .ok (.ldc_w 296, 3) := by decide +kernel
theorem dX10_now_97 : decode cX10_now 97 = .ok (.ireturn, 1) := by decide +kernel
theorem dX10_keep_0 : decode cX10_keep 0 = .ok (.aload_n 0, 1) := by decide +kernel
theorem dX10_keep_1 : decode cX10_keep 1 = .ok (.getfield 7, 3) := by decide +kernel
theorem dX10_keep_4 : decode cX10_keep 4 = .ok (.bipush 9, 2) := by decide +kernel
theorem dX10_keep_6 : decode cX10_keep 6 = .ok (.iaload, 1) := by decide +kernel
theorem dX10_keep_7 : decode cX10_keep 7 = .ok (.bipush 40, 2) := by decide +kernel
theorem dX10_keep_9 : decode cX10_keep 9 = .ok (.if_icmp .ne 49, 3) := by decide +kernel
theorem dX10_keep_12 : decode cX10_keep 12 = .ok (.iconst 0, 1) := by decide +kernel
theorem dX10_keep_13 : decode cX10_keep 13 = .ok (.istore_n 1, 1) := by decide +kernel
theorem dX10_keep_14 : decode cX10_keep 14 = .ok (.iload_n 1, 1) := by decide +kernel
theorem dX10_keep_15 : decode cX10_keep 15 = .ok (.sipush 546, 3) := by decide +kernel
theorem dX10_keep_18 : decode cX10_keep 18 = .ok (.if_icmp .ge 29, 3) := by decide +kernel
theorem dX10_keep_21 : decode cX10_keep 21 = .ok (.aload_n 0, 1) := by decide +kernel
theorem dX10_keep_22 : decode cX10_keep 22 = .ok (.getfield 7, 3) := by decide +kernel
theorem dX10_keep_25 : decode cX10_keep 25 = .ok (.sipush 160, 3) := by decide +kernel
theorem dX10_keep_28 : decode cX10_keep 28 = .ok (.iload_n 1, 1) := by decide +kernel
theorem dX10_keep_29 : decode cX10_keep 29 = .ok (.iadd, 1) := by decide +kernel
theorem dX10_keep_30 : decode cX10_keep 30 = .ok (.aload_n 0, 1) := by decide +kernel
theorem dX10_keep_31 : decode cX10_keep 31 = .ok (.getfield 7, 3) := by decide +kernel
theorem dX10_keep_34 : decode cX10_keep 34 = .ok (.sipush 174, 3) := by decide +kernel
theorem dX10_keep_37 : decode cX10_keep 37 = .ok (.iload_n 1, 1) := by decide +kernel
theorem dX10_keep_38 : decode cX10_keep 38 = .ok (.iadd, 1) := by decide +kernel
theorem dX10_keep_39 : decode cX10_keep 39 = .ok (.iaload, 1) := by decide +kernel
theorem dX10_keep_40 : decode cX10_keep 40 = .ok (.iastore, 1) := by decide +kernel
theorem dX10_keep_41 : decode cX10_keep 41 = .ok (.iinc 1 1, 3) := by decide +kernel
theorem dX10_keep_44 : decode cX10_keep 44 = .ok (.goto (-30), 3) := by decide +kernel
theorem dX10_keep_47 : decode cX10_keep 47 = .ok (.aload_n 0, 1) := by decide +kernel
theorem dX10_keep_48 : decode cX10_keep 48 = .ok (.getfield 7, 3) := by decide +kernel
theorem dX10_keep_51 : decode cX10_keep 51 = .ok (.bipush 9, 2) := by decide +kernel
theorem dX10_keep_53 : decode cX10_keep 53 = .ok (.dup2, 1) := by decide +kernel
theorem dX10_keep_54 : decode cX10_keep 54 = .ok (.iaload, 1) := by decide +kernel
theorem dX10_keep_55 : decode cX10_keep 55 = .ok (.iconst 1, 1) := by decide +kernel
theorem dX10_keep_56 : decode cX10_keep 56 = .ok (.isub, 1) := by decide +kernel
theorem dX10_keep_57 : decode cX10_keep 57 = .ok (.iastore, 1) := by decide +kernel
theorem dX10_keep_58 : decode cX10_keep 58 = .ok (.sipush 160, 3) := by decide +kernel
theorem dX10_keep_61 : decode cX10_keep 61 = .ok (.bipush 14, 2) := by decide +kernel
theorem dX10_keep_63 : decode cX10_keep 63 = .ok (.aload_n 0, 1) := by decide +kernel
theorem dX10_keep_64 : decode cX10_keep 64 = .ok (.getfield 7, 3) := by decide +kernel
theorem dX10_keep_67 : decode cX10_keep 67 = .ok (.bipush 9, 2) := by decide +kernel
theorem dX10_keep_69 : decode cX10_keep 69 = .ok (.iaload, 1) := by decide +kernel
theorem dX10_keep_70 : decode cX10_keep 70 = .ok (.imul, 1) := by decide +kernel
theorem dX10_keep_71 : decode cX10_keep 71 = .ok (.iadd, 1) := by decide +kernel
theorem dX10_keep_72 : decode cX10_keep 72 = .ok (.istore_n 1, 1) := by decide +kernel
theorem dX10_keep_73 : decode cX10_keep 73 = .ok (.aload_n 0, 1) := by decide +kernel
theorem dX10_keep_74 : decode cX10_keep 74 = .ok (.getfield 7, 3) := by decide +kernel
theorem dX10_keep_77 : decode cX10_keep 77 = .ok (.iload_n 1, 1) := by decide +kernel
theorem dX10_keep_78 : decode cX10_keep 78 = .ok (.aload_n 0, 1) := by decide +kernel
theorem dX10_keep_79 : decode cX10_keep 79 = .ok (.getfield 7, 3) := by decide +kernel
theorem dX10_keep_82 : decode cX10_keep 82 = .ok (.iconst 4, 1) := by decide +kernel
theorem dX10_keep_83 : decode cX10_keep 83 = .ok (.iaload, 1) := by decide +kernel
theorem dX10_keep_84 : decode cX10_keep 84 = .ok (.iastore, 1) := by decide +kernel
theorem dX10_keep_85 : decode cX10_keep 85 = .ok (.aload_n 0, 1) := by decide +kernel
theorem dX10_keep_86 : decode cX10_keep 86 = .ok (.getfield 7, 3) := by decide +kernel
theorem dX10_keep_89 : decode cX10_keep 89 = .ok (.iload_n 1, 1) := by decide +kernel
theorem dX10_keep_90 : decode cX10_keep 90 = .ok (.iconst 1, 1) := by decide +kernel
theorem dX10_keep_91 : decode cX10_keep 91 = .ok (.iadd, 1) := by decide +kernel
theorem dX10_keep_92 : decode cX10_keep 92 = .ok (.aload_n 0, 1) := by decide +kernel
theorem dX10_keep_93 : decode cX10_keep 93 = .ok (.getfield 7, 3) := by decide +kernel
theorem dX10_keep_96 : decode cX10_keep 96 = .ok (.iconst 0, 1) := by decide +kernel
theorem dX10_keep_97 : decode cX10_keep 97 = .ok (.iaload, 1) := by decide +kernel
theorem dX10_keep_98 : decode cX10_keep 98 = .ok (.iastore, 1) := by decide +kernel
theorem dX10_keep_99 : decode cX10_keep 99 = .ok (.iconst 0, 1) := by decide +kernel
theorem dX10_keep_100 : decode cX10_keep 100 = .ok (.istore_n 2, 1) := by decide +kernel
theorem dX10_keep_101 : decode cX10_keep 101 = .ok (.iload_n 2, 1) := by decide +kernel
theorem dX10_keep_102 : decode cX10_keep 102 = .ok (.bipush 12, 2) := by decide +kernel
theorem dX10_keep_104 : decode cX10_keep 104 = .ok (.if_icmp .ge 24, 3) := by decide +kernel
theorem dX10_keep_107 : decode cX10_keep 107 = .ok (.aload_n 0, 1) := by decide +kernel
theorem dX10_keep_108 : decode cX10_keep 108 = .ok (.getfield 7, 3) := by decide +kernel
theorem dX10_keep_111 : decode cX10_keep 111 = .ok (.iload_n 1, 1) := by decide +kernel
theorem dX10_keep_112 : decode cX10_keep 112 = .ok (.iconst 2, 1) := by decide +kernel
theorem dX10_keep_113 : decode cX10_keep 113 = .ok (.iadd, 1) := by decide +kernel
theorem dX10_keep_114 : decode cX10_keep 114 = .ok (.iload_n 2, 1) := by decide +kernel
theorem dX10_keep_115 : decode cX10_keep 115 = .ok (.iadd, 1) := by decide +kernel
theorem dX10_keep_116 : decode cX10_keep 116 = .ok (.aload_n 0, 1) := by decide +kernel
theorem dX10_keep_117 : decode cX10_keep 117 = .ok (.iload_n 2, 1) := by decide +kernel
theorem dX10_keep_118 : decode cX10_keep 118 = .ok (.invokevirtual 268, 3) := by decide +kernel
theorem dX10_keep_121 : decode cX10_keep 121 = .ok (.iastore, 1) := by decide +kernel
theorem dX10_keep_122 : decode cX10_keep 122 = .ok (.iinc 2 1, 3) := by decide +kernel
theorem dX10_keep_125 : decode cX10_keep 125 = .ok (.goto (-24), 3) := by decide +kernel
theorem dX10_keep_128 : decode cX10_keep 128 = .ok (.aload_n 0, 1) := by decide +kernel
theorem dX10_keep_129 : decode cX10_keep 129 = .ok (.getfield 7, 3) := by decide +kernel
theorem dX10_keep_132 : decode cX10_keep 132 = .ok (.bipush 9, 2) := by decide +kernel
theorem dX10_keep_134 : decode cX10_keep 134 = .ok (.dup2, 1) := by decide +kernel
theorem dX10_keep_135 : decode cX10_keep 135 = .ok (.iaload, 1) := by decide +kernel
theorem dX10_keep_136 : decode cX10_keep 136 = .ok (.iconst 1, 1) := by decide +kernel
theorem dX10_keep_137 : decode cX10_keep 137 = .ok (.iadd, 1) := by decide +kernel
theorem dX10_keep_138 : decode cX10_keep 138 = .ok (.iastore, 1) := by decide +kernel
theorem dX10_keep_139 : decode cX10_keep 139 = .ok (.return_, 1) := by decide +kernel
theorem dX10_undo_0 : decode cX10_undo 0 = .ok (.aload_n 0, 1) := by decide +kernel
theorem dX10_undo_1 : decode cX10_undo 1 = .ok (.getfield 7, 3) := by decide +kernel
theorem dX10_undo_4 : decode cX10_undo 4 = .ok (.bipush 9, 2) := by decide +kernel
theorem dX10_undo_6 : decode cX10_undo 6 = .ok (.iaload, 1) := by decide +kernel
theorem dX10_undo_7 : decode cX10_undo 7 = .ok (.ifCond .ne 5, 3) := by decide +kernel
theorem dX10_undo_10 : decode cX10_undo 10 = .ok (.iconst (-1), 1) := by decide +kernel
theorem dX10_undo_11 : decode cX10_undo 11 = .ok (.ireturn, 1) := by decide +kernel
theorem dX10_undo_12 : decode cX10_undo 12 = .ok (.aload_n 0, 1) := by decide +kernel
theorem dX10_undo_13 : decode cX10_undo 13 = .ok (.getfield 7, 3) := by decide +kernel
theorem dX10_undo_16 : decode cX10_undo 16 = .ok (.bipush 9, 2) := by decide +kernel
theorem dX10_undo_18 : decode cX10_undo 18 = .ok (.dup2, 1) := by decide +kernel
theorem dX10_undo_19 : decode cX10_undo 19 = .ok (.iaload, 1) := by decide +kernel
theorem dX10_undo_20 : decode cX10_undo 20 = .ok (.iconst 1, 1) := by decide +kernel
theorem dX10_undo_21 : decode cX10_undo 21 = .ok (.isub, 1) := by decide +kernel
theorem dX10_undo_22 : decode cX10_undo 22 = .ok (.iastore, 1) := by decide +kernel
theorem dX10_undo_23 : decode cX10_undo 23 = .ok (.sipush 160, 3) := by decide +kernel
theorem dX10_undo_26 : decode cX10_undo 26 = .ok (.bipush 14, 2) := by decide +kernel
theorem dX10_undo_28 : decode cX10_undo 28 = .ok (.aload_n 0, 1) := by decide +kernel
theorem dX10_undo_29 : decode cX10_undo 29 = .ok (.getfield 7, 3) := by decide +kernel
theorem dX10_undo_32 : decode cX10_undo 32 = .ok (.bipush 9, 2) := by decide +kernel
theorem dX10_undo_34 : decode cX10_undo 34 = .ok (.iaload, 1) := by decide +kernel
theorem dX10_undo_35 : decode cX10_undo 35 = .ok (.imul, 1) := by decide +kernel
theorem dX10_undo_36 : decode cX10_undo 36 = .ok (.iadd, 1) := by decide +kernel
theorem dX10_undo_37 : decode cX10_undo 37 = .ok (.istore_n 1, 1) := by decide +kernel
theorem dX10_undo_38 : decode cX10_undo 38 = .ok (.aload_n 0, 1) := by decide +kernel
theorem dX10_undo_39 : decode cX10_undo 39 = .ok (.getfield 7, 3) := by decide +kernel
theorem dX10_undo_42 : decode cX10_undo 42 = .ok (.iconst 4, 1) := by decide +kernel
theorem dX10_undo_43 : decode cX10_undo 43 = .ok (.aload_n 0, 1) := by decide +kernel
theorem dX10_undo_44 : decode cX10_undo 44 = .ok (.getfield 7, 3) := by decide +kernel
theorem dX10_undo_47 : decode cX10_undo 47 = .ok (.iload_n 1, 1) := by decide +kernel
theorem dX10_undo_48 : decode cX10_undo 48 = .ok (.iaload, 1) := by decide +kernel
theorem dX10_undo_49 : decode cX10_undo 49 = .ok (.iastore, 1) := by decide +kernel
theorem dX10_undo_50 : decode cX10_undo 50 = .ok (.iconst 0, 1) := by decide +kernel
theorem dX10_undo_51 : decode cX10_undo 51 = .ok (.istore_n 2, 1) := by decide +kernel
theorem dX10_undo_52 : decode cX10_undo 52 = .ok (.iload_n 2, 1) := by decide +kernel
theorem dX10_undo_53 : decode cX10_undo 53 = .ok (.aload_n 0, 1) := by decide +kernel
theorem dX10_undo_54 : decode cX10_undo 54 = .ok (.getfield 7, 3) := by decide +kernel
theorem dX10_undo_57 : decode cX10_undo 57 = .ok (.iload_n 1, 1) := by decide +kernel
theorem dX10_undo_58 : decode cX10_undo 58 = .ok (.iconst 1, 1) := by decide +kernel
theorem dX10_undo_59 : decode cX10_undo 59 = .ok (.iadd, 1) := by decide +kernel
theorem dX10_undo_60 : decode cX10_undo 60 = .ok (.iaload, 1) := by decide +kernel
theorem dX10_undo_61 : decode cX10_undo 61 = .ok (.if_icmp .ge 30, 3) := by decide +kernel
theorem dX10_undo_64 : decode cX10_undo 64 = .ok (.aload_n 0, 1) := by decide +kernel
theorem dX10_undo_65 : decode cX10_undo 65 = .ok (.getfield 7, 3) := by decide +kernel
theorem dX10_undo_68 : decode cX10_undo 68 = .ok (.iload_n 2, 1) := by decide +kernel
theorem dX10_undo_69 : decode cX10_undo 69 = .ok (.invokestatic 87, 3) := by decide +kernel
theorem dX10_undo_72 : decode cX10_undo 72 = .ok (.iconst 2, 1) := by decide +kernel
theorem dX10_undo_73 : decode cX10_undo 73 = .ok (.iadd, 1) := by decide +kernel
theorem dX10_undo_74 : decode cX10_undo 74 = .ok (.aload_n 0, 1) := by decide +kernel
theorem dX10_undo_75 : decode cX10_undo 75 = .ok (.getfield 7, 3) := by decide +kernel
theorem dX10_undo_78 : decode cX10_undo 78 = .ok (.iload_n 1, 1) := by decide +kernel
theorem dX10_undo_79 : decode cX10_undo 79 = .ok (.iconst 2, 1) := by decide +kernel
theorem dX10_undo_80 : decode cX10_undo 80 = .ok (.iadd, 1) := by decide +kernel
theorem dX10_undo_81 : decode cX10_undo 81 = .ok (.iload_n 2, 1) := by decide +kernel
theorem dX10_undo_82 : decode cX10_undo 82 = .ok (.iadd, 1) := by decide +kernel
theorem dX10_undo_83 : decode cX10_undo 83 = .ok (.iaload, 1) := by decide +kernel
theorem dX10_undo_84 : decode cX10_undo 84 = .ok (.iastore, 1) := by decide +kernel
theorem dX10_undo_85 : decode cX10_undo 85 = .ok (.iinc 2 1, 3) := by decide +kernel
theorem dX10_undo_88 : decode cX10_undo 88 = .ok (.goto (-36), 3) := by decide +kernel
theorem dX10_undo_91 : decode cX10_undo 91 = .ok (.aload_n 0, 1) := by decide +kernel
theorem dX10_undo_92 : decode cX10_undo 92 = .ok (.getfield 7, 3) := by decide +kernel
theorem dX10_undo_95 : decode cX10_undo 95 = .ok (.bipush 9, 2) := by decide +kernel
theorem dX10_undo_97 : decode cX10_undo 97 = .ok (.iaload, 1) := by decide +kernel
theorem dX10_undo_98 : decode cX10_undo 98 = .ok (.ireturn, 1) := by decide +kernel
theorem dX10_lays_0 : decode cX10_lays 0 = .ok (.aload_n 0, 1) := by decide +kernel
theorem dX10_lays_1 : decode cX10_lays 1 = .ok (.iload_n 1, 1) := by decide +kernel
theorem dX10_lays_2 : decode cX10_lays 2 = .ok (.invokevirtual 268, 3) := by decide +kernel
theorem dX10_lays_5 : decode cX10_lays 5 = .ok (.istore_n 3, 1) := by decide +kernel
theorem dX10_lays_6 : decode cX10_lays 6 = .ok (.aload_n 0, 1) := by decide +kernel
theorem dX10_lays_7 : decode cX10_lays 7 = .ok (.getfield 7, 3) := by decide +kernel
theorem dX10_lays_10 : decode cX10_lays 10 = .ok (.iload_n 1, 1) := by decide +kernel
theorem dX10_lays_11 : decode cX10_lays 11 = .ok (.invokestatic 87, 3) := by decide +kernel
theorem dX10_lays_14 : decode cX10_lays 14 = .ok (.iconst 2, 1) := by decide +kernel
theorem dX10_lays_15 : decode cX10_lays 15 = .ok (.iadd, 1) := by decide +kernel
theorem dX10_lays_16 : decode cX10_lays 16 = .ok (.iload_n 2, 1) := by decide +kernel
theorem dX10_lays_17 : decode cX10_lays 17 = .ok (.iastore, 1) := by decide +kernel
theorem dX10_lays_18 : decode cX10_lays 18 = .ok (.aload_n 0, 1) := by decide +kernel
theorem dX10_lays_19 : decode cX10_lays 19 = .ok (.invokevirtual 297, 3) := by decide +kernel
theorem dX10_lays_22 : decode cX10_lays 22 = .ok (.istore 4, 2) := by decide +kernel
theorem dX10_lays_24 : decode cX10_lays 24 = .ok (.aload_n 0, 1) := by decide +kernel
theorem dX10_lays_25 : decode cX10_lays 25 = .ok (.getfield 7, 3) := by decide +kernel
theorem dX10_lays_28 : decode cX10_lays 28 = .ok (.iload_n 1, 1) := by decide +kernel
theorem dX10_lays_29 : decode cX10_lays 29 = .ok (.invokestatic 87, 3) := by decide +kernel
theorem dX10_lays_32 : decode cX10_lays 32 = .ok (.iconst 2, 1) := by decide +kernel
theorem dX10_lays_33 : decode cX10_lays 33 = .ok (.iadd, 1) := by decide +kernel
theorem dX10_lays_34 : decode cX10_lays 34 = .ok (.iload_n 3, 1) := by decide +kernel
theorem dX10_lays_35 : decode cX10_lays 35 = .ok (.iastore, 1) := by decide +kernel
theorem dX10_lays_36 : decode cX10_lays 36 = .ok (.iload 4, 2) := by decide +kernel
theorem dX10_lays_38 : decode cX10_lays 38 = .ok (.ifCond .ne 5, 3) := by decide +kernel
theorem dX10_lays_41 : decode cX10_lays 41 = .ok (.iconst 0, 1) := by decide +kernel
theorem dX10_lays_42 : decode cX10_lays 42 = .ok (.ireturn, 1) := by decide +kernel
theorem dX10_lays_43 : decode cX10_lays 43 = .ok (.aload_n 0, 1) := by decide +kernel
theorem dX10_lays_44 : decode cX10_lays 44 = .ok (.invokevirtual 300, 3) := by decide +kernel
theorem dX10_lays_47 : decode cX10_lays 47 = .ok (.aload_n 0, 1) := by decide +kernel
theorem dX10_lays_48 : decode cX10_lays 48 = .ok (.getfield 7, 3) := by decide +kernel
theorem dX10_lays_51 : decode cX10_lays 51 = .ok (.iload_n 1, 1) := by decide +kernel
theorem dX10_lays_52 : decode cX10_lays 52 = .ok (.invokestatic 87, 3) := by decide +kernel
theorem dX10_lays_55 : decode cX10_lays 55 = .ok (.iconst 2, 1) := by decide +kernel
theorem dX10_lays_56 : decode cX10_lays 56 = .ok (.iadd, 1) := by decide +kernel
theorem dX10_lays_57 : decode cX10_lays 57 = .ok (.iload_n 2, 1) := by decide +kernel
theorem dX10_lays_58 : decode cX10_lays 58 = .ok (.iastore, 1) := by decide +kernel
theorem dX10_lays_59 : decode cX10_lays 59 = .ok (.iconst 1, 1) := by decide +kernel
theorem dX10_lays_60 : decode cX10_lays 60 = .ok (.ireturn, 1) := by decide +kernel
theorem dX10_put_0 : decode cX10_put 0 = .ok (.aload_n 0, 1) := by decide +kernel
theorem dX10_put_1 : decode cX10_put 1 = .ok (.iload_n 1, 1) := by decide +kernel
theorem dX10_put_2 : decode cX10_put 2 = .ok (.invokevirtual 290, 3) := by decide +kernel
theorem dX10_put_5 : decode cX10_put 5 = .ok (.ifCond .eq 29, 3) := by decide +kernel
theorem dX10_put_8 : decode cX10_put 8 = .ok (.iload_n 2, 1) := by decide +kernel
theorem dX10_put_9 : decode cX10_put 9 = .ok (.iconst 0, 1) := by decide +kernel
theorem dX10_put_10 : decode cX10_put 10 = .ok (.iconst 1, 1) := by decide +kernel
theorem dX10_put_11 : decode cX10_put 11 = .ok (.invokestatic 83, 3) := by decide +kernel
theorem dX10_put_14 : decode cX10_put 14 = .ok (.ifCond .eq 20, 3) := by decide +kernel
theorem dX10_put_17 : decode cX10_put 17 = .ok (.aload_n 0, 1) := by decide +kernel
theorem dX10_put_18 : decode cX10_put 18 = .ok (.iload_n 1, 1) := by decide +kernel
theorem dX10_put_19 : decode cX10_put 19 = .ok (.invokevirtual 268, 3) := by decide +kernel
theorem dX10_put_22 : decode cX10_put 22 = .ok (.ifCond .ge 12, 3) := by decide +kernel
theorem dX10_put_25 : decode cX10_put 25 = .ok (.aload_n 0, 1) := by decide +kernel
theorem dX10_put_26 : decode cX10_put 26 = .ok (.iload_n 1, 1) := by decide +kernel
theorem dX10_put_27 : decode cX10_put 27 = .ok (.iload_n 2, 1) := by decide +kernel
theorem dX10_put_28 : decode cX10_put 28 = .ok (.invokevirtual 303, 3) := by decide +kernel
theorem dX10_put_31 : decode cX10_put 31 = .ok (.ifCond .ne 5, 3) := by decide +kernel
theorem dX10_put_34 : decode cX10_put 34 = .ok (.iconst (-1), 1) := by decide +kernel
theorem dX10_put_35 : decode cX10_put 35 = .ok (.ireturn, 1) := by decide +kernel
theorem dX10_put_36 : decode cX10_put 36 = .ok (.aload_n 0, 1) := by decide +kernel
theorem dX10_put_37 : decode cX10_put 37 = .ok (.invokevirtual 280, 3) := by decide +kernel
theorem dX10_put_40 : decode cX10_put 40 = .ok (.aload_n 0, 1) := by decide +kernel
theorem dX10_put_41 : decode cX10_put 41 = .ok (.iload_n 2, 1) := by decide +kernel
theorem dX10_put_42 : decode cX10_put 42 = .ok (.invokevirtual 283, 3) := by decide +kernel
theorem dX10_put_45 : decode cX10_put 45 = .ok (.ireturn, 1) := by decide +kernel
theorem dX10_take_0 : decode cX10_take 0 = .ok (.aload_n 0, 1) := by decide +kernel
theorem dX10_take_1 : decode cX10_take 1 = .ok (.iload_n 1, 1) := by decide +kernel
theorem dX10_take_2 : decode cX10_take 2 = .ok (.invokevirtual 290, 3) := by decide +kernel
theorem dX10_take_5 : decode cX10_take 5 = .ok (.ifCond .eq 11, 3) := by decide +kernel
theorem dX10_take_8 : decode cX10_take 8 = .ok (.aload_n 0, 1) := by decide +kernel
theorem dX10_take_9 : decode cX10_take 9 = .ok (.iload_n 1, 1) := by decide +kernel
theorem dX10_take_10 : decode cX10_take 10 = .ok (.invokevirtual 268, 3) := by decide +kernel
theorem dX10_take_13 : decode cX10_take 13 = .ok (.ifCond .ge 5, 3) := by decide +kernel
theorem dX10_take_16 : decode cX10_take 16 = .ok (.iconst (-1), 1) := by decide +kernel
theorem dX10_take_17 : decode cX10_take 17 = .ok (.ireturn, 1) := by decide +kernel
theorem dX10_take_18 : decode cX10_take 18 = .ok (.aload_n 0, 1) := by decide +kernel
theorem dX10_take_19 : decode cX10_take 19 = .ok (.iload_n 1, 1) := by decide +kernel
theorem dX10_take_20 : decode cX10_take 20 = .ok (.invokevirtual 268, 3) := by decide +kernel
theorem dX10_take_23 : decode cX10_take 23 = .ok (.istore_n 2, 1) := by decide +kernel
theorem dX10_take_24 : decode cX10_take 24 = .ok (.aload_n 0, 1) := by decide +kernel
theorem dX10_take_25 : decode cX10_take 25 = .ok (.iload_n 1, 1) := by decide +kernel
theorem dX10_take_26 : decode cX10_take 26 = .ok (.iconst (-1), 1) := by decide +kernel
theorem dX10_take_27 : decode cX10_take 27 = .ok (.invokevirtual 303, 3) := by decide +kernel
theorem dX10_take_30 : decode cX10_take 30 = .ok (.ifCond .eq 7, 3) := by decide +kernel
theorem dX10_take_33 : decode cX10_take 33 = .ok (.iload_n 2, 1) := by decide +kernel
theorem dX10_take_34 : decode cX10_take 34 = .ok (.goto 4, 3) := by decide +kernel
theorem dX10_take_37 : decode cX10_take 37 = .ok (.iconst (-1), 1) := by decide +kernel
theorem dX10_take_38 : decode cX10_take 38 = .ok (.ireturn, 1) := by decide +kernel
theorem dX10_pass_0 : decode cX10_pass 0 = .ok (.iload_n 1, 1) := by decide +kernel
theorem dX10_pass_1 : decode cX10_pass 1 = .ok (.iconst 0, 1) := by decide +kernel
theorem dX10_pass_2 : decode cX10_pass 2 = .ok (.bipush 99, 2) := by decide +kernel
theorem dX10_pass_4 : decode cX10_pass 4 = .ok (.invokestatic 83, 3) := by decide +kernel
theorem dX10_pass_7 : decode cX10_pass 7 = .ok (.ifCond .ne 5, 3) := by decide +kernel
theorem dX10_pass_10 : decode cX10_pass 10 = .ok (.iconst (-1), 1) := by decide +kernel
theorem dX10_pass_11 : decode cX10_pass 11 = .ok (.ireturn, 1) := by decide +kernel
theorem dX10_pass_12 : decode cX10_pass 12 = .ok (.aload_n 0, 1) := by decide +kernel
theorem dX10_pass_13 : decode cX10_pass 13 = .ok (.invokevirtual 300, 3) := by decide +kernel
theorem dX10_pass_16 : decode cX10_pass 16 = .ok (.aload_n 0, 1) := by decide +kernel
theorem dX10_pass_17 : decode cX10_pass 17 = .ok (.getfield 7, 3) := by decide +kernel
theorem dX10_pass_20 : decode cX10_pass 20 = .ok (.iconst 4, 1) := by decide +kernel
theorem dX10_pass_21 : decode cX10_pass 21 = .ok (.aload_n 0, 1) := by decide +kernel
theorem dX10_pass_22 : decode cX10_pass 22 = .ok (.getfield 7, 3) := by decide +kernel
theorem dX10_pass_25 : decode cX10_pass 25 = .ok (.iconst 4, 1) := by decide +kernel
theorem dX10_pass_26 : decode cX10_pass 26 = .ok (.iaload, 1) := by decide +kernel
theorem dX10_pass_27 : decode cX10_pass 27 = .ok (.iload_n 1, 1) := by decide +kernel
theorem dX10_pass_28 : decode cX10_pass 28 = .ok (.iadd, 1) := by decide +kernel
theorem dX10_pass_29 : decode cX10_pass 29 = .ok (.bipush 24, 2) := by decide +kernel
theorem dX10_pass_31 : decode cX10_pass 31 = .ok (.irem, 1) := by decide +kernel
theorem dX10_pass_32 : decode cX10_pass 32 = .ok (.iastore, 1) := by decide +kernel
theorem dX10_pass_33 : decode cX10_pass 33 = .ok (.aload_n 0, 1) := by decide +kernel
theorem dX10_pass_34 : decode cX10_pass 34 = .ok (.getfield 7, 3) := by decide +kernel
theorem dX10_pass_37 : decode cX10_pass 37 = .ok (.iconst 4, 1) := by decide +kernel
theorem dX10_pass_38 : decode cX10_pass 38 = .ok (.iaload, 1) := by decide +kernel
theorem dX10_pass_39 : decode cX10_pass 39 = .ok (.ireturn, 1) := by decide +kernel
theorem dX10_isPlayed_0 : decode cX10_isPlayed 0 = .ok (.aload_n 0, 1) := by decide +kernel
theorem dX10_isPlayed_1 : decode cX10_isPlayed 1 = .ok (.getfield 16, 3) := by decide +kernel
theorem dX10_isPlayed_4 : decode cX10_isPlayed 4 = .ok (.iload_n 1, 1) := by decide +kernel
theorem dX10_isPlayed_5 : decode cX10_isPlayed 5 = .ok (.iaload, 1) := by decide +kernel
theorem dX10_isPlayed_6 : decode cX10_isPlayed 6 = .ok (.tableswitch 97 2 4 #[26, 55, 76], 26) := by decide +kernel
theorem dX10_isPlayed_32 : decode cX10_isPlayed 32 = .ok (.aload_n 0, 1) := by decide +kernel
theorem dX10_isPlayed_33 : decode cX10_isPlayed 33 = .ok (.aload_n 0, 1) := by decide +kernel
theorem dX10_isPlayed_34 : decode cX10_isPlayed 34 = .ok (.getfield 16, 3) := by decide +kernel
theorem dX10_isPlayed_37 : decode cX10_isPlayed 37 = .ok (.iload_n 1, 1) := by decide +kernel
theorem dX10_isPlayed_38 : decode cX10_isPlayed 38 = .ok (.iconst 1, 1) := by decide +kernel
theorem dX10_isPlayed_39 : decode cX10_isPlayed 39 = .ok (.iadd, 1) := by decide +kernel
theorem dX10_isPlayed_40 : decode cX10_isPlayed 40 = .ok (.iaload, 1) := by decide +kernel
theorem dX10_isPlayed_41 : decode cX10_isPlayed 41 = .ok (.aload_n 0, 1) := by decide +kernel
theorem dX10_isPlayed_42 : decode cX10_isPlayed 42 = .ok (.getfield 16, 3) := by decide +kernel
theorem dX10_isPlayed_45 : decode cX10_isPlayed 45 = .ok (.iload_n 1, 1) := by decide +kernel
theorem dX10_isPlayed_46 : decode cX10_isPlayed 46 = .ok (.iconst 2, 1) := by decide +kernel
theorem dX10_isPlayed_47 : decode cX10_isPlayed 47 = .ok (.iadd, 1) := by decide +kernel
theorem dX10_isPlayed_48 : decode cX10_isPlayed 48 = .ok (.iaload, 1) := by decide +kernel
theorem dX10_isPlayed_49 : decode cX10_isPlayed 49 = .ok (.invokevirtual 306, 3) := by decide +kernel
theorem dX10_isPlayed_52 : decode cX10_isPlayed 52 = .ok (.ifCond .lt 7, 3) := by decide +kernel
theorem dX10_isPlayed_55 : decode cX10_isPlayed 55 = .ok (.iconst 1, 1) := by decide +kernel
theorem dX10_isPlayed_56 : decode cX10_isPlayed 56 = .ok (.goto 4, 3) := by decide +kernel
theorem dX10_isPlayed_59 : decode cX10_isPlayed 59 = .ok (.iconst 0, 1) := by decide +kernel
theorem dX10_isPlayed_60 : decode cX10_isPlayed 60 = .ok (.ireturn, 1) := by decide +kernel
theorem dX10_isPlayed_61 : decode cX10_isPlayed 61 = .ok (.aload_n 0, 1) := by decide +kernel
theorem dX10_isPlayed_62 : decode cX10_isPlayed 62 = .ok (.aload_n 0, 1) := by decide +kernel
theorem dX10_isPlayed_63 : decode cX10_isPlayed 63 = .ok (.getfield 16, 3) := by decide +kernel
theorem dX10_isPlayed_66 : decode cX10_isPlayed 66 = .ok (.iload_n 1, 1) := by decide +kernel
theorem dX10_isPlayed_67 : decode cX10_isPlayed 67 = .ok (.iconst 1, 1) := by decide +kernel
theorem dX10_isPlayed_68 : decode cX10_isPlayed 68 = .ok (.iadd, 1) := by decide +kernel
theorem dX10_isPlayed_69 : decode cX10_isPlayed 69 = .ok (.iaload, 1) := by decide +kernel
theorem dX10_isPlayed_70 : decode cX10_isPlayed 70 = .ok (.invokevirtual 309, 3) := by decide +kernel
theorem dX10_isPlayed_73 : decode cX10_isPlayed 73 = .ok (.ifCond .lt 7, 3) := by decide +kernel
theorem dX10_isPlayed_76 : decode cX10_isPlayed 76 = .ok (.iconst 1, 1) := by decide +kernel
theorem dX10_isPlayed_77 : decode cX10_isPlayed 77 = .ok (.goto 4, 3) := by decide +kernel
theorem dX10_isPlayed_80 : decode cX10_isPlayed 80 = .ok (.iconst 0, 1) := by decide +kernel
theorem dX10_isPlayed_81 : decode cX10_isPlayed 81 = .ok (.ireturn, 1) := by decide +kernel
theorem dX10_isPlayed_82 : decode cX10_isPlayed 82 = .ok (.aload_n 0, 1) := by decide +kernel
theorem dX10_isPlayed_83 : decode cX10_isPlayed 83 = .ok (.aload_n 0, 1) := by decide +kernel
theorem dX10_isPlayed_84 : decode cX10_isPlayed 84 = .ok (.getfield 16, 3) := by decide +kernel
theorem dX10_isPlayed_87 : decode cX10_isPlayed 87 = .ok (.iload_n 1, 1) := by decide +kernel
theorem dX10_isPlayed_88 : decode cX10_isPlayed 88 = .ok (.iconst 1, 1) := by decide +kernel
theorem dX10_isPlayed_89 : decode cX10_isPlayed 89 = .ok (.iadd, 1) := by decide +kernel
theorem dX10_isPlayed_90 : decode cX10_isPlayed 90 = .ok (.iaload, 1) := by decide +kernel
theorem dX10_isPlayed_91 : decode cX10_isPlayed 91 = .ok (.invokevirtual 312, 3) := by decide +kernel
theorem dX10_isPlayed_94 : decode cX10_isPlayed 94 = .ok (.ifCond .lt 7, 3) := by decide +kernel
theorem dX10_isPlayed_97 : decode cX10_isPlayed 97 = .ok (.iconst 1, 1) := by decide +kernel
theorem dX10_isPlayed_98 : decode cX10_isPlayed 98 = .ok (.goto 4, 3) := by decide +kernel
theorem dX10_isPlayed_101 : decode cX10_isPlayed 101 = .ok (.iconst 0, 1) := by decide +kernel
theorem dX10_isPlayed_102 : decode cX10_isPlayed 102 = .ok (.ireturn, 1) := by decide +kernel
theorem dX10_isPlayed_103 : decode cX10_isPlayed 103 = .ok (.iconst 1, 1) := by decide +kernel
theorem dX10_isPlayed_104 : decode cX10_isPlayed 104 = .ok (.ireturn, 1) := by decide +kernel
theorem dX10_played_0 : decode cX10_played 0 = .ok (.iload_n 1, 1) := by decide +kernel
theorem dX10_played_1 : decode cX10_played 1 = .ok (.iconst 0, 1) := by decide +kernel
theorem dX10_played_2 : decode cX10_played 2 = .ok (.aload_n 0, 1) := by decide +kernel
theorem dX10_played_3 : decode cX10_played 3 = .ok (.getfield 7, 3) := by decide +kernel
theorem dX10_played_6 : decode cX10_played 6 = .ok (.bipush 7, 2) := by decide +kernel
theorem dX10_played_8 : decode cX10_played 8 = .ok (.iaload, 1) := by decide +kernel
theorem dX10_played_9 : decode cX10_played 9 = .ok (.iconst 1, 1) := by decide +kernel
theorem dX10_played_10 : decode cX10_played 10 = .ok (.isub, 1) := by decide +kernel
theorem dX10_played_11 : decode cX10_played 11 = .ok (.invokestatic 83, 3) := by decide +kernel
theorem dX10_played_14 : decode cX10_played 14 = .ok (.ifCond .ne 6, 3) := by decide +kernel
theorem dX10_played_17 : decode cX10_played 17 = .ok (.bipush (-2), 2) := by decide +kernel
theorem dX10_played_19 : decode cX10_played 19 = .ok (.ireturn, 1) := by decide +kernel
theorem dX10_played_20 : decode cX10_played 20 = .ok (.iconst 0, 1) := by decide +kernel
theorem dX10_played_21 : decode cX10_played 21 = .ok (.istore_n 2, 1) := by decide +kernel
theorem dX10_played_22 : decode cX10_played 22 = .ok (.iload_n 2, 1) := by decide +kernel
theorem dX10_played_23 : decode cX10_played 23 = .ok (.aload_n 0, 1) := by decide +kernel
theorem dX10_played_24 : decode cX10_played 24 = .ok (.getfield 16, 3) := by decide +kernel
theorem dX10_played_27 : decode cX10_played 27 = .ok (.sipush 680, 3) := by decide +kernel
theorem dX10_played_30 : decode cX10_played 30 = .ok (.iload_n 1, 1) := by decide +kernel
theorem dX10_played_31 : decode cX10_played 31 = .ok (.imul, 1) := by decide +kernel
theorem dX10_played_32 : decode cX10_played 32 = .ok (.iaload, 1) := by decide +kernel
theorem dX10_played_33 : decode cX10_played 33 = .ok (.if_icmp .ge 29, 3) := by decide +kernel
theorem dX10_played_36 : decode cX10_played 36 = .ok (.aload_n 0, 1) := by decide +kernel
theorem dX10_played_37 : decode cX10_played 37 = .ok (.sipush 680, 3) := by decide +kernel
theorem dX10_played_40 : decode cX10_played 40 = .ok (.iload_n 1, 1) := by decide +kernel
theorem dX10_played_41 : decode cX10_played 41 = .ok (.imul, 1) := by decide +kernel
theorem dX10_played_42 : decode cX10_played 42 = .ok (.iconst 1, 1) := by decide +kernel
theorem dX10_played_43 : decode cX10_played 43 = .ok (.iadd, 1) := by decide +kernel
theorem dX10_played_44 : decode cX10_played 44 = .ok (.iconst 3, 1) := by decide +kernel
theorem dX10_played_45 : decode cX10_played 45 = .ok (.iload_n 2, 1) := by decide +kernel
theorem dX10_played_46 : decode cX10_played 46 = .ok (.imul, 1) := by decide +kernel
theorem dX10_played_47 : decode cX10_played 47 = .ok (.iadd, 1) := by decide +kernel
theorem dX10_played_48 : decode cX10_played 48 = .ok (.invokevirtual 315, 3) := by decide +kernel
theorem dX10_played_51 : decode cX10_played 51 = .ok (.ifCond .ne 5, 3) := by decide +kernel
theorem dX10_played_54 : decode cX10_played 54 = .ok (.iload_n 2, 1) := by decide +kernel
theorem dX10_played_55 : decode cX10_played 55 = .ok (.ireturn, 1) := by decide +kernel
theorem dX10_played_56 : decode cX10_played 56 = .ok (.iinc 2 1, 3) := by decide +kernel
theorem dX10_played_59 : decode cX10_played 59 = .ok (.goto (-37), 3) := by decide +kernel
theorem dX10_played_62 : decode cX10_played 62 = .ok (.iconst (-1), 1) := by decide +kernel
theorem dX10_played_63 : decode cX10_played 63 = .ok (.ireturn, 1) := by decide +kernel
theorem dX10_areAsked_0 : decode cX10_areAsked 0 = .ok (.iload_n 1, 1) := by decide +kernel
theorem dX10_areAsked_1 : decode cX10_areAsked 1 = .ok (.iconst 0, 1) := by decide +kernel
theorem dX10_areAsked_2 : decode cX10_areAsked 2 = .ok (.iconst 1, 1) := by decide +kernel
theorem dX10_areAsked_3 : decode cX10_areAsked 3 = .ok (.aload_n 0, 1) := by decide +kernel
theorem dX10_areAsked_4 : decode cX10_areAsked 4 = .ok (.getfield 7, 3) := by decide +kernel
theorem dX10_areAsked_7 : decode cX10_areAsked 7 = .ok (.iconst 0, 1) := by decide +kernel
theorem dX10_areAsked_8 : decode cX10_areAsked 8 = .ok (.iaload, 1) := by decide +kernel
theorem dX10_areAsked_9 : decode cX10_areAsked 9 = .ok (.ishl, 1) := by decide +kernel
theorem dX10_areAsked_10 : decode cX10_areAsked 10 = .ok (.iconst 1, 1) := by decide +kernel
theorem dX10_areAsked_11 : decode cX10_areAsked 11 = .ok (.isub, 1) := by decide +kernel
theorem dX10_areAsked_12 : decode cX10_areAsked 12 = .ok (.invokestatic 83, 3) := by decide +kernel
theorem dX10_areAsked_15 : decode cX10_areAsked 15 = .ok (.ifCond .eq 31, 3) := by decide +kernel
theorem dX10_areAsked_18 : decode cX10_areAsked 18 = .ok (.iload_n 2, 1) := by decide +kernel
theorem dX10_areAsked_19 : decode cX10_areAsked 19 = .ok (.iconst 0, 1) := by decide +kernel
theorem dX10_areAsked_20 : decode cX10_areAsked 20 = .ok (.sipush 4095, 3) := by decide +kernel
theorem dX10_areAsked_23 : decode cX10_areAsked 23 = .ok (.invokestatic 83, 3) := by decide +kernel
theorem dX10_areAsked_26 : decode cX10_areAsked 26 = .ok (.ifCond .eq 20, 3) := by decide +kernel
theorem dX10_areAsked_29 : decode cX10_areAsked 29 = .ok (.iload_n 2, 1) := by decide +kernel
theorem dX10_areAsked_30 : decode cX10_areAsked 30 = .ok (.iload_n 1, 1) := by decide +kernel
theorem dX10_areAsked_31 : decode cX10_areAsked 31 = .ok (.iconst (-1), 1) := by decide +kernel
theorem dX10_areAsked_32 : decode cX10_areAsked 32 = .ok (.ixor, 1) := by decide +kernel
theorem dX10_areAsked_33 : decode cX10_areAsked 33 = .ok (.iand, 1) := by decide +kernel
theorem dX10_areAsked_34 : decode cX10_areAsked 34 = .ok (.ifCond .ne 12, 3) := by decide +kernel
theorem dX10_areAsked_37 : decode cX10_areAsked 37 = .ok (.iload_n 1, 1) := by decide +kernel
theorem dX10_areAsked_38 : decode cX10_areAsked 38 = .ok (.invokestatic 318, 3) := by decide +kernel
theorem dX10_areAsked_41 : decode cX10_areAsked 41 = .ok (.bipush 10, 2) := by decide +kernel
theorem dX10_areAsked_43 : decode cX10_areAsked 43 = .ok (.if_icmp .le 5, 3) := by decide +kernel
theorem dX10_areAsked_46 : decode cX10_areAsked 46 = .ok (.iconst 0, 1) := by decide +kernel
theorem dX10_areAsked_47 : decode cX10_areAsked 47 = .ok (.ireturn, 1) := by decide +kernel
theorem dX10_areAsked_48 : decode cX10_areAsked 48 = .ok (.iconst 0, 1) := by decide +kernel
theorem dX10_areAsked_49 : decode cX10_areAsked 49 = .ok (.istore_n 3, 1) := by decide +kernel
theorem dX10_areAsked_50 : decode cX10_areAsked 50 = .ok (.iload_n 3, 1) := by decide +kernel
theorem dX10_areAsked_51 : decode cX10_areAsked 51 = .ok (.aload_n 0, 1) := by decide +kernel
theorem dX10_areAsked_52 : decode cX10_areAsked 52 = .ok (.getfield 7, 3) := by decide +kernel
theorem dX10_areAsked_55 : decode cX10_areAsked 55 = .ok (.iconst 0, 1) := by decide +kernel
theorem dX10_areAsked_56 : decode cX10_areAsked 56 = .ok (.iaload, 1) := by decide +kernel
theorem dX10_areAsked_57 : decode cX10_areAsked 57 = .ok (.if_icmp .ge 27, 3) := by decide +kernel
theorem dX10_areAsked_60 : decode cX10_areAsked 60 = .ok (.iload_n 1, 1) := by decide +kernel
theorem dX10_areAsked_61 : decode cX10_areAsked 61 = .ok (.iload_n 3, 1) := by decide +kernel
theorem dX10_areAsked_62 : decode cX10_areAsked 62 = .ok (.invokestatic 321, 3) := by decide +kernel
theorem dX10_areAsked_65 : decode cX10_areAsked 65 = .ok (.ifCond .eq 13, 3) := by decide +kernel
theorem dX10_areAsked_68 : decode cX10_areAsked 68 = .ok (.aload_n 0, 1) := by decide +kernel
theorem dX10_areAsked_69 : decode cX10_areAsked 69 = .ok (.iload_n 3, 1) := by decide +kernel
theorem dX10_areAsked_70 : decode cX10_areAsked 70 = .ok (.invokevirtual 268, 3) := by decide +kernel
theorem dX10_areAsked_73 : decode cX10_areAsked 73 = .ok (.ifCond .lt 5, 3) := by decide +kernel
theorem dX10_areAsked_76 : decode cX10_areAsked 76 = .ok (.iconst 0, 1) := by decide +kernel
theorem dX10_areAsked_77 : decode cX10_areAsked 77 = .ok (.ireturn, 1) := by decide +kernel
theorem dX10_areAsked_78 : decode cX10_areAsked 78 = .ok (.iinc 3 1, 3) := by decide +kernel
theorem dX10_areAsked_81 : decode cX10_areAsked 81 = .ok (.goto (-31), 3) := by decide +kernel
theorem dX10_areAsked_84 : decode cX10_areAsked 84 = .ok (.iconst 1, 1) := by decide +kernel
theorem dX10_areAsked_85 : decode cX10_areAsked 85 = .ok (.ireturn, 1) := by decide +kernel
theorem dX10_findLoads_0 : decode cX10_findLoads 0 = .ok (.aload_n 0, 1) := by decide +kernel
theorem dX10_findLoads_1 : decode cX10_findLoads 1 = .ok (.invokevirtual 280, 3) := by decide +kernel
theorem dX10_findLoads_4 : decode cX10_findLoads 4 = .ok (.aload_n 0, 1) := by decide +kernel
theorem dX10_findLoads_5 : decode cX10_findLoads 5 = .ok (.iconst 0, 1) := by decide +kernel
theorem dX10_findLoads_6 : decode cX10_findLoads 6 = .ok (.invokevirtual 283, 3) := by decide +kernel
theorem dX10_findLoads_9 : decode cX10_findLoads 9 = .ok (.istore_n 3, 1) := by decide +kernel
theorem dX10_findLoads_10 : decode cX10_findLoads 10 = .ok (.aload_n 0, 1) := by decide +kernel
theorem dX10_findLoads_11 : decode cX10_findLoads 11 = .ok (.iconst 1, 1) := by decide +kernel
theorem dX10_findLoads_12 : decode cX10_findLoads 12 = .ok (.invokevirtual 283, 3) := by decide +kernel
theorem dX10_findLoads_15 : decode cX10_findLoads 15 = .ok (.istore 4, 2) := by decide +kernel
theorem dX10_findLoads_17 : decode cX10_findLoads 17 = .ok (.aload_n 0, 1) := by decide +kernel
theorem dX10_findLoads_18 : decode cX10_findLoads 18 = .ok (.iconst 0, 1) := by decide +kernel
theorem dX10_findLoads_19 : decode cX10_findLoads 19 = .ok (.putfield 324, 3) := by decide +kernel
theorem dX10_findLoads_22 : decode cX10_findLoads 22 = .ok (.iconst 0, 1) := by decide +kernel
theorem dX10_findLoads_23 : decode cX10_findLoads 23 = .ok (.istore 5, 2) := by decide +kernel
theorem dX10_findLoads_25 : decode cX10_findLoads 25 = .ok (.iload 5, 2) := by decide +kernel
theorem dX10_findLoads_27 : decode cX10_findLoads 27 = .ok (.aload_n 0, 1) := by decide +kernel
theorem dX10_findLoads_28 : decode cX10_findLoads 28 = .ok (.getfield 7, 3) := by decide +kernel
theorem dX10_findLoads_31 : decode cX10_findLoads 31 = .ok (.iconst 0, 1) := by decide +kernel
theorem dX10_findLoads_32 : decode cX10_findLoads 32 = .ok (.iaload, 1) := by decide +kernel
theorem dX10_findLoads_33 : decode cX10_findLoads 33 = .ok (.if_icmp .ge 71, 3) := by decide +kernel
theorem dX10_findLoads_36 : decode cX10_findLoads 36 = .ok (.iload_n 1, 1) := by decide +kernel
theorem dX10_findLoads_37 : decode cX10_findLoads 37 = .ok (.iload 5, 2) := by decide +kernel
theorem dX10_findLoads_39 : decode cX10_findLoads 39 = .ok (.invokestatic 321, 3) := by decide +kernel
theorem dX10_findLoads_42 : decode cX10_findLoads 42 = .ok (.ifCond .ne 6, 3) := by decide +kernel
theorem dX10_findLoads_45 : decode cX10_findLoads 45 = .ok (.goto 53, 3) := by decide +kernel
theorem dX10_findLoads_48 : decode cX10_findLoads 48 = .ok (.aload_n 0, 1) := by decide +kernel
theorem dX10_findLoads_49 : decode cX10_findLoads 49 = .ok (.getfield 43, 3) := by decide +kernel
theorem dX10_findLoads_52 : decode cX10_findLoads 52 = .ok (.aload_n 0, 1) := by decide +kernel
theorem dX10_findLoads_53 : decode cX10_findLoads 53 = .ok (.getfield 324, 3) := by decide +kernel
theorem dX10_findLoads_56 : decode cX10_findLoads 56 = .ok (.iload 5, 2) := by decide +kernel
theorem dX10_findLoads_58 : decode cX10_findLoads 58 = .ok (.iastore, 1) := by decide +kernel
theorem dX10_findLoads_59 : decode cX10_findLoads 59 = .ok (.aload_n 0, 1) := by decide +kernel
theorem dX10_findLoads_60 : decode cX10_findLoads 60 = .ok (.getfield 46, 3) := by decide +kernel
theorem dX10_findLoads_63 : decode cX10_findLoads 63 = .ok (.aload_n 0, 1) := by decide +kernel
theorem dX10_findLoads_64 : decode cX10_findLoads 64 = .ok (.getfield 324, 3) := by decide +kernel
theorem dX10_findLoads_67 : decode cX10_findLoads 67 = .ok (.aload_n 0, 1) := by decide +kernel
theorem dX10_findLoads_68 : decode cX10_findLoads 68 = .ok (.iload 5, 2) := by decide +kernel
theorem dX10_findLoads_70 : decode cX10_findLoads 70 = .ok (.iload_n 2, 1) := by decide +kernel
theorem dX10_findLoads_71 : decode cX10_findLoads 71 = .ok (.iload 5, 2) := by decide +kernel
theorem dX10_findLoads_73 : decode cX10_findLoads 73 = .ok (.invokestatic 321, 3) := by decide +kernel
theorem dX10_findLoads_76 : decode cX10_findLoads 76 = .ok (.ifCond .eq 7, 3) := by decide +kernel
theorem dX10_findLoads_79 : decode cX10_findLoads 79 = .ok (.iconst 1, 1) := by decide +kernel
theorem dX10_findLoads_80 : decode cX10_findLoads 80 = .ok (.goto 4, 3) := by decide +kernel
theorem dX10_findLoads_83 : decode cX10_findLoads 83 = .ok (.iconst 0, 1) := by decide +kernel
theorem dX10_findLoads_84 : decode cX10_findLoads 84 = .ok (.invokevirtual 271, 3) := by decide +kernel
theorem dX10_findLoads_87 : decode cX10_findLoads 87 = .ok (.iastore, 1) := by decide +kernel
theorem dX10_findLoads_88 : decode cX10_findLoads 88 = .ok (.aload_n 0, 1) := by decide +kernel
theorem dX10_findLoads_89 : decode cX10_findLoads 89 = .ok (.dup, 1) := by decide +kernel
theorem dX10_findLoads_90 : decode cX10_findLoads 90 = .ok (.getfield 324, 3) := by decide +kernel
theorem dX10_findLoads_93 : decode cX10_findLoads 93 = .ok (.iconst 1, 1) := by decide +kernel
theorem dX10_findLoads_94 : decode cX10_findLoads 94 = .ok (.iadd, 1) := by decide +kernel
theorem dX10_findLoads_95 : decode cX10_findLoads 95 = .ok (.putfield 324, 3) := by decide +kernel
theorem dX10_findLoads_98 : decode cX10_findLoads 98 = .ok (.iinc 5 1, 3) := by decide +kernel
theorem dX10_findLoads_101 : decode cX10_findLoads 101 = .ok (.goto (-76), 3) := by decide +kernel
theorem dX10_findLoads_104 : decode cX10_findLoads 104 = .ok (.iconst 0, 1) := by decide +kernel
theorem dX10_findLoads_105 : decode cX10_findLoads 105 = .ok (.istore 5, 2) := by decide +kernel
theorem dX10_findLoads_107 : decode cX10_findLoads 107 = .ok (.iload 5, 2) := by decide +kernel
theorem dX10_findLoads_109 : decode cX10_findLoads 109 = .ok (.iconst 1, 1) := by decide +kernel
theorem dX10_findLoads_110 : decode cX10_findLoads 110 = .ok (.aload_n 0, 1) := by decide +kernel
theorem dX10_findLoads_111 : decode cX10_findLoads 111 = .ok (.getfield 324, 3) := by decide +kernel
theorem dX10_findLoads_114 : decode cX10_findLoads 114 = .ok (.ishl, 1) := by decide +kernel
theorem dX10_findLoads_115 : decode cX10_findLoads 115 = .ok (.if_icmp .ge 140, 3) := by decide +kernel
theorem dX10_findLoads_118 : decode cX10_findLoads 118 = .ok (.iload_n 3, 1) := by decide +kernel
theorem dX10_findLoads_119 : decode cX10_findLoads 119 = .ok (.istore 6, 2) := by decide +kernel
theorem dX10_findLoads_121 : decode cX10_findLoads 121 = .ok (.iload 4, 2) := by decide +kernel
theorem dX10_findLoads_123 : decode cX10_findLoads 123 = .ok (.istore 7, 2) := by decide +kernel
theorem dX10_findLoads_125 : decode cX10_findLoads 125 = .ok (.iconst 0, 1) := by decide +kernel
theorem dX10_findLoads_126 : decode cX10_findLoads 126 = .ok (.istore 8, 2) := by decide +kernel
theorem dX10_findLoads_128 : decode cX10_findLoads 128 = .ok (.iload 8, 2) := by decide +kernel
theorem dX10_findLoads_130 : decode cX10_findLoads 130 = .ok (.aload_n 0, 1) := by decide +kernel
theorem dX10_findLoads_131 : decode cX10_findLoads 131 = .ok (.getfield 324, 3) := by decide +kernel
theorem dX10_findLoads_134 : decode cX10_findLoads 134 = .ok (.if_icmp .ge 82, 3) := by decide +kernel
theorem dX10_findLoads_137 : decode cX10_findLoads 137 = .ok (.iload 5, 2) := by decide +kernel
theorem dX10_findLoads_139 : decode cX10_findLoads 139 = .ok (.iload 8, 2) := by decide +kernel
theorem dX10_findLoads_141 : decode cX10_findLoads 141 = .ok (.invokestatic 321, 3) := by decide +kernel
theorem dX10_findLoads_144 : decode cX10_findLoads 144 = .ok (.ifCond .ne 6, 3) := by decide +kernel
theorem dX10_findLoads_147 : decode cX10_findLoads 147 = .ok (.goto 63, 3) := by decide +kernel
theorem dX10_findLoads_150 : decode cX10_findLoads 150 = .ok (.iload 6, 2) := by decide +kernel
theorem dX10_findLoads_152 : decode cX10_findLoads 152 = .ok (.iload_n 2, 1) := by decide +kernel
theorem dX10_findLoads_153 : decode cX10_findLoads 153 = .ok (.aload_n 0, 1) := by decide +kernel
theorem dX10_findLoads_154 : decode cX10_findLoads 154 = .ok (.getfield 43, 3) := by decide +kernel
theorem dX10_findLoads_157 : decode cX10_findLoads 157 = .ok (.iload 8, 2) := by decide +kernel
theorem dX10_findLoads_159 : decode cX10_findLoads 159 = .ok (.iaload, 1) := by decide +kernel
theorem dX10_findLoads_160 : decode cX10_findLoads 160 = .ok (.invokestatic 321, 3) := by decide +kernel
theorem dX10_findLoads_163 : decode cX10_findLoads 163 = .ok (.ifCond .eq 7, 3) := by decide +kernel
theorem dX10_findLoads_166 : decode cX10_findLoads 166 = .ok (.iconst 0, 1) := by decide +kernel
theorem dX10_findLoads_167 : decode cX10_findLoads 167 = .ok (.goto 10, 3) := by decide +kernel
theorem dX10_findLoads_170 : decode cX10_findLoads 170 = .ok (.aload_n 0, 1) := by decide +kernel
theorem dX10_findLoads_171 : decode cX10_findLoads 171 = .ok (.getfield 46, 3) := by decide +kernel
theorem dX10_findLoads_174 : decode cX10_findLoads 174 = .ok (.iload 8, 2) := by decide +kernel
theorem dX10_findLoads_176 : decode cX10_findLoads 176 = .ok (.iaload, 1) := by decide +kernel
theorem dX10_findLoads_177 : decode cX10_findLoads 177 = .ok (.iadd, 1) := by decide +kernel
theorem dX10_findLoads_178 : decode cX10_findLoads 178 = .ok (.istore 6, 2) := by decide +kernel
theorem dX10_findLoads_180 : decode cX10_findLoads 180 = .ok (.iload 7, 2) := by decide +kernel
theorem dX10_findLoads_182 : decode cX10_findLoads 182 = .ok (.iload_n 2, 1) := by decide +kernel
theorem dX10_findLoads_183 : decode cX10_findLoads 183 = .ok (.aload_n 0, 1) := by decide +kernel
theorem dX10_findLoads_184 : decode cX10_findLoads 184 = .ok (.getfield 43, 3) := by decide +kernel
theorem dX10_findLoads_187 : decode cX10_findLoads 187 = .ok (.iload 8, 2) := by decide +kernel
theorem dX10_findLoads_189 : decode cX10_findLoads 189 = .ok (.iaload, 1) := by decide +kernel
theorem dX10_findLoads_190 : decode cX10_findLoads 190 = .ok (.invokestatic 321, 3) := by decide +kernel
theorem dX10_findLoads_193 : decode cX10_findLoads 193 = .ok (.ifCond .eq 13, 3) := by decide +kernel
theorem dX10_findLoads_196 : decode cX10_findLoads 196 = .ok (.aload_n 0, 1) := by decide +kernel
theorem dX10_findLoads_197 : decode cX10_findLoads 197 = .ok (.getfield 46, 3) := by decide +kernel
theorem dX10_findLoads_200 : decode cX10_findLoads 200 = .ok (.iload 8, 2) := by decide +kernel
theorem dX10_findLoads_202 : decode cX10_findLoads 202 = .ok (.iaload, 1) := by decide +kernel
theorem dX10_findLoads_203 : decode cX10_findLoads 203 = .ok (.goto 4, 3) := by decide +kernel
theorem dX10_findLoads_206 : decode cX10_findLoads 206 = .ok (.iconst 0, 1) := by decide +kernel
theorem dX10_findLoads_207 : decode cX10_findLoads 207 = .ok (.iadd, 1) := by decide +kernel
theorem dX10_findLoads_208 : decode cX10_findLoads 208 = .ok (.istore 7, 2) := by decide +kernel
theorem dX10_findLoads_210 : decode cX10_findLoads 210 = .ok (.iinc 8 1, 3) := by decide +kernel
theorem dX10_findLoads_213 : decode cX10_findLoads 213 = .ok (.goto (-85), 3) := by decide +kernel
theorem dX10_findLoads_216 : decode cX10_findLoads 216 = .ok (.aload_n 0, 1) := by decide +kernel
theorem dX10_findLoads_217 : decode cX10_findLoads 217 = .ok (.getfield 49, 3) := by decide +kernel
theorem dX10_findLoads_220 : decode cX10_findLoads 220 = .ok (.iload 5, 2) := by decide +kernel
theorem dX10_findLoads_222 : decode cX10_findLoads 222 = .ok (.aload_n 0, 1) := by decide +kernel
theorem dX10_findLoads_223 : decode cX10_findLoads 223 = .ok (.iload 6, 2) := by decide +kernel
theorem dX10_findLoads_225 : decode cX10_findLoads 225 = .ok (.iload 7, 2) := by decide +kernel
theorem dX10_findLoads_227 : decode cX10_findLoads 227 = .ok (.invokevirtual 286, 3) := by decide +kernel
theorem dX10_findLoads_230 : decode cX10_findLoads 230 = .ok (.bastore, 1) := by decide +kernel
theorem dX10_findLoads_231 : decode cX10_findLoads 231 = .ok (.aload_n 0, 1) := by decide +kernel
theorem dX10_findLoads_232 : decode cX10_findLoads 232 = .ok (.getfield 52, 3) := by decide +kernel
theorem dX10_findLoads_235 : decode cX10_findLoads 235 = .ok (.iload 5, 2) := by decide +kernel
theorem dX10_findLoads_237 : decode cX10_findLoads 237 = .ok (.aload_n 0, 1) := by decide +kernel
theorem dX10_findLoads_238 : decode cX10_findLoads 238 = .ok (.iload 6, 2) := by decide +kernel
theorem dX10_findLoads_240 : decode cX10_findLoads 240 = .ok (.iload 7, 2) := by decide +kernel
theorem dX10_findLoads_242 : decode cX10_findLoads 242 = .ok (.invokevirtual 277, 3) := by decide +kernel
theorem dX10_findLoads_245 : decode cX10_findLoads 245 = .ok (.invokestatic 274, 3) := by decide +kernel
theorem dX10_findLoads_248 : decode cX10_findLoads 248 = .ok (.iastore, 1) := by decide +kernel
theorem dX10_findLoads_249 : decode cX10_findLoads 249 = .ok (.iinc 5 1, 3) := by decide +kernel
theorem dX10_findLoads_252 : decode cX10_findLoads 252 = .ok (.goto (-145), 3) := by decide +kernel
theorem dX10_findLoads_255 : decode cX10_findLoads 255 = .ok (.return_, 1) := by decide +kernel
theorem dX10_loadings_0 : decode cX10_loadings 0 = .ok (.aload_n 0, 1) := by decide +kernel
theorem dX10_loadings_1 : decode cX10_loadings 1 = .ok (.iload_n 1, 1) := by decide +kernel
theorem dX10_loadings_2 : decode cX10_loadings 2 = .ok (.iload_n 2, 1) := by decide +kernel
theorem dX10_loadings_3 : decode cX10_loadings 3 = .ok (.invokevirtual 327, 3) := by decide +kernel
theorem dX10_loadings_6 : decode cX10_loadings 6 = .ok (.ifCond .ne 7, 3) := by decide +kernel
theorem dX10_loadings_9 : decode cX10_loadings 9 = .ok (.ldc2_w 330, 3) := by decide +kernel
theorem dX10_loadings_12 : decode cX10_loadings 12 = .ok (.lreturn, 1) := by decide +kernel
theorem dX10_loadings_13 : decode cX10_loadings 13 = .ok (.aload_n 0, 1) := by decide +kernel
theorem dX10_loadings_14 : decode cX10_loadings 14 = .ok (.iload_n 1, 1) := by decide +kernel
theorem dX10_loadings_15 : decode cX10_loadings 15 = .ok (.iload_n 2, 1) := by decide +kernel
theorem dX10_loadings_16 : decode cX10_loadings 16 = .ok (.invokevirtual 332, 3) := by decide +kernel
theorem dX10_loadings_19 : decode cX10_loadings 19 = .ok (.iconst 0, 1) := by decide +kernel
theorem dX10_loadings_20 : decode cX10_loadings 20 = .ok (.istore_n 3, 1) := by decide +kernel
theorem dX10_loadings_21 : decode cX10_loadings 21 = .ok (.iload_n 3, 1) := by decide +kernel
theorem dX10_loadings_22 : decode cX10_loadings 22 = .ok (.iconst 1, 1) := by decide +kernel
theorem dX10_loadings_23 : decode cX10_loadings 23 = .ok (.aload_n 0, 1) := by decide +kernel
theorem dX10_loadings_24 : decode cX10_loadings 24 = .ok (.getfield 324, 3) := by decide +kernel
theorem dX10_loadings_27 : decode cX10_loadings 27 = .ok (.ishl, 1) := by decide +kernel
theorem dX10_loadings_28 : decode cX10_loadings 28 = .ok (.if_icmp .ge 82, 3) := by decide +kernel
theorem dX10_loadings_31 : decode cX10_loadings 31 = .ok (.aload_n 0, 1) := by decide +kernel
theorem dX10_loadings_32 : decode cX10_loadings 32 = .ok (.getfield 55, 3) := by decide +kernel
theorem dX10_loadings_35 : decode cX10_loadings 35 = .ok (.iload_n 3, 1) := by decide +kernel
theorem dX10_loadings_36 : decode cX10_loadings 36 = .ok (.iload_n 3, 1) := by decide +kernel
theorem dX10_loadings_37 : decode cX10_loadings 37 = .ok (.ifCond .ne 7, 3) := by decide +kernel
theorem dX10_loadings_40 : decode cX10_loadings 40 = .ok (.lconst 1, 1) := by decide +kernel
theorem dX10_loadings_41 : decode cX10_loadings 41 = .ok (.goto 4, 3) := by decide +kernel
theorem dX10_loadings_44 : decode cX10_loadings 44 = .ok (.lconst 0, 1) := by decide +kernel
theorem dX10_loadings_45 : decode cX10_loadings 45 = .ok (.lastore, 1) := by decide +kernel
theorem dX10_loadings_46 : decode cX10_loadings 46 = .ok (.iconst 0, 1) := by decide +kernel
theorem dX10_loadings_47 : decode cX10_loadings 47 = .ok (.istore 4, 2) := by decide +kernel
theorem dX10_loadings_49 : decode cX10_loadings 49 = .ok (.iload 4, 2) := by decide +kernel
theorem dX10_loadings_51 : decode cX10_loadings 51 = .ok (.aload_n 0, 1) := by decide +kernel
theorem dX10_loadings_52 : decode cX10_loadings 52 = .ok (.getfield 324, 3) := by decide +kernel
theorem dX10_loadings_55 : decode cX10_loadings 55 = .ok (.if_icmp .ge 49, 3) := by decide +kernel
theorem dX10_loadings_58 : decode cX10_loadings 58 = .ok (.iload_n 3, 1) := by decide +kernel
theorem dX10_loadings_59 : decode cX10_loadings 59 = .ok (.iload 4, 2) := by decide +kernel
theorem dX10_loadings_61 : decode cX10_loadings 61 = .ok (.invokestatic 321, 3) := by decide +kernel
theorem dX10_loadings_64 : decode cX10_loadings 64 = .ok (.ifCond .eq 34, 3) := by decide +kernel
theorem dX10_loadings_67 : decode cX10_loadings 67 = .ok (.aload_n 0, 1) := by decide +kernel
theorem dX10_loadings_68 : decode cX10_loadings 68 = .ok (.getfield 49, 3) := by decide +kernel
theorem dX10_loadings_71 : decode cX10_loadings 71 = .ok (.iload_n 3, 1) := by decide +kernel
theorem dX10_loadings_72 : decode cX10_loadings 72 = .ok (.baload, 1) := by decide +kernel
theorem dX10_loadings_73 : decode cX10_loadings 73 = .ok (.ifCond .eq 25, 3) := by decide +kernel
theorem dX10_loadings_76 : decode cX10_loadings 76 = .ok (.aload_n 0, 1) := by decide +kernel
theorem dX10_loadings_77 : decode cX10_loadings 77 = .ok (.getfield 55, 3) := by decide +kernel
theorem dX10_loadings_80 : decode cX10_loadings 80 = .ok (.iload_n 3, 1) := by decide +kernel
theorem dX10_loadings_81 : decode cX10_loadings 81 = .ok (.dup2, 1) := by decide +kernel
theorem dX10_loadings_82 : decode cX10_loadings 82 = .ok (.laload, 1) := by decide +kernel
theorem dX10_loadings_83 : decode cX10_loadings 83 = .ok (.aload_n 0, 1) := by decide +kernel
theorem dX10_loadings_84 : decode cX10_loadings 84 = .ok (.getfield 55, 3) := by decide +kernel
theorem dX10_loadings_87 : decode cX10_loadings 87 = .ok (.iload_n 3, 1) := by decide +kernel
theorem dX10_loadings_88 : decode cX10_loadings 88 = .ok (.iconst 1, 1) := by decide +kernel
theorem dX10_loadings_89 : decode cX10_loadings 89 = .ok (.iload 4, 2) := by decide +kernel
theorem dX10_loadings_91 : decode cX10_loadings 91 = .ok (.ishl, 1) := by decide +kernel
theorem dX10_loadings_92 : decode cX10_loadings 92 = .ok (.iconst (-1), 1) := by decide +kernel
theorem dX10_loadings_93 : decode cX10_loadings 93 = .ok (.ixor, 1) := by decide +kernel
theorem dX10_loadings_94 : decode cX10_loadings 94 = .ok (.iand, 1) := by decide +kernel
theorem dX10_loadings_95 : decode cX10_loadings 95 = .ok (.laload, 1) := by decide +kernel
theorem dX10_loadings_96 : decode cX10_loadings 96 = .ok (.ladd, 1) := by decide +kernel
theorem dX10_loadings_97 : decode cX10_loadings 97 = .ok (.lastore, 1) := by decide +kernel
theorem dX10_loadings_98 : decode cX10_loadings 98 = .ok (.iinc 4 1, 3) := by decide +kernel
theorem dX10_loadings_101 : decode cX10_loadings 101 = .ok (.goto (-52), 3) := by decide +kernel
theorem dX10_loadings_104 : decode cX10_loadings 104 = .ok (.iinc 3 1, 3) := by decide +kernel
theorem dX10_loadings_107 : decode cX10_loadings 107 = .ok (.goto (-86), 3) := by decide +kernel
theorem dX10_loadings_110 : decode cX10_loadings 110 = .ok (.aload_n 0, 1) := by decide +kernel
theorem dX10_loadings_111 : decode cX10_loadings 111 = .ok (.getfield 55, 3) := by decide +kernel
theorem dX10_loadings_114 : decode cX10_loadings 114 = .ok (.iconst 1, 1) := by decide +kernel
theorem dX10_loadings_115 : decode cX10_loadings 115 = .ok (.aload_n 0, 1) := by decide +kernel
theorem dX10_loadings_116 : decode cX10_loadings 116 = .ok (.getfield 324, 3) := by decide +kernel
theorem dX10_loadings_119 : decode cX10_loadings 119 = .ok (.ishl, 1) := by decide +kernel
theorem dX10_loadings_120 : decode cX10_loadings 120 = .ok (.iconst 1, 1) := by decide +kernel
theorem dX10_loadings_121 : decode cX10_loadings 121 = .ok (.isub, 1) := by decide +kernel
theorem dX10_loadings_122 : decode cX10_loadings 122 = .ok (.laload, 1) := by decide +kernel
theorem dX10_loadings_123 : decode cX10_loadings 123 = .ok (.lreturn, 1) := by decide +kernel
theorem dX10_by__0 : decode cX10_by_ 0 = .ok (.iload_n 1, 1) := by decide +kernel
theorem dX10_by__1 : decode cX10_by_ 1 = .ok (.iconst 1, 1) := by decide +kernel
theorem dX10_by__2 : decode cX10_by_ 2 = .ok (.iload_n 2, 1) := by decide +kernel
theorem dX10_by__3 : decode cX10_by_ 3 = .ok (.ishl, 1) := by decide +kernel
theorem dX10_by__4 : decode cX10_by_ 4 = .ok (.ior, 1) := by decide +kernel
theorem dX10_by__5 : decode cX10_by_ 5 = .ok (.istore_n 3, 1) := by decide +kernel
theorem dX10_by__6 : decode cX10_by_ 6 = .ok (.aload_n 0, 1) := by decide +kernel
theorem dX10_by__7 : decode cX10_by_ 7 = .ok (.getfield 49, 3) := by decide +kernel
theorem dX10_by__10 : decode cX10_by_ 10 = .ok (.iload_n 3, 1) := by decide +kernel
theorem dX10_by__11 : decode cX10_by_ 11 = .ok (.baload, 1) := by decide +kernel
theorem dX10_by__12 : decode cX10_by_ 12 = .ok (.ifCond .ne 9, 3) := by decide +kernel
theorem dX10_by__15 : decode cX10_by_ 15 = .ok (.ldc_w 335, 3) := by decide +kernel
theorem dX10_by__18 : decode cX10_by_ 18 = .ok (.goto 33, 3) := by decide +kernel
theorem dX10_by__21 : decode cX10_by_ 21 = .ok (.aload_n 0, 1) := by decide +kernel
theorem dX10_by__22 : decode cX10_by_ 22 = .ok (.getfield 52, 3) := by decide +kernel
theorem dX10_by__25 : decode cX10_by_ 25 = .ok (.iload_n 3, 1) := by decide +kernel
theorem dX10_by__26 : decode cX10_by_ 26 = .ok (.iaload, 1) := by decide +kernel
theorem dX10_by__27 : decode cX10_by_ 27 = .ok (.aload_n 0, 1) := by decide +kernel
theorem dX10_by__28 : decode cX10_by_ 28 = .ok (.getfield 58, 3) := by decide +kernel
theorem dX10_by__31 : decode cX10_by_ 31 = .ok (.iload_n 3, 1) := by decide +kernel
theorem dX10_by__32 : decode cX10_by_ 32 = .ok (.iaload, 1) := by decide +kernel
theorem dX10_by__33 : decode cX10_by_ 33 = .ok (.if_icmp .le 12, 3) := by decide +kernel
theorem dX10_by__36 : decode cX10_by_ 36 = .ok (.aload_n 0, 1) := by decide +kernel
theorem dX10_by__37 : decode cX10_by_ 37 = .ok (.getfield 52, 3) := by decide +kernel
theorem dX10_by__40 : decode cX10_by_ 40 = .ok (.iload_n 3, 1) := by decide +kernel
theorem dX10_by__41 : decode cX10_by_ 41 = .ok (.iaload, 1) := by decide +kernel
theorem dX10_by__42 : decode cX10_by_ 42 = .ok (.goto 9, 3) := by decide +kernel
theorem dX10_by__45 : decode cX10_by_ 45 = .ok (.aload_n 0, 1) := by decide +kernel
theorem dX10_by__46 : decode cX10_by_ 46 = .ok (.getfield 58, 3) := by decide +kernel
theorem dX10_by__49 : decode cX10_by_ 49 = .ok (.iload_n 3, 1) := by decide +kernel
theorem dX10_by__50 : decode cX10_by_ 50 = .ok (.iaload, 1) := by decide +kernel
theorem dX10_by__51 : decode cX10_by_ 51 = .ok (.ireturn, 1) := by decide +kernel
theorem dX10_findLeft_0 : decode cX10_findLeft 0 = .ok (.iconst 1, 1) := by decide +kernel
theorem dX10_findLeft_1 : decode cX10_findLeft 1 = .ok (.aload_n 0, 1) := by decide +kernel
theorem dX10_findLeft_2 : decode cX10_findLeft 2 = .ok (.getfield 324, 3) := by decide +kernel
theorem dX10_findLeft_5 : decode cX10_findLeft 5 = .ok (.ishl, 1) := by decide +kernel
theorem dX10_findLeft_6 : decode cX10_findLeft 6 = .ok (.iconst 1, 1) := by decide +kernel
theorem dX10_findLeft_7 : decode cX10_findLeft 7 = .ok (.isub, 1) := by decide +kernel
theorem dX10_findLeft_8 : decode cX10_findLeft 8 = .ok (.istore_n 1, 1) := by decide +kernel
theorem dX10_findLeft_9 : decode cX10_findLeft 9 = .ok (.iload_n 1, 1) := by decide +kernel
theorem dX10_findLeft_10 : decode cX10_findLeft 10 = .ok (.istore_n 2, 1) := by decide +kernel
theorem dX10_findLeft_11 : decode cX10_findLeft 11 = .ok (.iload_n 2, 1) := by decide +kernel
theorem dX10_findLeft_12 : decode cX10_findLeft 12 = .ok (.ifCond .lt 78, 3) := by decide +kernel
theorem dX10_findLeft_15 : decode cX10_findLeft 15 = .ok (.aload_n 0, 1) := by decide +kernel
theorem dX10_findLeft_16 : decode cX10_findLeft 16 = .ok (.getfield 58, 3) := by decide +kernel
theorem dX10_findLeft_19 : decode cX10_findLeft 19 = .ok (.iload_n 2, 1) := by decide +kernel
theorem dX10_findLeft_20 : decode cX10_findLeft 20 = .ok (.iload_n 2, 1) := by decide +kernel
theorem dX10_findLeft_21 : decode cX10_findLeft 21 = .ok (.iload_n 1, 1) := by decide +kernel
theorem dX10_findLeft_22 : decode cX10_findLeft 22 = .ok (.if_icmp .ne 7, 3) := by decide +kernel
theorem dX10_findLeft_25 : decode cX10_findLeft 25 = .ok (.iconst 0, 1) := by decide +kernel
theorem dX10_findLeft_26 : decode cX10_findLeft 26 = .ok (.goto 6, 3) := by decide +kernel
theorem dX10_findLeft_29 : decode cX10_findLeft 29 = .ok (.ldc_w 335, 3) := by decide +kernel
theorem dX10_findLeft_32 : decode cX10_findLeft 32 = .ok (.iastore, 1) := by decide +kernel
theorem dX10_findLeft_33 : decode cX10_findLeft 33 = .ok (.iconst 0, 1) := by decide +kernel
theorem dX10_findLeft_34 : decode cX10_findLeft 34 = .ok (.istore_n 3, 1) := by decide +kernel
theorem dX10_findLeft_35 : decode cX10_findLeft 35 = .ok (.iload_n 3, 1) := by decide +kernel
theorem dX10_findLeft_36 : decode cX10_findLeft 36 = .ok (.aload_n 0, 1) := by decide +kernel
theorem dX10_findLeft_37 : decode cX10_findLeft 37 = .ok (.getfield 324, 3) := by decide +kernel
theorem dX10_findLeft_40 : decode cX10_findLeft 40 = .ok (.if_icmp .ge 44, 3) := by decide +kernel
theorem dX10_findLeft_43 : decode cX10_findLeft 43 = .ok (.iload_n 2, 1) := by decide +kernel
theorem dX10_findLeft_44 : decode cX10_findLeft 44 = .ok (.iload_n 3, 1) := by decide +kernel
theorem dX10_findLeft_45 : decode cX10_findLeft 45 = .ok (.invokestatic 321, 3) := by decide +kernel
theorem dX10_findLeft_48 : decode cX10_findLeft 48 = .ok (.ifCond .ne 30, 3) := by decide +kernel
theorem dX10_findLeft_51 : decode cX10_findLeft 51 = .ok (.aload_n 0, 1) := by decide +kernel
theorem dX10_findLeft_52 : decode cX10_findLeft 52 = .ok (.iload_n 2, 1) := by decide +kernel
theorem dX10_findLeft_53 : decode cX10_findLeft 53 = .ok (.iload_n 3, 1) := by decide +kernel
theorem dX10_findLeft_54 : decode cX10_findLeft 54 = .ok (.invokevirtual 336, 3) := by decide +kernel
theorem dX10_findLeft_57 : decode cX10_findLeft 57 = .ok (.aload_n 0, 1) := by decide +kernel
theorem dX10_findLeft_58 : decode cX10_findLeft 58 = .ok (.getfield 58, 3) := by decide +kernel
theorem dX10_findLeft_61 : decode cX10_findLeft 61 = .ok (.iload_n 2, 1) := by decide +kernel
theorem dX10_findLeft_62 : decode cX10_findLeft 62 = .ok (.iaload, 1) := by decide +kernel
theorem dX10_findLeft_63 : decode cX10_findLeft 63 = .ok (.if_icmp .ge 15, 3) := by decide +kernel
theorem dX10_findLeft_66 : decode cX10_findLeft 66 = .ok (.aload_n 0, 1) := by decide +kernel
theorem dX10_findLeft_67 : decode cX10_findLeft 67 = .ok (.getfield 58, 3) := by decide +kernel
theorem dX10_findLeft_70 : decode cX10_findLeft 70 = .ok (.iload_n 2, 1) := by decide +kernel
theorem dX10_findLeft_71 : decode cX10_findLeft 71 = .ok (.aload_n 0, 1) := by decide +kernel
theorem dX10_findLeft_72 : decode cX10_findLeft 72 = .ok (.iload_n 2, 1) := by decide +kernel
theorem dX10_findLeft_73 : decode cX10_findLeft 73 = .ok (.iload_n 3, 1) := by decide +kernel
theorem dX10_findLeft_74 : decode cX10_findLeft 74 = .ok (.invokevirtual 336, 3) := by decide +kernel
theorem dX10_findLeft_77 : decode cX10_findLeft 77 = .ok (.iastore, 1) := by decide +kernel
theorem dX10_findLeft_78 : decode cX10_findLeft 78 = .ok (.iinc 3 1, 3) := by decide +kernel
theorem dX10_findLeft_81 : decode cX10_findLeft 81 = .ok (.goto (-46), 3) := by decide +kernel
theorem dX10_findLeft_84 : decode cX10_findLeft 84 = .ok (.iinc 2 (-1), 3) := by decide +kernel
theorem dX10_findLeft_87 : decode cX10_findLeft 87 = .ok (.goto (-76), 3) := by decide +kernel
theorem dX10_findLeft_90 : decode cX10_findLeft 90 = .ok (.return_, 1) := by decide +kernel
theorem dX10_gentle_0 : decode cX10_gentle 0 = .ok (.aload_n 0, 1) := by decide +kernel
theorem dX10_gentle_1 : decode cX10_gentle 1 = .ok (.iload_n 1, 1) := by decide +kernel
theorem dX10_gentle_2 : decode cX10_gentle 2 = .ok (.iload_n 2, 1) := by decide +kernel
theorem dX10_gentle_3 : decode cX10_gentle 3 = .ok (.invokevirtual 327, 3) := by decide +kernel
theorem dX10_gentle_6 : decode cX10_gentle 6 = .ok (.ifCond .eq 8, 3) := by decide +kernel
theorem dX10_gentle_9 : decode cX10_gentle 9 = .ok (.iload_n 3, 1) := by decide +kernel
theorem dX10_gentle_10 : decode cX10_gentle 10 = .ok (.iconst (-1), 1) := by decide +kernel
theorem dX10_gentle_11 : decode cX10_gentle 11 = .ok (.if_icmp .ge 5, 3) := by decide +kernel
theorem dX10_gentle_14 : decode cX10_gentle 14 = .ok (.iconst (-1), 1) := by decide +kernel
theorem dX10_gentle_15 : decode cX10_gentle 15 = .ok (.ireturn, 1) := by decide +kernel
theorem dX10_gentle_16 : decode cX10_gentle 16 = .ok (.aload_n 0, 1) := by decide +kernel
theorem dX10_gentle_17 : decode cX10_gentle 17 = .ok (.iload_n 1, 1) := by decide +kernel
theorem dX10_gentle_18 : decode cX10_gentle 18 = .ok (.iload_n 2, 1) := by decide +kernel
theorem dX10_gentle_19 : decode cX10_gentle 19 = .ok (.invokevirtual 332, 3) := by decide +kernel
theorem dX10_gentle_22 : decode cX10_gentle 22 = .ok (.aload_n 0, 1) := by decide +kernel
theorem dX10_gentle_23 : decode cX10_gentle 23 = .ok (.invokevirtual 339, 3) := by decide +kernel
theorem dX10_gentle_26 : decode cX10_gentle 26 = .ok (.aload_n 0, 1) := by decide +kernel
theorem dX10_gentle_27 : decode cX10_gentle 27 = .ok (.getfield 58, 3) := by decide +kernel
theorem dX10_gentle_30 : decode cX10_gentle 30 = .ok (.iconst 0, 1) := by decide +kernel
theorem dX10_gentle_31 : decode cX10_gentle 31 = .ok (.iaload, 1) := by decide +kernel
theorem dX10_gentle_32 : decode cX10_gentle 32 = .ok (.ldc_w 335, 3) := by decide +kernel
theorem dX10_gentle_35 : decode cX10_gentle 35 = .ok (.if_icmp .ge 11, 3) := by decide +kernel
theorem dX10_gentle_38 : decode cX10_gentle 38 = .ok (.iload_n 3, 1) := by decide +kernel
theorem dX10_gentle_39 : decode cX10_gentle 39 = .ok (.aload_n 0, 1) := by decide +kernel
theorem dX10_gentle_40 : decode cX10_gentle 40 = .ok (.getfield 324, 3) := by decide +kernel
theorem dX10_gentle_43 : decode cX10_gentle 43 = .ok (.if_icmp .lt 5, 3) := by decide +kernel
theorem dX10_gentle_46 : decode cX10_gentle 46 = .ok (.iconst (-1), 1) := by decide +kernel
theorem dX10_gentle_47 : decode cX10_gentle 47 = .ok (.ireturn, 1) := by decide +kernel
theorem dX10_gentle_48 : decode cX10_gentle 48 = .ok (.iload_n 3, 1) := by decide +kernel
theorem dX10_gentle_49 : decode cX10_gentle 49 = .ok (.iconst (-1), 1) := by decide +kernel
theorem dX10_gentle_50 : decode cX10_gentle 50 = .ok (.if_icmp .ne 10, 3) := by decide +kernel
theorem dX10_gentle_53 : decode cX10_gentle 53 = .ok (.aload_n 0, 1) := by decide +kernel
theorem dX10_gentle_54 : decode cX10_gentle 54 = .ok (.getfield 58, 3) := by decide +kernel
theorem dX10_gentle_57 : decode cX10_gentle 57 = .ok (.iconst 0, 1) := by decide +kernel
theorem dX10_gentle_58 : decode cX10_gentle 58 = .ok (.iaload, 1) := by decide +kernel
theorem dX10_gentle_59 : decode cX10_gentle 59 = .ok (.ireturn, 1) := by decide +kernel
theorem dX10_gentle_60 : decode cX10_gentle 60 = .ok (.iconst 0, 1) := by decide +kernel
theorem dX10_gentle_61 : decode cX10_gentle 61 = .ok (.istore 4, 2) := by decide +kernel
theorem dX10_gentle_63 : decode cX10_gentle 63 = .ok (.iconst 0, 1) := by decide +kernel
theorem dX10_gentle_64 : decode cX10_gentle 64 = .ok (.istore 5, 2) := by decide +kernel
theorem dX10_gentle_66 : decode cX10_gentle 66 = .ok (.iconst 0, 1) := by decide +kernel
theorem dX10_gentle_67 : decode cX10_gentle 67 = .ok (.istore 6, 2) := by decide +kernel
theorem dX10_gentle_69 : decode cX10_gentle 69 = .ok (.iload 6, 2) := by decide +kernel
theorem dX10_gentle_71 : decode cX10_gentle 71 = .ok (.iload_n 3, 1) := by decide +kernel
theorem dX10_gentle_72 : decode cX10_gentle 72 = .ok (.if_icmp .gt 54, 3) := by decide +kernel
theorem dX10_gentle_75 : decode cX10_gentle 75 = .ok (.iconst 0, 1) := by decide +kernel
theorem dX10_gentle_76 : decode cX10_gentle 76 = .ok (.istore 5, 2) := by decide +kernel
theorem dX10_gentle_78 : decode cX10_gentle 78 = .ok (.iload 4, 2) := by decide +kernel
theorem dX10_gentle_80 : decode cX10_gentle 80 = .ok (.iload 5, 2) := by decide +kernel
theorem dX10_gentle_82 : decode cX10_gentle 82 = .ok (.invokestatic 321, 3) := by decide +kernel
theorem dX10_gentle_85 : decode cX10_gentle 85 = .ok (.ifCond .ne 20, 3) := by decide +kernel
theorem dX10_gentle_88 : decode cX10_gentle 88 = .ok (.aload_n 0, 1) := by decide +kernel
theorem dX10_gentle_89 : decode cX10_gentle 89 = .ok (.iload 4, 2) := by decide +kernel
theorem dX10_gentle_91 : decode cX10_gentle 91 = .ok (.iload 5, 2) := by decide +kernel
theorem dX10_gentle_93 : decode cX10_gentle 93 = .ok (.invokevirtual 336, 3) := by decide +kernel
theorem dX10_gentle_96 : decode cX10_gentle 96 = .ok (.aload_n 0, 1) := by decide +kernel
theorem dX10_gentle_97 : decode cX10_gentle 97 = .ok (.getfield 58, 3) := by decide +kernel
theorem dX10_gentle_100 : decode cX10_gentle 100 = .ok (.iconst 0, 1) := by decide +kernel
theorem dX10_gentle_101 : decode cX10_gentle 101 = .ok (.iaload, 1) := by decide +kernel
theorem dX10_gentle_102 : decode cX10_gentle 102 = .ok (.if_icmp .le 9, 3) := by decide +kernel
theorem dX10_gentle_105 : decode cX10_gentle 105 = .ok (.iinc 5 1, 3) := by decide +kernel
theorem dX10_gentle_108 : decode cX10_gentle 108 = .ok (.goto (-30), 3) := by decide +kernel
theorem dX10_gentle_111 : decode cX10_gentle 111 = .ok (.iload 4, 2) := by decide +kernel
theorem dX10_gentle_113 : decode cX10_gentle 113 = .ok (.iconst 1, 1) := by decide +kernel
theorem dX10_gentle_114 : decode cX10_gentle 114 = .ok (.iload 5, 2) := by decide +kernel
theorem dX10_gentle_116 : decode cX10_gentle 116 = .ok (.ishl, 1) := by decide +kernel
theorem dX10_gentle_117 : decode cX10_gentle 117 = .ok (.ior, 1) := by decide +kernel
theorem dX10_gentle_118 : decode cX10_gentle 118 = .ok (.istore 4, 2) := by decide +kernel
theorem dX10_gentle_120 : decode cX10_gentle 120 = .ok (.iinc 6 1, 3) := by decide +kernel
theorem dX10_gentle_123 : decode cX10_gentle 123 = .ok (.goto (-54), 3) := by decide +kernel
theorem dX10_gentle_126 : decode cX10_gentle 126 = .ok (.aload_n 0, 1) := by decide +kernel
theorem dX10_gentle_127 : decode cX10_gentle 127 = .ok (.getfield 43, 3) := by decide +kernel
theorem dX10_gentle_130 : decode cX10_gentle 130 = .ok (.iload 5, 2) := by decide +kernel
theorem dX10_gentle_132 : decode cX10_gentle 132 = .ok (.iaload, 1) := by decide +kernel
theorem dX10_gentle_133 : decode cX10_gentle 133 = .ok (.ireturn, 1) := by decide +kernel
theorem dX10_reading_0 : decode cX10_reading 0 = .ok (.iload_n 1, 1) := by decide +kernel
theorem dX10_reading_1 : decode cX10_reading 1 = .ok (.iconst 0, 1) := by decide +kernel
theorem dX10_reading_2 : decode cX10_reading 2 = .ok (.iconst 1, 1) := by decide +kernel
theorem dX10_reading_3 : decode cX10_reading 3 = .ok (.invokestatic 83, 3) := by decide +kernel
theorem dX10_reading_6 : decode cX10_reading 6 = .ok (.ifCond .eq 24, 3) := by decide +kernel
theorem dX10_reading_9 : decode cX10_reading 9 = .ok (.iload_n 2, 1) := by decide +kernel
theorem dX10_reading_10 : decode cX10_reading 10 = .ok (.iconst 0, 1) := by decide +kernel
theorem dX10_reading_11 : decode cX10_reading 11 = .ok (.iconst 2, 1) := by decide +kernel
theorem dX10_reading_12 : decode cX10_reading 12 = .ok (.invokestatic 83, 3) := by decide +kernel
theorem dX10_reading_15 : decode cX10_reading 15 = .ok (.ifCond .eq 15, 3) := by decide +kernel
theorem dX10_reading_18 : decode cX10_reading 18 = .ok (.aload_n 0, 1) := by decide +kernel
theorem dX10_reading_19 : decode cX10_reading 19 = .ok (.getfield 7, 3) := by decide +kernel
theorem dX10_reading_22 : decode cX10_reading 22 = .ok (.bipush 10, 2) := by decide +kernel
theorem dX10_reading_24 : decode cX10_reading 24 = .ok (.iaload, 1) := by decide +kernel
theorem dX10_reading_25 : decode cX10_reading 25 = .ok (.bipush 10, 2) := by decide +kernel
theorem dX10_reading_27 : decode cX10_reading 27 = .ok (.if_icmp .ne 5, 3) := by decide +kernel
theorem dX10_reading_30 : decode cX10_reading 30 = .ok (.iconst (-1), 1) := by decide +kernel
theorem dX10_reading_31 : decode cX10_reading 31 = .ok (.ireturn, 1) := by decide +kernel
theorem dX10_reading_32 : decode cX10_reading 32 = .ok (.bipush 55, 2) := by decide +kernel
theorem dX10_reading_34 : decode cX10_reading 34 = .ok (.bipush 10, 2) := by decide +kernel
theorem dX10_reading_36 : decode cX10_reading 36 = .ok (.aload_n 0, 1) := by decide +kernel
theorem dX10_reading_37 : decode cX10_reading 37 = .ok (.getfield 7, 3) := by decide +kernel
theorem dX10_reading_40 : decode cX10_reading 40 = .ok (.bipush 10, 2) := by decide +kernel
theorem dX10_reading_42 : decode cX10_reading 42 = .ok (.iaload, 1) := by decide +kernel
theorem dX10_reading_43 : decode cX10_reading 43 = .ok (.imul, 1) := by decide +kernel
theorem dX10_reading_44 : decode cX10_reading 44 = .ok (.iadd, 1) := by decide +kernel
theorem dX10_reading_45 : decode cX10_reading 45 = .ok (.istore_n 3, 1) := by decide +kernel
theorem dX10_reading_46 : decode cX10_reading 46 = .ok (.aload_n 0, 1) := by decide +kernel
theorem dX10_reading_47 : decode cX10_reading 47 = .ok (.getfield 7, 3) := by decide +kernel
theorem dX10_reading_50 : decode cX10_reading 50 = .ok (.iload_n 3, 1) := by decide +kernel
theorem dX10_reading_51 : decode cX10_reading 51 = .ok (.iload_n 1, 1) := by decide +kernel
theorem dX10_reading_52 : decode cX10_reading 52 = .ok (.iastore, 1) := by decide +kernel
theorem dX10_reading_53 : decode cX10_reading 53 = .ok (.aload_n 0, 1) := by decide +kernel
theorem dX10_reading_54 : decode cX10_reading 54 = .ok (.getfield 7, 3) := by decide +kernel
theorem dX10_reading_57 : decode cX10_reading 57 = .ok (.iload_n 3, 1) := by decide +kernel
theorem dX10_reading_58 : decode cX10_reading 58 = .ok (.iconst 1, 1) := by decide +kernel
theorem dX10_reading_59 : decode cX10_reading 59 = .ok (.iadd, 1) := by decide +kernel
theorem dX10_reading_60 : decode cX10_reading 60 = .ok (.iload_n 2, 1) := by decide +kernel
theorem dX10_reading_61 : decode cX10_reading 61 = .ok (.iastore, 1) := by decide +kernel
theorem dX10_reading_62 : decode cX10_reading 62 = .ok (.aload_n 0, 1) := by decide +kernel
theorem dX10_reading_63 : decode cX10_reading 63 = .ok (.getfield 7, 3) := by decide +kernel
theorem dX10_reading_66 : decode cX10_reading 66 = .ok (.iload_n 3, 1) := by decide +kernel
theorem dX10_reading_67 : decode cX10_reading 67 = .ok (.iconst 2, 1) := by decide +kernel
theorem dX10_reading_68 : decode cX10_reading 68 = .ok (.iadd, 1) := by decide +kernel
theorem dX10_reading_69 : decode cX10_reading 69 = .ok (.aload_n 0, 1) := by decide +kernel
theorem dX10_reading_70 : decode cX10_reading 70 = .ok (.getfield 7, 3) := by decide +kernel
theorem dX10_reading_73 : decode cX10_reading 73 = .ok (.iconst 4, 1) := by decide +kernel
theorem dX10_reading_74 : decode cX10_reading 74 = .ok (.iaload, 1) := by decide +kernel
theorem dX10_reading_75 : decode cX10_reading 75 = .ok (.iastore, 1) := by decide +kernel
theorem dX10_reading_76 : decode cX10_reading 76 = .ok (.aload_n 0, 1) := by decide +kernel
theorem dX10_reading_77 : decode cX10_reading 77 = .ok (.getfield 7, 3) := by decide +kernel
theorem dX10_reading_80 : decode cX10_reading 80 = .ok (.iload_n 3, 1) := by decide +kernel
theorem dX10_reading_81 : decode cX10_reading 81 = .ok (.iconst 3, 1) := by decide +kernel
theorem dX10_reading_82 : decode cX10_reading 82 = .ok (.iadd, 1) := by decide +kernel
theorem dX10_reading_83 : decode cX10_reading 83 = .ok (.aload_n 0, 1) := by decide +kernel
theorem dX10_reading_84 : decode cX10_reading 84 = .ok (.getfield 7, 3) := by decide +kernel
theorem dX10_reading_87 : decode cX10_reading 87 = .ok (.iconst 5, 1) := by decide +kernel
theorem dX10_reading_88 : decode cX10_reading 88 = .ok (.iaload, 1) := by decide +kernel
theorem dX10_reading_89 : decode cX10_reading 89 = .ok (.iastore, 1) := by decide +kernel
theorem dX10_reading_90 : decode cX10_reading 90 = .ok (.aload_n 0, 1) := by decide +kernel
theorem dX10_reading_91 : decode cX10_reading 91 = .ok (.getfield 7, 3) := by decide +kernel
theorem dX10_reading_94 : decode cX10_reading 94 = .ok (.iload_n 3, 1) := by decide +kernel
theorem dX10_reading_95 : decode cX10_reading 95 = .ok (.iconst 4, 1) := by decide +kernel
theorem dX10_reading_96 : decode cX10_reading 96 = .ok (.iadd, 1) := by decide +kernel
theorem dX10_reading_97 : decode cX10_reading 97 = .ok (.aload_n 0, 1) := by decide +kernel
theorem dX10_reading_98 : decode cX10_reading 98 = .ok (.getfield 7, 3) := by decide +kernel
theorem dX10_reading_101 : decode cX10_reading 101 = .ok (.bipush 6, 2) := by decide +kernel
theorem dX10_reading_103 : decode cX10_reading 103 = .ok (.iaload, 1) := by decide +kernel
theorem dX10_reading_104 : decode cX10_reading 104 = .ok (.iastore, 1) := by decide +kernel
theorem dX10_reading_105 : decode cX10_reading 105 = .ok (.aload_n 0, 1) := by decide +kernel
theorem dX10_reading_106 : decode cX10_reading 106 = .ok (.getfield 7, 3) := by decide +kernel
theorem dX10_reading_109 : decode cX10_reading 109 = .ok (.iload_n 3, 1) := by decide +kernel
theorem dX10_reading_110 : decode cX10_reading 110 = .ok (.iconst 5, 1) := by decide +kernel
theorem dX10_reading_111 : decode cX10_reading 111 = .ok (.iadd, 1) := by decide +kernel
theorem dX10_reading_112 : decode cX10_reading 112 = .ok (.aload_n 0, 1) := by decide +kernel
theorem dX10_reading_113 : decode cX10_reading 113 = .ok (.getfield 7, 3) := by decide +kernel
theorem dX10_reading_116 : decode cX10_reading 116 = .ok (.iconst 1, 1) := by decide +kernel
theorem dX10_reading_117 : decode cX10_reading 117 = .ok (.iaload, 1) := by decide +kernel
theorem dX10_reading_118 : decode cX10_reading 118 = .ok (.iastore, 1) := by decide +kernel
theorem dX10_reading_119 : decode cX10_reading 119 = .ok (.aload_n 0, 1) := by decide +kernel
theorem dX10_reading_120 : decode cX10_reading 120 = .ok (.getfield 7, 3) := by decide +kernel
theorem dX10_reading_123 : decode cX10_reading 123 = .ok (.iload_n 3, 1) := by decide +kernel
theorem dX10_reading_124 : decode cX10_reading 124 = .ok (.bipush 6, 2) := by decide +kernel
theorem dX10_reading_126 : decode cX10_reading 126 = .ok (.iadd, 1) := by decide +kernel
theorem dX10_reading_127 : decode cX10_reading 127 = .ok (.aload_n 0, 1) := by decide +kernel
theorem dX10_reading_128 : decode cX10_reading 128 = .ok (.getfield 7, 3) := by decide +kernel
theorem dX10_reading_131 : decode cX10_reading 131 = .ok (.iconst 2, 1) := by decide +kernel
theorem dX10_reading_132 : decode cX10_reading 132 = .ok (.iaload, 1) := by decide +kernel
theorem dX10_reading_133 : decode cX10_reading 133 = .ok (.iastore, 1) := by decide +kernel
theorem dX10_reading_134 : decode cX10_reading 134 = .ok (.aload_n 0, 1) := by decide +kernel
theorem dX10_reading_135 : decode cX10_reading 135 = .ok (.getfield 7, 3) := by decide +kernel
theorem dX10_reading_138 : decode cX10_reading 138 = .ok (.iload_n 3, 1) := by decide +kernel
theorem dX10_reading_139 : decode cX10_reading 139 = .ok (.bipush 7, 2) := by decide +kernel
theorem dX10_reading_141 : decode cX10_reading 141 = .ok (.iadd, 1) := by decide +kernel
theorem dX10_reading_142 : decode cX10_reading 142 = .ok (.aload_n 0, 1) := by decide +kernel
theorem dX10_reading_143 : decode cX10_reading 143 = .ok (.getfield 7, 3) := by decide +kernel
theorem dX10_reading_146 : decode cX10_reading 146 = .ok (.iconst 3, 1) := by decide +kernel
theorem dX10_reading_147 : decode cX10_reading 147 = .ok (.iaload, 1) := by decide +kernel
theorem dX10_reading_148 : decode cX10_reading 148 = .ok (.iastore, 1) := by decide +kernel
theorem dX10_reading_149 : decode cX10_reading 149 = .ok (.aload_n 0, 1) := by decide +kernel
theorem dX10_reading_150 : decode cX10_reading 150 = .ok (.invokevirtual 280, 3) := by decide +kernel
theorem dX10_reading_153 : decode cX10_reading 153 = .ok (.aload_n 0, 1) := by decide +kernel
theorem dX10_reading_154 : decode cX10_reading 154 = .ok (.getfield 7, 3) := by decide +kernel
theorem dX10_reading_157 : decode cX10_reading 157 = .ok (.iload_n 3, 1) := by decide +kernel
theorem dX10_reading_158 : decode cX10_reading 158 = .ok (.bipush 8, 2) := by decide +kernel
theorem dX10_reading_160 : decode cX10_reading 160 = .ok (.iadd, 1) := by decide +kernel
theorem dX10_reading_161 : decode cX10_reading 161 = .ok (.aload_n 0, 1) := by decide +kernel
theorem dX10_reading_162 : decode cX10_reading 162 = .ok (.iconst 0, 1) := by decide +kernel
theorem dX10_reading_163 : decode cX10_reading 163 = .ok (.invokevirtual 283, 3) := by decide +kernel
theorem dX10_reading_166 : decode cX10_reading 166 = .ok (.iastore, 1) := by decide +kernel
theorem dX10_reading_167 : decode cX10_reading 167 = .ok (.aload_n 0, 1) := by decide +kernel
theorem dX10_reading_168 : decode cX10_reading 168 = .ok (.getfield 7, 3) := by decide +kernel
theorem dX10_reading_171 : decode cX10_reading 171 = .ok (.iload_n 3, 1) := by decide +kernel
theorem dX10_reading_172 : decode cX10_reading 172 = .ok (.bipush 9, 2) := by decide +kernel
theorem dX10_reading_174 : decode cX10_reading 174 = .ok (.iadd, 1) := by decide +kernel
theorem dX10_reading_175 : decode cX10_reading 175 = .ok (.aload_n 0, 1) := by decide +kernel
theorem dX10_reading_176 : decode cX10_reading 176 = .ok (.iconst 1, 1) := by decide +kernel
theorem dX10_reading_177 : decode cX10_reading 177 = .ok (.invokevirtual 283, 3) := by decide +kernel
theorem dX10_reading_180 : decode cX10_reading 180 = .ok (.iastore, 1) := by decide +kernel
theorem dX10_reading_181 : decode cX10_reading 181 = .ok (.aload_n 0, 1) := by decide +kernel
theorem dX10_reading_182 : decode cX10_reading 182 = .ok (.getfield 7, 3) := by decide +kernel
theorem dX10_reading_185 : decode cX10_reading 185 = .ok (.bipush 10, 2) := by decide +kernel
theorem dX10_reading_187 : decode cX10_reading 187 = .ok (.dup2, 1) := by decide +kernel
theorem dX10_reading_188 : decode cX10_reading 188 = .ok (.iaload, 1) := by decide +kernel
theorem dX10_reading_189 : decode cX10_reading 189 = .ok (.iconst 1, 1) := by decide +kernel
theorem dX10_reading_190 : decode cX10_reading 190 = .ok (.iadd, 1) := by decide +kernel
theorem dX10_reading_191 : decode cX10_reading 191 = .ok (.iastore, 1) := by decide +kernel
theorem dX10_reading_192 : decode cX10_reading 192 = .ok (.aload_n 0, 1) := by decide +kernel
theorem dX10_reading_193 : decode cX10_reading 193 = .ok (.getfield 7, 3) := by decide +kernel
theorem dX10_reading_196 : decode cX10_reading 196 = .ok (.bipush 10, 2) := by decide +kernel
theorem dX10_reading_198 : decode cX10_reading 198 = .ok (.iaload, 1) := by decide +kernel
theorem dX10_reading_199 : decode cX10_reading 199 = .ok (.ireturn, 1) := by decide +kernel
theorem dX10_forget_0 : decode cX10_forget 0 = .ok (.aload_n 0, 1) := by decide +kernel
theorem dX10_forget_1 : decode cX10_forget 1 = .ok (.getfield 7, 3) := by decide +kernel
theorem dX10_forget_4 : decode cX10_forget 4 = .ok (.bipush 10, 2) := by decide +kernel
theorem dX10_forget_6 : decode cX10_forget 6 = .ok (.iaload, 1) := by decide +kernel
theorem dX10_forget_7 : decode cX10_forget 7 = .ok (.istore_n 1, 1) := by decide +kernel
theorem dX10_forget_8 : decode cX10_forget 8 = .ok (.aload_n 0, 1) := by decide +kernel
theorem dX10_forget_9 : decode cX10_forget 9 = .ok (.getfield 7, 3) := by decide +kernel
theorem dX10_forget_12 : decode cX10_forget 12 = .ok (.bipush 10, 2) := by decide +kernel
theorem dX10_forget_14 : decode cX10_forget 14 = .ok (.iconst 0, 1) := by decide +kernel
theorem dX10_forget_15 : decode cX10_forget 15 = .ok (.iastore, 1) := by decide +kernel
theorem dX10_forget_16 : decode cX10_forget 16 = .ok (.iload_n 1, 1) := by decide +kernel
theorem dX10_forget_17 : decode cX10_forget 17 = .ok (.ireturn, 1) := by decide +kernel
theorem dX10_borneBy_0 : decode cX10_borneBy 0 = .ok (.bipush 55, 2) := by decide +kernel
theorem dX10_borneBy_2 : decode cX10_borneBy 2 = .ok (.bipush 10, 2) := by decide +kernel
theorem dX10_borneBy_4 : decode cX10_borneBy 4 = .ok (.iload_n 1, 1) := by decide +kernel
theorem dX10_borneBy_5 : decode cX10_borneBy 5 = .ok (.imul, 1) := by decide +kernel
theorem dX10_borneBy_6 : decode cX10_borneBy 6 = .ok (.iadd, 1) := by decide +kernel
theorem dX10_borneBy_7 : decode cX10_borneBy 7 = .ok (.istore_n 3, 1) := by decide +kernel
theorem dX10_borneBy_8 : decode cX10_borneBy 8 = .ok (.aload_n 0, 1) := by decide +kernel
theorem dX10_borneBy_9 : decode cX10_borneBy 9 = .ok (.aload_n 0, 1) := by decide +kernel
theorem dX10_borneBy_10 : decode cX10_borneBy 10 = .ok (.getfield 7, 3) := by decide +kernel
theorem dX10_borneBy_13 : decode cX10_borneBy 13 = .ok (.iload_n 3, 1) := by decide +kernel
theorem dX10_borneBy_14 : decode cX10_borneBy 14 = .ok (.iconst 2, 1) := by decide +kernel
theorem dX10_borneBy_15 : decode cX10_borneBy 15 = .ok (.iadd, 1) := by decide +kernel
theorem dX10_borneBy_16 : decode cX10_borneBy 16 = .ok (.iaload, 1) := by decide +kernel
theorem dX10_borneBy_17 : decode cX10_borneBy 17 = .ok (.aload_n 0, 1) := by decide +kernel
theorem dX10_borneBy_18 : decode cX10_borneBy 18 = .ok (.getfield 7, 3) := by decide +kernel
theorem dX10_borneBy_21 : decode cX10_borneBy 21 = .ok (.iload_n 3, 1) := by decide +kernel
theorem dX10_borneBy_22 : decode cX10_borneBy 22 = .ok (.iconst 3, 1) := by decide +kernel
theorem dX10_borneBy_23 : decode cX10_borneBy 23 = .ok (.iadd, 1) := by decide +kernel
theorem dX10_borneBy_24 : decode cX10_borneBy 24 = .ok (.iaload, 1) := by decide +kernel
theorem dX10_borneBy_25 : decode cX10_borneBy 25 = .ok (.aload_n 0, 1) := by decide +kernel
theorem dX10_borneBy_26 : decode cX10_borneBy 26 = .ok (.getfield 7, 3) := by decide +kernel
theorem dX10_borneBy_29 : decode cX10_borneBy 29 = .ok (.iload_n 3, 1) := by decide +kernel
theorem dX10_borneBy_30 : decode cX10_borneBy 30 = .ok (.iconst 4, 1) := by decide +kernel
theorem dX10_borneBy_31 : decode cX10_borneBy 31 = .ok (.iadd, 1) := by decide +kernel
theorem dX10_borneBy_32 : decode cX10_borneBy 32 = .ok (.iaload, 1) := by decide +kernel
theorem dX10_borneBy_33 : decode cX10_borneBy 33 = .ok (.invokevirtual 264, 3) := by decide +kernel
theorem dX10_borneBy_36 : decode cX10_borneBy 36 = .ok (.aload_n 0, 1) := by decide +kernel
theorem dX10_borneBy_37 : decode cX10_borneBy 37 = .ok (.bipush 12, 2) := by decide +kernel
theorem dX10_borneBy_39 : decode cX10_borneBy 39 = .ok (.iload_n 2, 1) := by decide +kernel
theorem dX10_borneBy_40 : decode cX10_borneBy 40 = .ok (.iconst 0, 1) := by decide +kernel
theorem dX10_borneBy_41 : decode cX10_borneBy 41 = .ok (.aload_n 0, 1) := by decide +kernel
theorem dX10_borneBy_42 : decode cX10_borneBy 42 = .ok (.getfield 7, 3) := by decide +kernel
theorem dX10_borneBy_45 : decode cX10_borneBy 45 = .ok (.iload_n 3, 1) := by decide +kernel
theorem dX10_borneBy_46 : decode cX10_borneBy 46 = .ok (.iaload, 1) := by decide +kernel
theorem dX10_borneBy_47 : decode cX10_borneBy 47 = .ok (.invokevirtual 261, 3) := by decide +kernel
theorem dX10_borneBy_50 : decode cX10_borneBy 50 = .ok (.ireturn, 1) := by decide +kernel
theorem dX10_isRead_0 : decode cX10_isRead 0 = .ok (.bipush 55, 2) := by decide +kernel
theorem dX10_isRead_2 : decode cX10_isRead 2 = .ok (.bipush 10, 2) := by decide +kernel
theorem dX10_isRead_4 : decode cX10_isRead 4 = .ok (.iload_n 1, 1) := by decide +kernel
theorem dX10_isRead_5 : decode cX10_isRead 5 = .ok (.imul, 1) := by decide +kernel
theorem dX10_isRead_6 : decode cX10_isRead 6 = .ok (.iadd, 1) := by decide +kernel
theorem dX10_isRead_7 : decode cX10_isRead 7 = .ok (.istore 5, 2) := by decide +kernel
theorem dX10_isRead_9 : decode cX10_isRead 9 = .ok (.aload_n 0, 1) := by decide +kernel
theorem dX10_isRead_10 : decode cX10_isRead 10 = .ok (.getfield 7, 3) := by decide +kernel
theorem dX10_isRead_13 : decode cX10_isRead 13 = .ok (.iload 5, 2) := by decide +kernel
theorem dX10_isRead_15 : decode cX10_isRead 15 = .ok (.bipush 8, 2) := by decide +kernel
theorem dX10_isRead_17 : decode cX10_isRead 17 = .ok (.iadd, 1) := by decide +kernel
theorem dX10_isRead_18 : decode cX10_isRead 18 = .ok (.iaload, 1) := by decide +kernel
theorem dX10_isRead_19 : decode cX10_isRead 19 = .ok (.aload_n 0, 1) := by decide +kernel
theorem dX10_isRead_20 : decode cX10_isRead 20 = .ok (.getfield 7, 3) := by decide +kernel
theorem dX10_isRead_23 : decode cX10_isRead 23 = .ok (.iload 5, 2) := by decide +kernel
theorem dX10_isRead_25 : decode cX10_isRead 25 = .ok (.iaload, 1) := by decide +kernel
theorem dX10_isRead_26 : decode cX10_isRead 26 = .ok (.ifCond .ne 7, 3) := by decide +kernel
theorem dX10_isRead_29 : decode cX10_isRead 29 = .ok (.iload_n 2, 1) := by decide +kernel
theorem dX10_isRead_30 : decode cX10_isRead 30 = .ok (.goto 4, 3) := by decide +kernel
theorem dX10_isRead_33 : decode cX10_isRead 33 = .ok (.iconst 0, 1) := by decide +kernel
theorem dX10_isRead_34 : decode cX10_isRead 34 = .ok (.iadd, 1) := by decide +kernel
theorem dX10_isRead_35 : decode cX10_isRead 35 = .ok (.istore 6, 2) := by decide +kernel
theorem dX10_isRead_37 : decode cX10_isRead 37 = .ok (.aload_n 0, 1) := by decide +kernel
theorem dX10_isRead_38 : decode cX10_isRead 38 = .ok (.getfield 7, 3) := by decide +kernel
theorem dX10_isRead_41 : decode cX10_isRead 41 = .ok (.iload 5, 2) := by decide +kernel
theorem dX10_isRead_43 : decode cX10_isRead 43 = .ok (.bipush 9, 2) := by decide +kernel
theorem dX10_isRead_45 : decode cX10_isRead 45 = .ok (.iadd, 1) := by decide +kernel
theorem dX10_isRead_46 : decode cX10_isRead 46 = .ok (.iaload, 1) := by decide +kernel
theorem dX10_isRead_47 : decode cX10_isRead 47 = .ok (.aload_n 0, 1) := by decide +kernel
theorem dX10_isRead_48 : decode cX10_isRead 48 = .ok (.getfield 7, 3) := by decide +kernel
theorem dX10_isRead_51 : decode cX10_isRead 51 = .ok (.iload 5, 2) := by decide +kernel
theorem dX10_isRead_53 : decode cX10_isRead 53 = .ok (.iaload, 1) := by decide +kernel
theorem dX10_isRead_54 : decode cX10_isRead 54 = .ok (.iconst 1, 1) := by decide +kernel
theorem dX10_isRead_55 : decode cX10_isRead 55 = .ok (.if_icmp .ne 7, 3) := by decide +kernel
theorem dX10_isRead_58 : decode cX10_isRead 58 = .ok (.iload_n 2, 1) := by decide +kernel
theorem dX10_isRead_59 : decode cX10_isRead 59 = .ok (.goto 4, 3) := by decide +kernel
theorem dX10_isRead_62 : decode cX10_isRead 62 = .ok (.iconst 0, 1) := by decide +kernel
theorem dX10_isRead_63 : decode cX10_isRead 63 = .ok (.iadd, 1) := by decide +kernel
theorem dX10_isRead_64 : decode cX10_isRead 64 = .ok (.istore 7, 2) := by decide +kernel
theorem dX10_isRead_66 : decode cX10_isRead 66 = .ok (.iload_n 3, 1) := by decide +kernel
theorem dX10_isRead_67 : decode cX10_isRead 67 = .ok (.iload 6, 2) := by decide +kernel
theorem dX10_isRead_69 : decode cX10_isRead 69 = .ok (.imul, 1) := by decide +kernel
theorem dX10_isRead_70 : decode cX10_isRead 70 = .ok (.iload 4, 2) := by decide +kernel
theorem dX10_isRead_72 : decode cX10_isRead 72 = .ok (.iload 7, 2) := by decide +kernel
theorem dX10_isRead_74 : decode cX10_isRead 74 = .ok (.imul, 1) := by decide +kernel
theorem dX10_isRead_75 : decode cX10_isRead 75 = .ok (.isub, 1) := by decide +kernel
theorem dX10_isRead_76 : decode cX10_isRead 76 = .ok (.bipush 10, 2) := by decide +kernel
theorem dX10_isRead_78 : decode cX10_isRead 78 = .ok (.aload_n 0, 1) := by decide +kernel
theorem dX10_isRead_79 : decode cX10_isRead 79 = .ok (.getfield 7, 3) := by decide +kernel
theorem dX10_isRead_82 : decode cX10_isRead 82 = .ok (.iload 5, 2) := by decide +kernel
theorem dX10_isRead_84 : decode cX10_isRead 84 = .ok (.iconst 4, 1) := by decide +kernel
theorem dX10_isRead_85 : decode cX10_isRead 85 = .ok (.iadd, 1) := by decide +kernel
theorem dX10_isRead_86 : decode cX10_isRead 86 = .ok (.iaload, 1) := by decide +kernel
theorem dX10_isRead_87 : decode cX10_isRead 87 = .ok (.imul, 1) := by decide +kernel
theorem dX10_isRead_88 : decode cX10_isRead 88 = .ok (.iadd, 1) := by decide +kernel
theorem dX10_isRead_89 : decode cX10_isRead 89 = .ok (.aload_n 0, 1) := by decide +kernel
theorem dX10_isRead_90 : decode cX10_isRead 90 = .ok (.getfield 7, 3) := by decide +kernel
theorem dX10_isRead_93 : decode cX10_isRead 93 = .ok (.iload 5, 2) := by decide +kernel
theorem dX10_isRead_95 : decode cX10_isRead 95 = .ok (.bipush 7, 2) := by decide +kernel
theorem dX10_isRead_97 : decode cX10_isRead 97 = .ok (.iadd, 1) := by decide +kernel
theorem dX10_isRead_98 : decode cX10_isRead 98 = .ok (.iaload, 1) := by decide +kernel
theorem dX10_isRead_99 : decode cX10_isRead 99 = .ok (.invokestatic 293, 3) := by decide +kernel
theorem dX10_isRead_102 : decode cX10_isRead 102 = .ok (.aload_n 0, 1) := by decide +kernel
theorem dX10_isRead_103 : decode cX10_isRead 103 = .ok (.getfield 7, 3) := by decide +kernel
theorem dX10_isRead_106 : decode cX10_isRead 106 = .ok (.iload 5, 2) := by decide +kernel
theorem dX10_isRead_108 : decode cX10_isRead 108 = .ok (.iconst 1, 1) := by decide +kernel
theorem dX10_isRead_109 : decode cX10_isRead 109 = .ok (.iadd, 1) := by decide +kernel
theorem dX10_isRead_110 : decode cX10_isRead 110 = .ok (.iaload, 1) := by decide +kernel
theorem dX10_isRead_111 : decode cX10_isRead 111 = .ok (.if_icmp .ne 7, 3) := by decide +kernel
theorem dX10_isRead_114 : decode cX10_isRead 114 = .ok (.iconst 1, 1) := by decide +kernel
theorem dX10_isRead_115 : decode cX10_isRead 115 = .ok (.goto 4, 3) := by decide +kernel
theorem dX10_isRead_118 : decode cX10_isRead 118 = .ok (.iconst 0, 1) := by decide +kernel
theorem dX10_isRead_119 : decode cX10_isRead 119 = .ok (.ireturn, 1) := by decide +kernel
theorem dX10_areRead_0 : decode cX10_areRead 0 = .ok (.iconst 0, 1) := by decide +kernel
theorem dX10_areRead_1 : decode cX10_areRead 1 = .ok (.istore_n 2, 1) := by decide +kernel
theorem dX10_areRead_2 : decode cX10_areRead 2 = .ok (.iload_n 2, 1) := by decide +kernel
theorem dX10_areRead_3 : decode cX10_areRead 3 = .ok (.aload_n 0, 1) := by decide +kernel
theorem dX10_areRead_4 : decode cX10_areRead 4 = .ok (.getfield 7, 3) := by decide +kernel
theorem dX10_areRead_7 : decode cX10_areRead 7 = .ok (.bipush 10, 2) := by decide +kernel
theorem dX10_areRead_9 : decode cX10_areRead 9 = .ok (.iaload, 1) := by decide +kernel
theorem dX10_areRead_10 : decode cX10_areRead 10 = .ok (.if_icmp .ge 54, 3) := by decide +kernel
theorem dX10_areRead_13 : decode cX10_areRead 13 = .ok (.aload_n 0, 1) := by decide +kernel
theorem dX10_areRead_14 : decode cX10_areRead 14 = .ok (.iload_n 2, 1) := by decide +kernel
theorem dX10_areRead_15 : decode cX10_areRead 15 = .ok (.aload_n 0, 1) := by decide +kernel
theorem dX10_areRead_16 : decode cX10_areRead 16 = .ok (.iload_n 2, 1) := by decide +kernel
theorem dX10_areRead_17 : decode cX10_areRead 17 = .ok (.iload_n 1, 1) := by decide +kernel
theorem dX10_areRead_18 : decode cX10_areRead 18 = .ok (.invokevirtual 342, 3) := by decide +kernel
theorem dX10_areRead_21 : decode cX10_areRead 21 = .ok (.aload_n 0, 1) := by decide +kernel
theorem dX10_areRead_22 : decode cX10_areRead 22 = .ok (.getfield 7, 3) := by decide +kernel
theorem dX10_areRead_25 : decode cX10_areRead 25 = .ok (.bipush 55, 2) := by decide +kernel
theorem dX10_areRead_27 : decode cX10_areRead 27 = .ok (.bipush 10, 2) := by decide +kernel
theorem dX10_areRead_29 : decode cX10_areRead 29 = .ok (.iload_n 2, 1) := by decide +kernel
theorem dX10_areRead_30 : decode cX10_areRead 30 = .ok (.imul, 1) := by decide +kernel
theorem dX10_areRead_31 : decode cX10_areRead 31 = .ok (.iadd, 1) := by decide +kernel
theorem dX10_areRead_32 : decode cX10_areRead 32 = .ok (.iconst 5, 1) := by decide +kernel
theorem dX10_areRead_33 : decode cX10_areRead 33 = .ok (.iadd, 1) := by decide +kernel
theorem dX10_areRead_34 : decode cX10_areRead 34 = .ok (.iaload, 1) := by decide +kernel
theorem dX10_areRead_35 : decode cX10_areRead 35 = .ok (.aload_n 0, 1) := by decide +kernel
theorem dX10_areRead_36 : decode cX10_areRead 36 = .ok (.getfield 7, 3) := by decide +kernel
theorem dX10_areRead_39 : decode cX10_areRead 39 = .ok (.bipush 55, 2) := by decide +kernel
theorem dX10_areRead_41 : decode cX10_areRead 41 = .ok (.bipush 10, 2) := by decide +kernel
theorem dX10_areRead_43 : decode cX10_areRead 43 = .ok (.iload_n 2, 1) := by decide +kernel
theorem dX10_areRead_44 : decode cX10_areRead 44 = .ok (.imul, 1) := by decide +kernel
theorem dX10_areRead_45 : decode cX10_areRead 45 = .ok (.iadd, 1) := by decide +kernel
theorem dX10_areRead_46 : decode cX10_areRead 46 = .ok (.bipush 6, 2) := by decide +kernel
theorem dX10_areRead_48 : decode cX10_areRead 48 = .ok (.iadd, 1) := by decide +kernel
theorem dX10_areRead_49 : decode cX10_areRead 49 = .ok (.iaload, 1) := by decide +kernel
theorem dX10_areRead_50 : decode cX10_areRead 50 = .ok (.invokevirtual 345, 3) := by decide +kernel
theorem dX10_areRead_53 : decode cX10_areRead 53 = .ok (.ifCond .ne 5, 3) := by decide +kernel
theorem dX10_areRead_56 : decode cX10_areRead 56 = .ok (.iconst 0, 1) := by decide +kernel
theorem dX10_areRead_57 : decode cX10_areRead 57 = .ok (.ireturn, 1) := by decide +kernel
theorem dX10_areRead_58 : decode cX10_areRead 58 = .ok (.iinc 2 1, 3) := by decide +kernel
theorem dX10_areRead_61 : decode cX10_areRead 61 = .ok (.goto (-59), 3) := by decide +kernel
theorem dX10_areRead_64 : decode cX10_areRead 64 = .ok (.iconst 1, 1) := by decide +kernel
theorem dX10_areRead_65 : decode cX10_areRead 65 = .ok (.ireturn, 1) := by decide +kernel
theorem dX10_span_0 : decode cX10_span 0 = .ok (.iload_n 1, 1) := by decide +kernel
theorem dX10_span_1 : decode cX10_span 1 = .ok (.iconst 0, 1) := by decide +kernel
theorem dX10_span_2 : decode cX10_span 2 = .ok (.iconst 2, 1) := by decide +kernel
theorem dX10_span_3 : decode cX10_span 3 = .ok (.invokestatic 83, 3) := by decide +kernel
theorem dX10_span_6 : decode cX10_span 6 = .ok (.ifCond .ne 5, 3) := by decide +kernel
theorem dX10_span_9 : decode cX10_span 9 = .ok (.iconst (-1), 1) := by decide +kernel
theorem dX10_span_10 : decode cX10_span 10 = .ok (.ireturn, 1) := by decide +kernel
theorem dX10_span_11 : decode cX10_span 11 = .ok (.iconst 0, 1) := by decide +kernel
theorem dX10_span_12 : decode cX10_span 12 = .ok (.istore_n 2, 1) := by decide +kernel
theorem dX10_span_13 : decode cX10_span 13 = .ok (.iconst (-1), 1) := by decide +kernel
theorem dX10_span_14 : decode cX10_span 14 = .ok (.istore_n 3, 1) := by decide +kernel
theorem dX10_span_15 : decode cX10_span 15 = .ok (.iconst (-1), 1) := by decide +kernel
theorem dX10_span_16 : decode cX10_span 16 = .ok (.istore 4, 2) := by decide +kernel
theorem dX10_span_18 : decode cX10_span 18 = .ok (.iconst 1, 1) := by decide +kernel
theorem dX10_span_19 : decode cX10_span 19 = .ok (.istore 5, 2) := by decide +kernel
theorem dX10_span_21 : decode cX10_span 21 = .ok (.iload 5, 2) := by decide +kernel
theorem dX10_span_23 : decode cX10_span 23 = .ok (.sipush 999, 3) := by decide +kernel
theorem dX10_span_26 : decode cX10_span 26 = .ok (.if_icmp .gt 39, 3) := by decide +kernel
theorem dX10_span_29 : decode cX10_span 29 = .ok (.aload_n 0, 1) := by decide +kernel
theorem dX10_span_30 : decode cX10_span 30 = .ok (.iload 5, 2) := by decide +kernel
theorem dX10_span_32 : decode cX10_span 32 = .ok (.invokevirtual 349, 3) := by decide +kernel
theorem dX10_span_35 : decode cX10_span 35 = .ok (.ifCond .ne 6, 3) := by decide +kernel
theorem dX10_span_38 : decode cX10_span 38 = .ok (.goto 21, 3) := by decide +kernel
theorem dX10_span_41 : decode cX10_span 41 = .ok (.iinc 2 1, 3) := by decide +kernel
theorem dX10_span_44 : decode cX10_span 44 = .ok (.iload_n 3, 1) := by decide +kernel
theorem dX10_span_45 : decode cX10_span 45 = .ok (.ifCond .ge 8, 3) := by decide +kernel
theorem dX10_span_48 : decode cX10_span 48 = .ok (.iload 5, 2) := by decide +kernel
theorem dX10_span_50 : decode cX10_span 50 = .ok (.goto 4, 3) := by decide +kernel
theorem dX10_span_53 : decode cX10_span 53 = .ok (.iload_n 3, 1) := by decide +kernel
theorem dX10_span_54 : decode cX10_span 54 = .ok (.istore_n 3, 1) := by decide +kernel
theorem dX10_span_55 : decode cX10_span 55 = .ok (.iload 5, 2) := by decide +kernel
theorem dX10_span_57 : decode cX10_span 57 = .ok (.istore 4, 2) := by decide +kernel
theorem dX10_span_59 : decode cX10_span 59 = .ok (.iinc 5 1, 3) := by decide +kernel
theorem dX10_span_62 : decode cX10_span 62 = .ok (.goto (-41), 3) := by decide +kernel
theorem dX10_span_65 : decode cX10_span 65 = .ok (.iload_n 1, 1) := by decide +kernel
theorem dX10_span_66 : decode cX10_span 66 = .ok (.ifCond .ne 7, 3) := by decide +kernel
theorem dX10_span_69 : decode cX10_span 69 = .ok (.iload_n 2, 1) := by decide +kernel
theorem dX10_span_70 : decode cX10_span 70 = .ok (.goto 14, 3) := by decide +kernel
theorem dX10_span_73 : decode cX10_span 73 = .ok (.iload_n 1, 1) := by decide +kernel
theorem dX10_span_74 : decode cX10_span 74 = .ok (.iconst 1, 1) := by decide +kernel
theorem dX10_span_75 : decode cX10_span 75 = .ok (.if_icmp .ne 7, 3) := by decide +kernel
theorem dX10_span_78 : decode cX10_span 78 = .ok (.iload_n 3, 1) := by decide +kernel
theorem dX10_span_79 : decode cX10_span 79 = .ok (.goto 5, 3) := by decide +kernel
theorem dX10_span_82 : decode cX10_span 82 = .ok (.iload 4, 2) := by decide +kernel
theorem dX10_span_84 : decode cX10_span 84 = .ok (.ireturn, 1) := by decide +kernel
theorem dX10_bent_0 : decode cX10_bent 0 = .ok (.iload_n 1, 1) := by decide +kernel
theorem dX10_bent_1 : decode cX10_bent 1 = .ok (.iconst 1, 1) := by decide +kernel
theorem dX10_bent_2 : decode cX10_bent 2 = .ok (.sipush 999, 3) := by decide +kernel
theorem dX10_bent_5 : decode cX10_bent 5 = .ok (.invokestatic 83, 3) := by decide +kernel
theorem dX10_bent_8 : decode cX10_bent 8 = .ok (.ifCond .eq 12, 3) := by decide +kernel
theorem dX10_bent_11 : decode cX10_bent 11 = .ok (.iload_n 2, 1) := by decide +kernel
theorem dX10_bent_12 : decode cX10_bent 12 = .ok (.iconst 0, 1) := by decide +kernel
theorem dX10_bent_13 : decode cX10_bent 13 = .ok (.iconst 1, 1) := by decide +kernel
theorem dX10_bent_14 : decode cX10_bent 14 = .ok (.invokestatic 83, 3) := by decide +kernel
theorem dX10_bent_17 : decode cX10_bent 17 = .ok (.ifCond .ne 5, 3) := by decide +kernel
theorem dX10_bent_20 : decode cX10_bent 20 = .ok (.iconst (-1), 1) := by decide +kernel
theorem dX10_bent_21 : decode cX10_bent 21 = .ok (.ireturn, 1) := by decide +kernel
theorem dX10_bent_22 : decode cX10_bent 22 = .ok (.iconst 0, 1) := by decide +kernel
theorem dX10_bent_23 : decode cX10_bent 23 = .ok (.istore_n 3, 1) := by decide +kernel
theorem dX10_bent_24 : decode cX10_bent 24 = .ok (.iload_n 3, 1) := by decide +kernel
theorem dX10_bent_25 : decode cX10_bent 25 = .ok (.aload_n 0, 1) := by decide +kernel
theorem dX10_bent_26 : decode cX10_bent 26 = .ok (.getfield 7, 3) := by decide +kernel
theorem dX10_bent_29 : decode cX10_bent 29 = .ok (.bipush 10, 2) := by decide +kernel
theorem dX10_bent_31 : decode cX10_bent 31 = .ok (.iaload, 1) := by decide +kernel
theorem dX10_bent_32 : decode cX10_bent 32 = .ok (.if_icmp .ge 21, 3) := by decide +kernel
theorem dX10_bent_35 : decode cX10_bent 35 = .ok (.aload_n 0, 1) := by decide +kernel
theorem dX10_bent_36 : decode cX10_bent 36 = .ok (.getfield 61, 3) := by decide +kernel
theorem dX10_bent_39 : decode cX10_bent 39 = .ok (.iload_n 3, 1) := by decide +kernel
theorem dX10_bent_40 : decode cX10_bent 40 = .ok (.aload_n 0, 1) := by decide +kernel
theorem dX10_bent_41 : decode cX10_bent 41 = .ok (.iload_n 3, 1) := by decide +kernel
theorem dX10_bent_42 : decode cX10_bent 42 = .ok (.iload_n 1, 1) := by decide +kernel
theorem dX10_bent_43 : decode cX10_bent 43 = .ok (.invokevirtual 342, 3) := by decide +kernel
theorem dX10_bent_46 : decode cX10_bent 46 = .ok (.iastore, 1) := by decide +kernel
theorem dX10_bent_47 : decode cX10_bent 47 = .ok (.iinc 3 1, 3) := by decide +kernel
theorem dX10_bent_50 : decode cX10_bent 50 = .ok (.goto (-26), 3) := by decide +kernel
theorem dX10_bent_53 : decode cX10_bent 53 = .ok (.iconst 0, 1) := by decide +kernel
theorem dX10_bent_54 : decode cX10_bent 54 = .ok (.istore_n 3, 1) := by decide +kernel
theorem dX10_bent_55 : decode cX10_bent 55 = .ok (.iconst (-1), 1) := by decide +kernel
theorem dX10_bent_56 : decode cX10_bent 56 = .ok (.istore 4, 2) := by decide +kernel
theorem dX10_bent_58 : decode cX10_bent 58 = .ok (.iconst 1, 1) := by decide +kernel
theorem dX10_bent_59 : decode cX10_bent 59 = .ok (.istore 5, 2) := by decide +kernel
theorem dX10_bent_61 : decode cX10_bent 61 = .ok (.iload 5, 2) := by decide +kernel
theorem dX10_bent_63 : decode cX10_bent 63 = .ok (.bipush 20, 2) := by decide +kernel
theorem dX10_bent_65 : decode cX10_bent 65 = .ok (.if_icmp .gt 112, 3) := by decide +kernel
theorem dX10_bent_68 : decode cX10_bent 68 = .ok (.iconst 1, 1) := by decide +kernel
theorem dX10_bent_69 : decode cX10_bent 69 = .ok (.istore 6, 2) := by decide +kernel
theorem dX10_bent_71 : decode cX10_bent 71 = .ok (.iload 6, 2) := by decide +kernel
theorem dX10_bent_73 : decode cX10_bent 73 = .ok (.bipush 20, 2) := by decide +kernel
theorem dX10_bent_75 : decode cX10_bent 75 = .ok (.if_icmp .gt 96, 3) := by decide +kernel
theorem dX10_bent_78 : decode cX10_bent 78 = .ok (.iconst 1, 1) := by decide +kernel
theorem dX10_bent_79 : decode cX10_bent 79 = .ok (.istore 7, 2) := by decide +kernel
theorem dX10_bent_81 : decode cX10_bent 81 = .ok (.iconst 0, 1) := by decide +kernel
theorem dX10_bent_82 : decode cX10_bent 82 = .ok (.istore 8, 2) := by decide +kernel
theorem dX10_bent_84 : decode cX10_bent 84 = .ok (.iload 8, 2) := by decide +kernel
theorem dX10_bent_86 : decode cX10_bent 86 = .ok (.aload_n 0, 1) := by decide +kernel
theorem dX10_bent_87 : decode cX10_bent 87 = .ok (.getfield 7, 3) := by decide +kernel
theorem dX10_bent_90 : decode cX10_bent 90 = .ok (.bipush 10, 2) := by decide +kernel
theorem dX10_bent_92 : decode cX10_bent 92 = .ok (.iaload, 1) := by decide +kernel
theorem dX10_bent_93 : decode cX10_bent 93 = .ok (.if_icmp .ge 41, 3) := by decide +kernel
theorem dX10_bent_96 : decode cX10_bent 96 = .ok (.iload 7, 2) := by decide +kernel
theorem dX10_bent_98 : decode cX10_bent 98 = .ok (.ifCond .eq 27, 3) := by decide +kernel
theorem dX10_bent_101 : decode cX10_bent 101 = .ok (.aload_n 0, 1) := by decide +kernel
theorem dX10_bent_102 : decode cX10_bent 102 = .ok (.iload 8, 2) := by decide +kernel
theorem dX10_bent_104 : decode cX10_bent 104 = .ok (.aload_n 0, 1) := by decide +kernel
theorem dX10_bent_105 : decode cX10_bent 105 = .ok (.getfield 61, 3) := by decide +kernel
theorem dX10_bent_108 : decode cX10_bent 108 = .ok (.iload 8, 2) := by decide +kernel
theorem dX10_bent_110 : decode cX10_bent 110 = .ok (.iaload, 1) := by decide +kernel
theorem dX10_bent_111 : decode cX10_bent 111 = .ok (.iload 5, 2) := by decide +kernel
theorem dX10_bent_113 : decode cX10_bent 113 = .ok (.iload 6, 2) := by decide +kernel
theorem dX10_bent_115 : decode cX10_bent 115 = .ok (.invokevirtual 345, 3) := by decide +kernel
theorem dX10_bent_118 : decode cX10_bent 118 = .ok (.ifCond .eq 7, 3) := by decide +kernel
theorem dX10_bent_121 : decode cX10_bent 121 = .ok (.iconst 1, 1) := by decide +kernel
theorem dX10_bent_122 : decode cX10_bent 122 = .ok (.goto 4, 3) := by decide +kernel
theorem dX10_bent_125 : decode cX10_bent 125 = .ok (.iconst 0, 1) := by decide +kernel
theorem dX10_bent_126 : decode cX10_bent 126 = .ok (.istore 7, 2) := by decide +kernel
theorem dX10_bent_128 : decode cX10_bent 128 = .ok (.iinc 8 1, 3) := by decide +kernel
theorem dX10_bent_131 : decode cX10_bent 131 = .ok (.goto (-47), 3) := by decide +kernel
theorem dX10_bent_134 : decode cX10_bent 134 = .ok (.iload 7, 2) := by decide +kernel
theorem dX10_bent_136 : decode cX10_bent 136 = .ok (.ifCond .ne 6, 3) := by decide +kernel
theorem dX10_bent_139 : decode cX10_bent 139 = .ok (.goto 26, 3) := by decide +kernel
theorem dX10_bent_142 : decode cX10_bent 142 = .ok (.iinc 3 1, 3) := by decide +kernel
theorem dX10_bent_145 : decode cX10_bent 145 = .ok (.iload 4, 2) := by decide +kernel
theorem dX10_bent_147 : decode cX10_bent 147 = .ok (.ifCond .ge 14, 3) := by decide +kernel
theorem dX10_bent_150 : decode cX10_bent 150 = .ok (.bipush 100, 2) := by decide +kernel
theorem dX10_bent_152 : decode cX10_bent 152 = .ok (.iload 5, 2) := by decide +kernel
theorem dX10_bent_154 : decode cX10_bent 154 = .ok (.imul, 1) := by decide +kernel
theorem dX10_bent_155 : decode cX10_bent 155 = .ok (.iload 6, 2) := by decide +kernel
theorem dX10_bent_157 : decode cX10_bent 157 = .ok (.iadd, 1) := by decide +kernel
theorem dX10_bent_158 : decode cX10_bent 158 = .ok (.goto 5, 3) := by decide +kernel
theorem dX10_bent_161 : decode cX10_bent 161 = .ok (.iload 4, 2) := by decide +kernel
theorem dX10_bent_163 : decode cX10_bent 163 = .ok (.istore 4, 2) := by decide +kernel
theorem dX10_bent_165 : decode cX10_bent 165 = .ok (.iinc 6 1, 3) := by decide +kernel
theorem dX10_bent_168 : decode cX10_bent 168 = .ok (.goto (-97), 3) := by decide +kernel
theorem dX10_bent_171 : decode cX10_bent 171 = .ok (.iinc 5 1, 3) := by decide +kernel
theorem dX10_bent_174 : decode cX10_bent 174 = .ok (.goto (-113), 3) := by decide +kernel
theorem dX10_bent_177 : decode cX10_bent 177 = .ok (.iload_n 2, 1) := by decide +kernel
theorem dX10_bent_178 : decode cX10_bent 178 = .ok (.ifCond .ne 7, 3) := by decide +kernel
theorem dX10_bent_181 : decode cX10_bent 181 = .ok (.iload_n 3, 1) := by decide +kernel
theorem dX10_bent_182 : decode cX10_bent 182 = .ok (.goto 5, 3) := by decide +kernel
theorem dX10_bent_185 : decode cX10_bent 185 = .ok (.iload 4, 2) := by decide +kernel
theorem dX10_bent_187 : decode cX10_bent 187 = .ok (.ireturn, 1) := by decide +kernel
theorem dX10_tryBalanced_0 : decode cX10_tryBalanced 0 = .ok (.iload_n 1, 1) := by decide +kernel
theorem dX10_tryBalanced_1 : decode cX10_tryBalanced 1 = .ok (.invokestatic 318, 3) := by decide +kernel
theorem dX10_tryBalanced_4 : decode cX10_tryBalanced 4 = .ok (.istore_n 3, 1) := by decide +kernel
theorem dX10_tryBalanced_5 : decode cX10_tryBalanced 5 = .ok (.aload_n 0, 1) := by decide +kernel
theorem dX10_tryBalanced_6 : decode cX10_tryBalanced 6 = .ok (.getfield 64, 3) := by decide +kernel
theorem dX10_tryBalanced_9 : decode cX10_tryBalanced 9 = .ok (.iconst 0, 1) := by decide +kernel
theorem dX10_tryBalanced_10 : decode cX10_tryBalanced 10 = .ok (.iaload, 1) := by decide +kernel
theorem dX10_tryBalanced_11 : decode cX10_tryBalanced 11 = .ok (.ifCond .lt 53, 3) := by decide +kernel
theorem dX10_tryBalanced_14 : decode cX10_tryBalanced 14 = .ok (.iload_n 3, 1) := by decide +kernel
theorem dX10_tryBalanced_15 : decode cX10_tryBalanced 15 = .ok (.aload_n 0, 1) := by decide +kernel
theorem dX10_tryBalanced_16 : decode cX10_tryBalanced 16 = .ok (.getfield 64, 3) := by decide +kernel
theorem dX10_tryBalanced_19 : decode cX10_tryBalanced 19 = .ok (.iconst 0, 1) := by decide +kernel
theorem dX10_tryBalanced_20 : decode cX10_tryBalanced 20 = .ok (.iaload, 1) := by decide +kernel
theorem dX10_tryBalanced_21 : decode cX10_tryBalanced 21 = .ok (.if_icmp .lt 43, 3) := by decide +kernel
theorem dX10_tryBalanced_24 : decode cX10_tryBalanced 24 = .ok (.iload_n 3, 1) := by decide +kernel
theorem dX10_tryBalanced_25 : decode cX10_tryBalanced 25 = .ok (.aload_n 0, 1) := by decide +kernel
theorem dX10_tryBalanced_26 : decode cX10_tryBalanced 26 = .ok (.getfield 64, 3) := by decide +kernel
theorem dX10_tryBalanced_29 : decode cX10_tryBalanced 29 = .ok (.iconst 0, 1) := by decide +kernel
theorem dX10_tryBalanced_30 : decode cX10_tryBalanced 30 = .ok (.iaload, 1) := by decide +kernel
theorem dX10_tryBalanced_31 : decode cX10_tryBalanced 31 = .ok (.if_icmp .ne 37, 3) := by decide +kernel
theorem dX10_tryBalanced_34 : decode cX10_tryBalanced 34 = .ok (.iload_n 1, 1) := by decide +kernel
theorem dX10_tryBalanced_35 : decode cX10_tryBalanced 35 = .ok (.aload_n 0, 1) := by decide +kernel
theorem dX10_tryBalanced_36 : decode cX10_tryBalanced 36 = .ok (.getfield 64, 3) := by decide +kernel
theorem dX10_tryBalanced_39 : decode cX10_tryBalanced 39 = .ok (.iconst 1, 1) := by decide +kernel
theorem dX10_tryBalanced_40 : decode cX10_tryBalanced 40 = .ok (.iaload, 1) := by decide +kernel
theorem dX10_tryBalanced_41 : decode cX10_tryBalanced 41 = .ok (.if_icmp .lt 23, 3) := by decide +kernel
theorem dX10_tryBalanced_44 : decode cX10_tryBalanced 44 = .ok (.iload_n 1, 1) := by decide +kernel
theorem dX10_tryBalanced_45 : decode cX10_tryBalanced 45 = .ok (.aload_n 0, 1) := by decide +kernel
theorem dX10_tryBalanced_46 : decode cX10_tryBalanced 46 = .ok (.getfield 64, 3) := by decide +kernel
theorem dX10_tryBalanced_49 : decode cX10_tryBalanced 49 = .ok (.iconst 1, 1) := by decide +kernel
theorem dX10_tryBalanced_50 : decode cX10_tryBalanced 50 = .ok (.iaload, 1) := by decide +kernel
theorem dX10_tryBalanced_51 : decode cX10_tryBalanced 51 = .ok (.if_icmp .ne 17, 3) := by decide +kernel
theorem dX10_tryBalanced_54 : decode cX10_tryBalanced 54 = .ok (.iload_n 2, 1) := by decide +kernel
theorem dX10_tryBalanced_55 : decode cX10_tryBalanced 55 = .ok (.aload_n 0, 1) := by decide +kernel
theorem dX10_tryBalanced_56 : decode cX10_tryBalanced 56 = .ok (.getfield 64, 3) := by decide +kernel
theorem dX10_tryBalanced_59 : decode cX10_tryBalanced 59 = .ok (.iconst 2, 1) := by decide +kernel
theorem dX10_tryBalanced_60 : decode cX10_tryBalanced 60 = .ok (.iaload, 1) := by decide +kernel
theorem dX10_tryBalanced_61 : decode cX10_tryBalanced 61 = .ok (.if_icmp .ge 7, 3) := by decide +kernel
theorem dX10_tryBalanced_64 : decode cX10_tryBalanced 64 = .ok (.iconst 1, 1) := by decide +kernel
theorem dX10_tryBalanced_65 : decode cX10_tryBalanced 65 = .ok (.goto 4, 3) := by decide +kernel
theorem dX10_tryBalanced_68 : decode cX10_tryBalanced 68 = .ok (.iconst 0, 1) := by decide +kernel
theorem dX10_tryBalanced_69 : decode cX10_tryBalanced 69 = .ok (.istore 4, 2) := by decide +kernel
theorem dX10_tryBalanced_71 : decode cX10_tryBalanced 71 = .ok (.iload 4, 2) := by decide +kernel
theorem dX10_tryBalanced_73 : decode cX10_tryBalanced 73 = .ok (.ifCond .ne 4, 3) := by decide +kernel
theorem dX10_tryBalanced_76 : decode cX10_tryBalanced 76 = .ok (.return_, 1) := by decide +kernel
theorem dX10_tryBalanced_77 : decode cX10_tryBalanced 77 = .ok (.aload_n 0, 1) := by decide +kernel
theorem dX10_tryBalanced_78 : decode cX10_tryBalanced 78 = .ok (.getfield 64, 3) := by decide +kernel
theorem dX10_tryBalanced_81 : decode cX10_tryBalanced 81 = .ok (.iconst 0, 1) := by decide +kernel
theorem dX10_tryBalanced_82 : decode cX10_tryBalanced 82 = .ok (.iload_n 3, 1) := by decide +kernel
theorem dX10_tryBalanced_83 : decode cX10_tryBalanced 83 = .ok (.iastore, 1) := by decide +kernel
theorem dX10_tryBalanced_84 : decode cX10_tryBalanced 84 = .ok (.aload_n 0, 1) := by decide +kernel
theorem dX10_tryBalanced_85 : decode cX10_tryBalanced 85 = .ok (.getfield 64, 3) := by decide +kernel
theorem dX10_tryBalanced_88 : decode cX10_tryBalanced 88 = .ok (.iconst 1, 1) := by decide +kernel
theorem dX10_tryBalanced_89 : decode cX10_tryBalanced 89 = .ok (.iload_n 1, 1) := by decide +kernel
theorem dX10_tryBalanced_90 : decode cX10_tryBalanced 90 = .ok (.iastore, 1) := by decide +kernel
theorem dX10_tryBalanced_91 : decode cX10_tryBalanced 91 = .ok (.aload_n 0, 1) := by decide +kernel
theorem dX10_tryBalanced_92 : decode cX10_tryBalanced 92 = .ok (.getfield 64, 3) := by decide +kernel
theorem dX10_tryBalanced_95 : decode cX10_tryBalanced 95 = .ok (.iconst 2, 1) := by decide +kernel
theorem dX10_tryBalanced_96 : decode cX10_tryBalanced 96 = .ok (.iload_n 2, 1) := by decide +kernel
theorem dX10_tryBalanced_97 : decode cX10_tryBalanced 97 = .ok (.iastore, 1) := by decide +kernel
theorem dX10_tryBalanced_98 : decode cX10_tryBalanced 98 = .ok (.return_, 1) := by decide +kernel
theorem dX10_balanced_0 : decode cX10_balanced 0 = .ok (.iload_n 1, 1) := by decide +kernel
theorem dX10_balanced_1 : decode cX10_balanced 1 = .ok (.iconst 1, 1) := by decide +kernel
theorem dX10_balanced_2 : decode cX10_balanced 2 = .ok (.sipush 999, 3) := by decide +kernel
theorem dX10_balanced_5 : decode cX10_balanced 5 = .ok (.invokestatic 83, 3) := by decide +kernel
theorem dX10_balanced_8 : decode cX10_balanced 8 = .ok (.ifCond .eq 12, 3) := by decide +kernel
theorem dX10_balanced_11 : decode cX10_balanced 11 = .ok (.iload_n 2, 1) := by decide +kernel
theorem dX10_balanced_12 : decode cX10_balanced 12 = .ok (.iconst 0, 1) := by decide +kernel
theorem dX10_balanced_13 : decode cX10_balanced 13 = .ok (.iconst 2, 1) := by decide +kernel
theorem dX10_balanced_14 : decode cX10_balanced 14 = .ok (.invokestatic 83, 3) := by decide +kernel
theorem dX10_balanced_17 : decode cX10_balanced 17 = .ok (.ifCond .ne 5, 3) := by decide +kernel
theorem dX10_balanced_20 : decode cX10_balanced 20 = .ok (.iconst (-1), 1) := by decide +kernel
theorem dX10_balanced_21 : decode cX10_balanced 21 = .ok (.ireturn, 1) := by decide +kernel
theorem dX10_balanced_22 : decode cX10_balanced 22 = .ok (.iconst 1, 1) := by decide +kernel
theorem dX10_balanced_23 : decode cX10_balanced 23 = .ok (.aload_n 0, 1) := by decide +kernel
theorem dX10_balanced_24 : decode cX10_balanced 24 = .ok (.getfield 7, 3) := by decide +kernel
theorem dX10_balanced_27 : decode cX10_balanced 27 = .ok (.iconst 0, 1) := by decide +kernel
theorem dX10_balanced_28 : decode cX10_balanced 28 = .ok (.iaload, 1) := by decide +kernel
theorem dX10_balanced_29 : decode cX10_balanced 29 = .ok (.ishl, 1) := by decide +kernel
theorem dX10_balanced_30 : decode cX10_balanced 30 = .ok (.iconst 1, 1) := by decide +kernel
theorem dX10_balanced_31 : decode cX10_balanced 31 = .ok (.isub, 1) := by decide +kernel
theorem dX10_balanced_32 : decode cX10_balanced 32 = .ok (.istore_n 3, 1) := by decide +kernel
theorem dX10_balanced_33 : decode cX10_balanced 33 = .ok (.iconst 0, 1) := by decide +kernel
theorem dX10_balanced_34 : decode cX10_balanced 34 = .ok (.istore 4, 2) := by decide +kernel
theorem dX10_balanced_36 : decode cX10_balanced 36 = .ok (.iload 4, 2) := by decide +kernel
theorem dX10_balanced_38 : decode cX10_balanced 38 = .ok (.iload_n 3, 1) := by decide +kernel
theorem dX10_balanced_39 : decode cX10_balanced 39 = .ok (.if_icmp .gt 71, 3) := by decide +kernel
theorem dX10_balanced_42 : decode cX10_balanced 42 = .ok (.aload_n 0, 1) := by decide +kernel
theorem dX10_balanced_43 : decode cX10_balanced 43 = .ok (.getfield 67, 3) := by decide +kernel
theorem dX10_balanced_46 : decode cX10_balanced 46 = .ok (.iload 4, 2) := by decide +kernel
theorem dX10_balanced_48 : decode cX10_balanced 48 = .ok (.iconst 0, 1) := by decide +kernel
theorem dX10_balanced_49 : decode cX10_balanced 49 = .ok (.iastore, 1) := by decide +kernel
theorem dX10_balanced_50 : decode cX10_balanced 50 = .ok (.iconst 0, 1) := by decide +kernel
theorem dX10_balanced_51 : decode cX10_balanced 51 = .ok (.istore 5, 2) := by decide +kernel
theorem dX10_balanced_53 : decode cX10_balanced 53 = .ok (.iload 5, 2) := by decide +kernel
theorem dX10_balanced_55 : decode cX10_balanced 55 = .ok (.aload_n 0, 1) := by decide +kernel
theorem dX10_balanced_56 : decode cX10_balanced 56 = .ok (.getfield 7, 3) := by decide +kernel
theorem dX10_balanced_59 : decode cX10_balanced 59 = .ok (.iconst 0, 1) := by decide +kernel
theorem dX10_balanced_60 : decode cX10_balanced 60 = .ok (.iaload, 1) := by decide +kernel
theorem dX10_balanced_61 : decode cX10_balanced 61 = .ok (.if_icmp .ge 43, 3) := by decide +kernel
theorem dX10_balanced_64 : decode cX10_balanced 64 = .ok (.aload_n 0, 1) := by decide +kernel
theorem dX10_balanced_65 : decode cX10_balanced 65 = .ok (.getfield 67, 3) := by decide +kernel
theorem dX10_balanced_68 : decode cX10_balanced 68 = .ok (.iload 4, 2) := by decide +kernel
theorem dX10_balanced_70 : decode cX10_balanced 70 = .ok (.dup2, 1) := by decide +kernel
theorem dX10_balanced_71 : decode cX10_balanced 71 = .ok (.iaload, 1) := by decide +kernel
theorem dX10_balanced_72 : decode cX10_balanced 72 = .ok (.iload 4, 2) := by decide +kernel
theorem dX10_balanced_74 : decode cX10_balanced 74 = .ok (.iload 5, 2) := by decide +kernel
theorem dX10_balanced_76 : decode cX10_balanced 76 = .ok (.invokestatic 321, 3) := by decide +kernel
theorem dX10_balanced_79 : decode cX10_balanced 79 = .ok (.ifCond .eq 16, 3) := by decide +kernel
theorem dX10_balanced_82 : decode cX10_balanced 82 = .ok (.aload_n 0, 1) := by decide +kernel
theorem dX10_balanced_83 : decode cX10_balanced 83 = .ok (.getfield 7, 3) := by decide +kernel
theorem dX10_balanced_86 : decode cX10_balanced 86 = .ok (.iload 5, 2) := by decide +kernel
theorem dX10_balanced_88 : decode cX10_balanced 88 = .ok (.invokestatic 87, 3) := by decide +kernel
theorem dX10_balanced_91 : decode cX10_balanced 91 = .ok (.iaload, 1) := by decide +kernel
theorem dX10_balanced_92 : decode cX10_balanced 92 = .ok (.goto 4, 3) := by decide +kernel
theorem dX10_balanced_95 : decode cX10_balanced 95 = .ok (.iconst 0, 1) := by decide +kernel
theorem dX10_balanced_96 : decode cX10_balanced 96 = .ok (.iadd, 1) := by decide +kernel
theorem dX10_balanced_97 : decode cX10_balanced 97 = .ok (.iastore, 1) := by decide +kernel
theorem dX10_balanced_98 : decode cX10_balanced 98 = .ok (.iinc 5 1, 3) := by decide +kernel
theorem dX10_balanced_101 : decode cX10_balanced 101 = .ok (.goto (-48), 3) := by decide +kernel
theorem dX10_balanced_104 : decode cX10_balanced 104 = .ok (.iinc 4 1, 3) := by decide +kernel
theorem dX10_balanced_107 : decode cX10_balanced 107 = .ok (.goto (-71), 3) := by decide +kernel
theorem dX10_balanced_110 : decode cX10_balanced 110 = .ok (.aload_n 0, 1) := by decide +kernel
theorem dX10_balanced_111 : decode cX10_balanced 111 = .ok (.getfield 64, 3) := by decide +kernel
theorem dX10_balanced_114 : decode cX10_balanced 114 = .ok (.iconst 0, 1) := by decide +kernel
theorem dX10_balanced_115 : decode cX10_balanced 115 = .ok (.iconst (-1), 1) := by decide +kernel
theorem dX10_balanced_116 : decode cX10_balanced 116 = .ok (.iastore, 1) := by decide +kernel
theorem dX10_balanced_117 : decode cX10_balanced 117 = .ok (.iconst 1, 1) := by decide +kernel
theorem dX10_balanced_118 : decode cX10_balanced 118 = .ok (.istore 4, 2) := by decide +kernel
theorem dX10_balanced_120 : decode cX10_balanced 120 = .ok (.iload 4, 2) := by decide +kernel
theorem dX10_balanced_122 : decode cX10_balanced 122 = .ok (.iload_n 3, 1) := by decide +kernel
theorem dX10_balanced_123 : decode cX10_balanced 123 = .ok (.if_icmp .gt 85, 3) := by decide +kernel
theorem dX10_balanced_126 : decode cX10_balanced 126 = .ok (.aload_n 0, 1) := by decide +kernel
theorem dX10_balanced_127 : decode cX10_balanced 127 = .ok (.getfield 64, 3) := by decide +kernel
theorem dX10_balanced_130 : decode cX10_balanced 130 = .ok (.iconst 0, 1) := by decide +kernel
theorem dX10_balanced_131 : decode cX10_balanced 131 = .ok (.iaload, 1) := by decide +kernel
theorem dX10_balanced_132 : decode cX10_balanced 132 = .ok (.ifCond .lt 20, 3) := by decide +kernel
theorem dX10_balanced_135 : decode cX10_balanced 135 = .ok (.iload 4, 2) := by decide +kernel
theorem dX10_balanced_137 : decode cX10_balanced 137 = .ok (.invokestatic 318, 3) := by decide +kernel
theorem dX10_balanced_140 : decode cX10_balanced 140 = .ok (.aload_n 0, 1) := by decide +kernel
theorem dX10_balanced_141 : decode cX10_balanced 141 = .ok (.getfield 64, 3) := by decide +kernel
theorem dX10_balanced_144 : decode cX10_balanced 144 = .ok (.iconst 0, 1) := by decide +kernel
theorem dX10_balanced_145 : decode cX10_balanced 145 = .ok (.iaload, 1) := by decide +kernel
theorem dX10_balanced_146 : decode cX10_balanced 146 = .ok (.if_icmp .le 6, 3) := by decide +kernel
theorem dX10_balanced_149 : decode cX10_balanced 149 = .ok (.goto 53, 3) := by decide +kernel
theorem dX10_balanced_152 : decode cX10_balanced 152 = .ok (.iload 4, 2) := by decide +kernel
theorem dX10_balanced_154 : decode cX10_balanced 154 = .ok (.istore 5, 2) := by decide +kernel
theorem dX10_balanced_156 : decode cX10_balanced 156 = .ok (.iload 5, 2) := by decide +kernel
theorem dX10_balanced_158 : decode cX10_balanced 158 = .ok (.ifCond .le 44, 3) := by decide +kernel
theorem dX10_balanced_161 : decode cX10_balanced 161 = .ok (.iload 5, 2) := by decide +kernel
theorem dX10_balanced_163 : decode cX10_balanced 163 = .ok (.iconst 1, 1) := by decide +kernel
theorem dX10_balanced_164 : decode cX10_balanced 164 = .ok (.isub, 1) := by decide +kernel
theorem dX10_balanced_165 : decode cX10_balanced 165 = .ok (.iload 4, 2) := by decide +kernel
theorem dX10_balanced_167 : decode cX10_balanced 167 = .ok (.iand, 1) := by decide +kernel
theorem dX10_balanced_168 : decode cX10_balanced 168 = .ok (.istore 5, 2) := by decide +kernel
theorem dX10_balanced_170 : decode cX10_balanced 170 = .ok (.aload_n 0, 1) := by decide +kernel
theorem dX10_balanced_171 : decode cX10_balanced 171 = .ok (.getfield 67, 3) := by decide +kernel
theorem dX10_balanced_174 : decode cX10_balanced 174 = .ok (.iload 4, 2) := by decide +kernel
theorem dX10_balanced_176 : decode cX10_balanced 176 = .ok (.iaload, 1) := by decide +kernel
theorem dX10_balanced_177 : decode cX10_balanced 177 = .ok (.iconst 2, 1) := by decide +kernel
theorem dX10_balanced_178 : decode cX10_balanced 178 = .ok (.aload_n 0, 1) := by decide +kernel
theorem dX10_balanced_179 : decode cX10_balanced 179 = .ok (.getfield 67, 3) := by decide +kernel
theorem dX10_balanced_182 : decode cX10_balanced 182 = .ok (.iload 5, 2) := by decide +kernel
theorem dX10_balanced_184 : decode cX10_balanced 184 = .ok (.iaload, 1) := by decide +kernel
theorem dX10_balanced_185 : decode cX10_balanced 185 = .ok (.imul, 1) := by decide +kernel
theorem dX10_balanced_186 : decode cX10_balanced 186 = .ok (.isub, 1) := by decide +kernel
theorem dX10_balanced_187 : decode cX10_balanced 187 = .ok (.iload_n 1, 1) := by decide +kernel
theorem dX10_balanced_188 : decode cX10_balanced 188 = .ok (.if_icmp .ne (-32), 3) := by decide +kernel
theorem dX10_balanced_191 : decode cX10_balanced 191 = .ok (.aload_n 0, 1) := by decide +kernel
theorem dX10_balanced_192 : decode cX10_balanced 192 = .ok (.iload 4, 2) := by decide +kernel
theorem dX10_balanced_194 : decode cX10_balanced 194 = .ok (.iload 5, 2) := by decide +kernel
theorem dX10_balanced_196 : decode cX10_balanced 196 = .ok (.invokevirtual 352, 3) := by decide +kernel
theorem dX10_balanced_199 : decode cX10_balanced 199 = .ok (.goto (-43), 3) := by decide +kernel
theorem dX10_balanced_202 : decode cX10_balanced 202 = .ok (.iinc 4 1, 3) := by decide +kernel
theorem dX10_balanced_205 : decode cX10_balanced 205 = .ok (.goto (-85), 3) := by decide +kernel
theorem dX10_balanced_208 : decode cX10_balanced 208 = .ok (.aload_n 0, 1) := by decide +kernel
theorem dX10_balanced_209 : decode cX10_balanced 209 = .ok (.getfield 64, 3) := by decide +kernel
theorem dX10_balanced_212 : decode cX10_balanced 212 = .ok (.iconst 0, 1) := by decide +kernel
theorem dX10_balanced_213 : decode cX10_balanced 213 = .ok (.iaload, 1) := by decide +kernel
theorem dX10_balanced_214 : decode cX10_balanced 214 = .ok (.ifCond .ge 7, 3) := by decide +kernel
theorem dX10_balanced_217 : decode cX10_balanced 217 = .ok (.iconst (-1), 1) := by decide +kernel
theorem dX10_balanced_218 : decode cX10_balanced 218 = .ok (.goto 9, 3) := by decide +kernel
theorem dX10_balanced_221 : decode cX10_balanced 221 = .ok (.aload_n 0, 1) := by decide +kernel
theorem dX10_balanced_222 : decode cX10_balanced 222 = .ok (.getfield 64, 3) := by decide +kernel
theorem dX10_balanced_225 : decode cX10_balanced 225 = .ok (.iload_n 2, 1) := by decide +kernel
theorem dX10_balanced_226 : decode cX10_balanced 226 = .ok (.iaload, 1) := by decide +kernel
theorem dX10_balanced_227 : decode cX10_balanced 227 = .ok (.ireturn, 1) := by decide +kernel
theorem dX10_makes_0 : decode cX10_makes 0 = .ok (.iconst 0, 1) := by decide +kernel
theorem dX10_makes_1 : decode cX10_makes 1 = .ok (.istore_n 3, 1) := by decide +kernel
