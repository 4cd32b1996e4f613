theorem dX9_reading_76 : decode cX9_reading 76 = .ok (.putfield 234, 3) := by decide +kernel
theorem dX9_reading_79 : decode cX9_reading 79 = .ok (.aload_n 3, 1) := by decide +kernel
theorem dX9_reading_80 : decode cX9_reading 80 = .ok (.aload_n 0, 1) := by decide +kernel
theorem dX9_reading_81 : decode cX9_reading 81 = .ok (.getfield 44, 3) := by decide +kernel
theorem dX9_reading_84 : decode cX9_reading 84 = .ok (.getfield 134, 3) := by decide +kernel
theorem dX9_reading_87 : decode cX9_reading 87 = .ok (.putfield 235, 3) := by decide +kernel
theorem dX9_reading_90 : decode cX9_reading 90 = .ok (.aload_n 0, 1) := by decide +kernel
theorem dX9_reading_91 : decode cX9_reading 91 = .ok (.getfield 10, 3) := by decide +kernel
theorem dX9_reading_94 : decode cX9_reading 94 = .ok (.dup, 1) := by decide +kernel
theorem dX9_reading_95 : decode cX9_reading 95 = .ok (.getfield 215, 3) := by decide +kernel
theorem dX9_reading_98 : decode cX9_reading 98 = .ok (.iconst 1, 1) := by decide +kernel
theorem dX9_reading_99 : decode cX9_reading 99 = .ok (.iadd, 1) := by decide +kernel
theorem dX9_reading_100 : decode cX9_reading 100 = .ok (.putfield 215, 3) := by decide +kernel
theorem dX9_reading_103 : decode cX9_reading 103 = .ok (.aload_n 0, 1) := by decide +kernel
theorem dX9_reading_104 : decode cX9_reading 104 = .ok (.getfield 10, 3) := by decide +kernel
theorem dX9_reading_107 : decode cX9_reading 107 = .ok (.getfield 215, 3) := by decide +kernel
theorem dX9_reading_110 : decode cX9_reading 110 = .ok (.ireturn, 1) := by decide +kernel
theorem dX9_forget_0 : decode cX9_forget 0 = .ok (.aload_n 0, 1) := by decide +kernel
theorem dX9_forget_1 : decode cX9_forget 1 = .ok (.getfield 10, 3) := by decide +kernel
theorem dX9_forget_4 : decode cX9_forget 4 = .ok (.getfield 215, 3) := by decide +kernel
theorem dX9_forget_7 : decode cX9_forget 7 = .ok (.istore_n 1, 1) := by decide +kernel
theorem dX9_forget_8 : decode cX9_forget 8 = .ok (.aload_n 0, 1) := by decide +kernel
theorem dX9_forget_9 : decode cX9_forget 9 = .ok (.getfield 10, 3) := by decide +kernel
theorem dX9_forget_12 : decode cX9_forget 12 = .ok (.iconst 0, 1) := by decide +kernel
theorem dX9_forget_13 : decode cX9_forget 13 = .ok (.putfield 215, 3) := by decide +kernel
theorem dX9_forget_16 : decode cX9_forget 16 = .ok (.iload_n 1, 1) := by decide +kernel
theorem dX9_forget_17 : decode cX9_forget 17 = .ok (.ireturn, 1) := by decide +kernel
theorem dX9_span_0 : decode cX9_span 0 = .ok (.iload_n 1, 1) := by decide +kernel
theorem dX9_span_1 : decode cX9_span 1 = .ok (.iconst 0, 1) := by decide +kernel
theorem dX9_span_2 : decode cX9_span 2 = .ok (.iconst 2, 1) := by decide +kernel
theorem dX9_span_3 : decode cX9_span 3 = .ok (.invokestatic 63, 3) := by decide +kernel
theorem dX9_span_6 : decode cX9_span 6 = .ok (.ifCond .ne 5, 3) := by decide +kernel
theorem dX9_span_9 : decode cX9_span 9 = .ok (.iconst (-1), 1) := by decide +kernel
theorem dX9_span_10 : decode cX9_span 10 = .ok (.ireturn, 1) := by decide +kernel
theorem dX9_span_11 : decode cX9_span 11 = .ok (.iconst 0, 1) := by decide +kernel
theorem dX9_span_12 : decode cX9_span 12 = .ok (.istore_n 2, 1) := by decide +kernel
theorem dX9_span_13 : decode cX9_span 13 = .ok (.iconst (-1), 1) := by decide +kernel
theorem dX9_span_14 : decode cX9_span 14 = .ok (.istore_n 3, 1) := by decide +kernel
theorem dX9_span_15 : decode cX9_span 15 = .ok (.iconst (-1), 1) := by decide +kernel
theorem dX9_span_16 : decode cX9_span 16 = .ok (.istore 4, 2) := by decide +kernel
theorem dX9_span_18 : decode cX9_span 18 = .ok (.iconst 1, 1) := by decide +kernel
theorem dX9_span_19 : decode cX9_span 19 = .ok (.istore 5, 2) := by decide +kernel
theorem dX9_span_21 : decode cX9_span 21 = .ok (.iload 5, 2) := by decide +kernel
theorem dX9_span_23 : decode cX9_span 23 = .ok (.sipush 999, 3) := by decide +kernel
theorem dX9_span_26 : decode cX9_span 26 = .ok (.if_icmp .gt 37, 3) := by decide +kernel
theorem dX9_span_29 : decode cX9_span 29 = .ok (.aload_n 0, 1) := by decide +kernel
theorem dX9_span_30 : decode cX9_span 30 = .ok (.iload 5, 2) := by decide +kernel
theorem dX9_span_32 : decode cX9_span 32 = .ok (.invokevirtual 236, 3) := by decide +kernel
theorem dX9_span_35 : decode cX9_span 35 = .ok (.ifCond .eq 22, 3) := by decide +kernel
theorem dX9_span_38 : decode cX9_span 38 = .ok (.iinc 2 1, 3) := by decide +kernel
theorem dX9_span_41 : decode cX9_span 41 = .ok (.iload 5, 2) := by decide +kernel
theorem dX9_span_43 : decode cX9_span 43 = .ok (.istore 4, 2) := by decide +kernel
theorem dX9_span_45 : decode cX9_span 45 = .ok (.iload_n 3, 1) := by decide +kernel
theorem dX9_span_46 : decode cX9_span 46 = .ok (.iconst (-1), 1) := by decide +kernel
theorem dX9_span_47 : decode cX9_span 47 = .ok (.if_icmp .ne 8, 3) := by decide +kernel
theorem dX9_span_50 : decode cX9_span 50 = .ok (.iload 5, 2) := by decide +kernel
theorem dX9_span_52 : decode cX9_span 52 = .ok (.goto 4, 3) := by decide +kernel
theorem dX9_span_55 : decode cX9_span 55 = .ok (.iload_n 3, 1) := by decide +kernel
theorem dX9_span_56 : decode cX9_span 56 = .ok (.istore_n 3, 1) := by decide +kernel
theorem dX9_span_57 : decode cX9_span 57 = .ok (.iinc 5 1, 3) := by decide +kernel
theorem dX9_span_60 : decode cX9_span 60 = .ok (.goto (-39), 3) := by decide +kernel
theorem dX9_span_63 : decode cX9_span 63 = .ok (.iload_n 1, 1) := by decide +kernel
theorem dX9_span_64 : decode cX9_span 64 = .ok (.ifCond .ne 7, 3) := by decide +kernel
theorem dX9_span_67 : decode cX9_span 67 = .ok (.iload_n 2, 1) := by decide +kernel
theorem dX9_span_68 : decode cX9_span 68 = .ok (.goto 14, 3) := by decide +kernel
theorem dX9_span_71 : decode cX9_span 71 = .ok (.iload_n 1, 1) := by decide +kernel
theorem dX9_span_72 : decode cX9_span 72 = .ok (.iconst 1, 1) := by decide +kernel
theorem dX9_span_73 : decode cX9_span 73 = .ok (.if_icmp .ne 7, 3) := by decide +kernel
theorem dX9_span_76 : decode cX9_span 76 = .ok (.iload_n 3, 1) := by decide +kernel
theorem dX9_span_77 : decode cX9_span 77 = .ok (.goto 5, 3) := by decide +kernel
theorem dX9_span_80 : decode cX9_span 80 = .ok (.iload 4, 2) := by decide +kernel
theorem dX9_span_82 : decode cX9_span 82 = .ok (.ireturn, 1) := by decide +kernel
theorem dX9_bent_0 : decode cX9_bent 0 = .ok (.iload_n 1, 1) := by decide +kernel
theorem dX9_bent_1 : decode cX9_bent 1 = .ok (.iconst 1, 1) := by decide +kernel
theorem dX9_bent_2 : decode cX9_bent 2 = .ok (.sipush 999, 3) := by decide +kernel
theorem dX9_bent_5 : decode cX9_bent 5 = .ok (.invokestatic 63, 3) := by decide +kernel
theorem dX9_bent_8 : decode cX9_bent 8 = .ok (.ifCond .eq 12, 3) := by decide +kernel
theorem dX9_bent_11 : decode cX9_bent 11 = .ok (.iload_n 2, 1) := by decide +kernel
theorem dX9_bent_12 : decode cX9_bent 12 = .ok (.iconst 0, 1) := by decide +kernel
theorem dX9_bent_13 : decode cX9_bent 13 = .ok (.iconst 1, 1) := by decide +kernel
theorem dX9_bent_14 : decode cX9_bent 14 = .ok (.invokestatic 63, 3) := by decide +kernel
theorem dX9_bent_17 : decode cX9_bent 17 = .ok (.ifCond .ne 5, 3) := by decide +kernel
theorem dX9_bent_20 : decode cX9_bent 20 = .ok (.iconst (-1), 1) := by decide +kernel
theorem dX9_bent_21 : decode cX9_bent 21 = .ok (.ireturn, 1) := by decide +kernel
theorem dX9_bent_22 : decode cX9_bent 22 = .ok (.aload_n 0, 1) := by decide +kernel
theorem dX9_bent_23 : decode cX9_bent 23 = .ok (.iload_n 1, 1) := by decide +kernel
theorem dX9_bent_24 : decode cX9_bent 24 = .ok (.invokevirtual 239, 3) := by decide +kernel
theorem dX9_bent_27 : decode cX9_bent 27 = .ok (.iconst 0, 1) := by decide +kernel
theorem dX9_bent_28 : decode cX9_bent 28 = .ok (.istore_n 3, 1) := by decide +kernel
theorem dX9_bent_29 : decode cX9_bent 29 = .ok (.iconst (-1), 1) := by decide +kernel
theorem dX9_bent_30 : decode cX9_bent 30 = .ok (.istore 4, 2) := by decide +kernel
theorem dX9_bent_32 : decode cX9_bent 32 = .ok (.iconst 1, 1) := by decide +kernel
theorem dX9_bent_33 : decode cX9_bent 33 = .ok (.istore 5, 2) := by decide +kernel
theorem dX9_bent_35 : decode cX9_bent 35 = .ok (.iload 5, 2) := by decide +kernel
theorem dX9_bent_37 : decode cX9_bent 37 = .ok (.bipush 20, 2) := by decide +kernel
theorem dX9_bent_39 : decode cX9_bent 39 = .ok (.if_icmp .gt 60, 3) := by decide +kernel
theorem dX9_bent_42 : decode cX9_bent 42 = .ok (.iconst 1, 1) := by decide +kernel
theorem dX9_bent_43 : decode cX9_bent 43 = .ok (.istore 6, 2) := by decide +kernel
theorem dX9_bent_45 : decode cX9_bent 45 = .ok (.iload 6, 2) := by decide +kernel
theorem dX9_bent_47 : decode cX9_bent 47 = .ok (.bipush 20, 2) := by decide +kernel
theorem dX9_bent_49 : decode cX9_bent 49 = .ok (.if_icmp .gt 44, 3) := by decide +kernel
theorem dX9_bent_52 : decode cX9_bent 52 = .ok (.aload_n 0, 1) := by decide +kernel
theorem dX9_bent_53 : decode cX9_bent 53 = .ok (.iload 5, 2) := by decide +kernel
theorem dX9_bent_55 : decode cX9_bent 55 = .ok (.iload 6, 2) := by decide +kernel
theorem dX9_bent_57 : decode cX9_bent 57 = .ok (.invokevirtual 242, 3) := by decide +kernel
theorem dX9_bent_60 : decode cX9_bent 60 = .ok (.ifCond .eq 27, 3) := by decide +kernel
theorem dX9_bent_63 : decode cX9_bent 63 = .ok (.iinc 3 1, 3) := by decide +kernel
theorem dX9_bent_66 : decode cX9_bent 66 = .ok (.iload 4, 2) := by decide +kernel
theorem dX9_bent_68 : decode cX9_bent 68 = .ok (.iconst (-1), 1) := by decide +kernel
theorem dX9_bent_69 : decode cX9_bent 69 = .ok (.if_icmp .ne 14, 3) := by decide +kernel
theorem dX9_bent_72 : decode cX9_bent 72 = .ok (.bipush 100, 2) := by decide +kernel
theorem dX9_bent_74 : decode cX9_bent 74 = .ok (.iload 5, 2) := by decide +kernel
theorem dX9_bent_76 : decode cX9_bent 76 = .ok (.imul, 1) := by decide +kernel
theorem dX9_bent_77 : decode cX9_bent 77 = .ok (.iload 6, 2) := by decide +kernel
theorem dX9_bent_79 : decode cX9_bent 79 = .ok (.iadd, 1) := by decide +kernel
theorem dX9_bent_80 : decode cX9_bent 80 = .ok (.goto 5, 3) := by decide +kernel
theorem dX9_bent_83 : decode cX9_bent 83 = .ok (.iload 4, 2) := by decide +kernel
theorem dX9_bent_85 : decode cX9_bent 85 = .ok (.istore 4, 2) := by decide +kernel
theorem dX9_bent_87 : decode cX9_bent 87 = .ok (.iinc 6 1, 3) := by decide +kernel
theorem dX9_bent_90 : decode cX9_bent 90 = .ok (.goto (-45), 3) := by decide +kernel
theorem dX9_bent_93 : decode cX9_bent 93 = .ok (.iinc 5 1, 3) := by decide +kernel
theorem dX9_bent_96 : decode cX9_bent 96 = .ok (.goto (-61), 3) := by decide +kernel
theorem dX9_bent_99 : decode cX9_bent 99 = .ok (.iload_n 2, 1) := by decide +kernel
theorem dX9_bent_100 : decode cX9_bent 100 = .ok (.ifCond .ne 7, 3) := by decide +kernel
theorem dX9_bent_103 : decode cX9_bent 103 = .ok (.iload_n 3, 1) := by decide +kernel
theorem dX9_bent_104 : decode cX9_bent 104 = .ok (.goto 5, 3) := by decide +kernel
theorem dX9_bent_107 : decode cX9_bent 107 = .ok (.iload 4, 2) := by decide +kernel
theorem dX9_bent_109 : decode cX9_bent 109 = .ok (.ireturn, 1) := by decide +kernel
theorem dX9_balanced_0 : decode cX9_balanced 0 = .ok (.iload_n 1, 1) := by decide +kernel
theorem dX9_balanced_1 : decode cX9_balanced 1 = .ok (.iconst 1, 1) := by decide +kernel
theorem dX9_balanced_2 : decode cX9_balanced 2 = .ok (.sipush 999, 3) := by decide +kernel
theorem dX9_balanced_5 : decode cX9_balanced 5 = .ok (.invokestatic 63, 3) := by decide +kernel
theorem dX9_balanced_8 : decode cX9_balanced 8 = .ok (.ifCond .eq 27, 3) := by decide +kernel
theorem dX9_balanced_11 : decode cX9_balanced 11 = .ok (.iload_n 2, 1) := by decide +kernel
theorem dX9_balanced_12 : decode cX9_balanced 12 = .ok (.iconst 0, 1) := by decide +kernel
theorem dX9_balanced_13 : decode cX9_balanced 13 = .ok (.iconst 2, 1) := by decide +kernel
theorem dX9_balanced_14 : decode cX9_balanced 14 = .ok (.invokestatic 63, 3) := by decide +kernel
theorem dX9_balanced_17 : decode cX9_balanced 17 = .ok (.ifCond .eq 18, 3) := by decide +kernel
theorem dX9_balanced_20 : decode cX9_balanced 20 = .ok (.aload_n 0, 1) := by decide +kernel
theorem dX9_balanced_21 : decode cX9_balanced 21 = .ok (.getfield 58, 3) := by decide +kernel
theorem dX9_balanced_24 : decode cX9_balanced 24 = .ok (.aload_n 0, 1) := by decide +kernel
theorem dX9_balanced_25 : decode cX9_balanced 25 = .ok (.getfield 10, 3) := by decide +kernel
theorem dX9_balanced_28 : decode cX9_balanced 28 = .ok (.iload_n 1, 1) := by decide +kernel
theorem dX9_balanced_29 : decode cX9_balanced 29 = .ok (.invokevirtual 245, 3) := by decide +kernel
theorem dX9_balanced_32 : decode cX9_balanced 32 = .ok (.ifCond .ne 5, 3) := by decide +kernel
theorem dX9_balanced_35 : decode cX9_balanced 35 = .ok (.iconst (-1), 1) := by decide +kernel
theorem dX9_balanced_36 : decode cX9_balanced 36 = .ok (.ireturn, 1) := by decide +kernel
theorem dX9_balanced_37 : decode cX9_balanced 37 = .ok (.iload_n 2, 1) := by decide +kernel
theorem dX9_balanced_38 : decode cX9_balanced 38 = .ok (.lookupswitch 49 #[(0, 26), (1, 39)], 26) := by decide +kernel
theorem dX9_balanced_64 : decode cX9_balanced 64 = .ok (.aload_n 0, 1) := by decide +kernel
theorem dX9_balanced_65 : decode cX9_balanced 65 = .ok (.getfield 58, 3) := by decide +kernel
theorem dX9_balanced_68 : decode cX9_balanced 68 = .ok (.getfield 249, 3) := by decide +kernel
theorem dX9_balanced_71 : decode cX9_balanced 71 = .ok (.invokestatic 201, 3) := by decide +kernel
theorem dX9_balanced_74 : decode cX9_balanced 74 = .ok (.goto 20, 3) := by decide +kernel
theorem dX9_balanced_77 : decode cX9_balanced 77 = .ok (.aload_n 0, 1) := by decide +kernel
theorem dX9_balanced_78 : decode cX9_balanced 78 = .ok (.getfield 58, 3) := by decide +kernel
theorem dX9_balanced_81 : decode cX9_balanced 81 = .ok (.getfield 249, 3) := by decide +kernel
theorem dX9_balanced_84 : decode cX9_balanced 84 = .ok (.goto 10, 3) := by decide +kernel
theorem dX9_balanced_87 : decode cX9_balanced 87 = .ok (.aload_n 0, 1) := by decide +kernel
theorem dX9_balanced_88 : decode cX9_balanced 88 = .ok (.getfield 58, 3) := by decide +kernel
theorem dX9_balanced_91 : decode cX9_balanced 91 = .ok (.getfield 252, 3) := by decide +kernel
theorem dX9_balanced_94 : decode cX9_balanced 94 = .ok (.ireturn, 1) := by decide +kernel
theorem dX9_weights_0 : decode cX9_weights 0 = .ok (.iload_n 1, 1) := by decide +kernel
theorem dX9_weights_1 : decode cX9_weights 1 = .ok (.iconst 1, 1) := by decide +kernel
theorem dX9_weights_2 : decode cX9_weights 2 = .ok (.bipush 40, 2) := by decide +kernel
theorem dX9_weights_4 : decode cX9_weights 4 = .ok (.invokestatic 63, 3) := by decide +kernel
theorem dX9_weights_7 : decode cX9_weights 7 = .ok (.ifCond .eq 12, 3) := by decide +kernel
theorem dX9_weights_10 : decode cX9_weights 10 = .ok (.iload_n 2, 1) := by decide +kernel
theorem dX9_weights_11 : decode cX9_weights 11 = .ok (.iconst (-1), 1) := by decide +kernel
theorem dX9_weights_12 : decode cX9_weights 12 = .ok (.iconst 3, 1) := by decide +kernel
theorem dX9_weights_13 : decode cX9_weights 13 = .ok (.invokestatic 63, 3) := by decide +kernel
theorem dX9_weights_16 : decode cX9_weights 16 = .ok (.ifCond .ne 5, 3) := by decide +kernel
theorem dX9_weights_19 : decode cX9_weights 19 = .ok (.iconst (-1), 1) := by decide +kernel
theorem dX9_weights_20 : decode cX9_weights 20 = .ok (.ireturn, 1) := by decide +kernel
theorem dX9_weights_21 : decode cX9_weights 21 = .ok (.iload_n 1, 1) := by decide +kernel
theorem dX9_weights_22 : decode cX9_weights 22 = .ok (.iconst 1, 1) := by decide +kernel
theorem dX9_weights_23 : decode cX9_weights 23 = .ok (.isub, 1) := by decide +kernel
theorem dX9_weights_24 : decode cX9_weights 24 = .ok (.iconst 4, 1) := by decide +kernel
theorem dX9_weights_25 : decode cX9_weights 25 = .ok (.imul, 1) := by decide +kernel
theorem dX9_weights_26 : decode cX9_weights 26 = .ok (.istore_n 3, 1) := by decide +kernel
theorem dX9_weights_27 : decode cX9_weights 27 = .ok (.iconst 0, 1) := by decide +kernel
theorem dX9_weights_28 : decode cX9_weights 28 = .ok (.istore 4, 2) := by decide +kernel
theorem dX9_weights_30 : decode cX9_weights 30 = .ok (.iconst 0, 1) := by decide +kernel
theorem dX9_weights_31 : decode cX9_weights 31 = .ok (.istore 5, 2) := by decide +kernel
theorem dX9_weights_33 : decode cX9_weights 33 = .ok (.iload 5, 2) := by decide +kernel
theorem dX9_weights_35 : decode cX9_weights 35 = .ok (.iconst 4, 1) := by decide +kernel
theorem dX9_weights_36 : decode cX9_weights 36 = .ok (.if_icmp .ge 30, 3) := by decide +kernel
theorem dX9_weights_39 : decode cX9_weights 39 = .ok (.iload 4, 2) := by decide +kernel
theorem dX9_weights_41 : decode cX9_weights 41 = .ok (.getstatic 255, 3) := by decide +kernel
theorem dX9_weights_44 : decode cX9_weights 44 = .ok (.iload_n 3, 1) := by decide +kernel
theorem dX9_weights_45 : decode cX9_weights 45 = .ok (.iload 5, 2) := by decide +kernel
theorem dX9_weights_47 : decode cX9_weights 47 = .ok (.iadd, 1) := by decide +kernel
theorem dX9_weights_48 : decode cX9_weights 48 = .ok (.iaload, 1) := by decide +kernel
theorem dX9_weights_49 : decode cX9_weights 49 = .ok (.ifCond .le 7, 3) := by decide +kernel
theorem dX9_weights_52 : decode cX9_weights 52 = .ok (.iconst 1, 1) := by decide +kernel
theorem dX9_weights_53 : decode cX9_weights 53 = .ok (.goto 4, 3) := by decide +kernel
theorem dX9_weights_56 : decode cX9_weights 56 = .ok (.iconst 0, 1) := by decide +kernel
theorem dX9_weights_57 : decode cX9_weights 57 = .ok (.iadd, 1) := by decide +kernel
theorem dX9_weights_58 : decode cX9_weights 58 = .ok (.istore 4, 2) := by decide +kernel
theorem dX9_weights_60 : decode cX9_weights 60 = .ok (.iinc 5 1, 3) := by decide +kernel
theorem dX9_weights_63 : decode cX9_weights 63 = .ok (.goto (-30), 3) := by decide +kernel
theorem dX9_weights_66 : decode cX9_weights 66 = .ok (.iload_n 2, 1) := by decide +kernel
theorem dX9_weights_67 : decode cX9_weights 67 = .ok (.iconst (-1), 1) := by decide +kernel
theorem dX9_weights_68 : decode cX9_weights 68 = .ok (.if_icmp .ne 6, 3) := by decide +kernel
theorem dX9_weights_71 : decode cX9_weights 71 = .ok (.iload 4, 2) := by decide +kernel
theorem dX9_weights_73 : decode cX9_weights 73 = .ok (.ireturn, 1) := by decide +kernel
theorem dX9_weights_74 : decode cX9_weights 74 = .ok (.iload_n 2, 1) := by decide +kernel
theorem dX9_weights_75 : decode cX9_weights 75 = .ok (.iload 4, 2) := by decide +kernel
theorem dX9_weights_77 : decode cX9_weights 77 = .ok (.if_icmp .ge 13, 3) := by decide +kernel
theorem dX9_weights_80 : decode cX9_weights 80 = .ok (.getstatic 255, 3) := by decide +kernel
theorem dX9_weights_83 : decode cX9_weights 83 = .ok (.iload_n 3, 1) := by decide +kernel
theorem dX9_weights_84 : decode cX9_weights 84 = .ok (.iload_n 2, 1) := by decide +kernel
theorem dX9_weights_85 : decode cX9_weights 85 = .ok (.iadd, 1) := by decide +kernel
theorem dX9_weights_86 : decode cX9_weights 86 = .ok (.iaload, 1) := by decide +kernel
theorem dX9_weights_87 : decode cX9_weights 87 = .ok (.goto 4, 3) := by decide +kernel
theorem dX9_weights_90 : decode cX9_weights 90 = .ok (.iconst (-1), 1) := by decide +kernel
theorem dX9_weights_91 : decode cX9_weights 91 = .ok (.ireturn, 1) := by decide +kernel
theorem dX9_rest_0 : decode cX9_rest 0 = .ok (.iload_n 1, 1) := by decide +kernel
theorem dX9_rest_1 : decode cX9_rest 1 = .ok (.iconst 0, 1) := by decide +kernel
theorem dX9_rest_2 : decode cX9_rest 2 = .ok (.sipush 9999, 3) := by decide +kernel
theorem dX9_rest_5 : decode cX9_rest 5 = .ok (.invokestatic 63, 3) := by decide +kernel
theorem dX9_rest_8 : decode cX9_rest 8 = .ok (.ifCond .eq 22, 3) := by decide +kernel
theorem dX9_rest_11 : decode cX9_rest 11 = .ok (.iload_n 2, 1) := by decide +kernel
theorem dX9_rest_12 : decode cX9_rest 12 = .ok (.iconst 1, 1) := by decide +kernel
theorem dX9_rest_13 : decode cX9_rest 13 = .ok (.bipush 99, 2) := by decide +kernel
theorem dX9_rest_15 : decode cX9_rest 15 = .ok (.invokestatic 63, 3) := by decide +kernel
theorem dX9_rest_18 : decode cX9_rest 18 = .ok (.ifCond .eq 12, 3) := by decide +kernel
theorem dX9_rest_21 : decode cX9_rest 21 = .ok (.iload_n 3, 1) := by decide +kernel
theorem dX9_rest_22 : decode cX9_rest 22 = .ok (.iconst 0, 1) := by decide +kernel
theorem dX9_rest_23 : decode cX9_rest 23 = .ok (.iconst 1, 1) := by decide +kernel
theorem dX9_rest_24 : decode cX9_rest 24 = .ok (.invokestatic 63, 3) := by decide +kernel
theorem dX9_rest_27 : decode cX9_rest 27 = .ok (.ifCond .ne 5, 3) := by decide +kernel
theorem dX9_rest_30 : decode cX9_rest 30 = .ok (.iconst (-1), 1) := by decide +kernel
theorem dX9_rest_31 : decode cX9_rest 31 = .ok (.ireturn, 1) := by decide +kernel
theorem dX9_rest_32 : decode cX9_rest 32 = .ok (.iload_n 1, 1) := by decide +kernel
theorem dX9_rest_33 : decode cX9_rest 33 = .ok (.bipush 7, 2) := by decide +kernel
theorem dX9_rest_35 : decode cX9_rest 35 = .ok (.imul, 1) := by decide +kernel
theorem dX9_rest_36 : decode cX9_rest 36 = .ok (.bipush 17, 2) := by decide +kernel
theorem dX9_rest_38 : decode cX9_rest 38 = .ok (.iadd, 1) := by decide +kernel
theorem dX9_rest_39 : decode cX9_rest 39 = .ok (.istore 4, 2) := by decide +kernel
theorem dX9_rest_41 : decode cX9_rest 41 = .ok (.iconst 0, 1) := by decide +kernel
theorem dX9_rest_42 : decode cX9_rest 42 = .ok (.istore 5, 2) := by decide +kernel
theorem dX9_rest_44 : decode cX9_rest 44 = .ok (.iconst 0, 1) := by decide +kernel
theorem dX9_rest_45 : decode cX9_rest 45 = .ok (.istore 6, 2) := by decide +kernel
theorem dX9_rest_47 : decode cX9_rest 47 = .ok (.iconst 0, 1) := by decide +kernel
theorem dX9_rest_48 : decode cX9_rest 48 = .ok (.istore 7, 2) := by decide +kernel
theorem dX9_rest_50 : decode cX9_rest 50 = .ok (.iconst 0, 1) := by decide +kernel
theorem dX9_rest_51 : decode cX9_rest 51 = .ok (.istore 8, 2) := by decide +kernel
theorem dX9_rest_53 : decode cX9_rest 53 = .ok (.iload 8, 2) := by decide +kernel
theorem dX9_rest_55 : decode cX9_rest 55 = .ok (.iload_n 2, 1) := by decide +kernel
theorem dX9_rest_56 : decode cX9_rest 56 = .ok (.if_icmp .ge 150, 3) := by decide +kernel
theorem dX9_rest_59 : decode cX9_rest 59 = .ok (.aload_n 0, 1) := by decide +kernel
theorem dX9_rest_60 : decode cX9_rest 60 = .ok (.getfield 44, 3) := by decide +kernel
theorem dX9_rest_63 : decode cX9_rest 63 = .ok (.aload_n 0, 1) := by decide +kernel
theorem dX9_rest_64 : decode cX9_rest 64 = .ok (.getfield 10, 3) := by decide +kernel
theorem dX9_rest_67 : decode cX9_rest 67 = .ok (.getfield 87, 3) := by decide +kernel
theorem dX9_rest_70 : decode cX9_rest 70 = .ok (.iload 8, 2) := by decide +kernel
theorem dX9_rest_72 : decode cX9_rest 72 = .ok (.iadd, 1) := by decide +kernel
theorem dX9_rest_73 : decode cX9_rest 73 = .ok (.bipush 24, 2) := by decide +kernel
theorem dX9_rest_75 : decode cX9_rest 75 = .ok (.irem, 1) := by decide +kernel
theorem dX9_rest_76 : decode cX9_rest 76 = .ok (.aload_n 0, 1) := by decide +kernel
theorem dX9_rest_77 : decode cX9_rest 77 = .ok (.getfield 10, 3) := by decide +kernel
theorem dX9_rest_80 : decode cX9_rest 80 = .ok (.getfield 90, 3) := by decide +kernel
theorem dX9_rest_83 : decode cX9_rest 83 = .ok (.iload 4, 2) := by decide +kernel
theorem dX9_rest_85 : decode cX9_rest 85 = .ok (.bipush 19, 2) := by decide +kernel
theorem dX9_rest_87 : decode cX9_rest 87 = .ok (.irem, 1) := by decide +kernel
theorem dX9_rest_88 : decode cX9_rest 88 = .ok (.bipush 9, 2) := by decide +kernel
theorem dX9_rest_90 : decode cX9_rest 90 = .ok (.isub, 1) := by decide +kernel
theorem dX9_rest_91 : decode cX9_rest 91 = .ok (.invokevirtual 166, 3) := by decide +kernel
theorem dX9_rest_94 : decode cX9_rest 94 = .ok (.aload_n 0, 1) := by decide +kernel
theorem dX9_rest_95 : decode cX9_rest 95 = .ok (.getfield 44, 3) := by decide +kernel
theorem dX9_rest_98 : decode cX9_rest 98 = .ok (.aload_n 0, 1) := by decide +kernel
theorem dX9_rest_99 : decode cX9_rest 99 = .ok (.getfield 10, 3) := by decide +kernel
theorem dX9_rest_102 : decode cX9_rest 102 = .ok (.aload_n 0, 1) := by decide +kernel
theorem dX9_rest_103 : decode cX9_rest 103 = .ok (.getfield 10, 3) := by decide +kernel
theorem dX9_rest_106 : decode cX9_rest 106 = .ok (.getfield 258, 3) := by decide +kernel
theorem dX9_rest_109 : decode cX9_rest 109 = .ok (.aload_n 0, 1) := by decide +kernel
theorem dX9_rest_110 : decode cX9_rest 110 = .ok (.getfield 10, 3) := by decide +kernel
theorem dX9_rest_113 : decode cX9_rest 113 = .ok (.getfield 259, 3) := by decide +kernel
theorem dX9_rest_116 : decode cX9_rest 116 = .ok (.invokevirtual 260, 3) := by decide +kernel
theorem dX9_rest_119 : decode cX9_rest 119 = .ok (.aload_n 0, 1) := by decide +kernel
theorem dX9_rest_120 : decode cX9_rest 120 = .ok (.getfield 44, 3) := by decide +kernel
theorem dX9_rest_123 : decode cX9_rest 123 = .ok (.getfield 177, 3) := by decide +kernel
theorem dX9_rest_126 : decode cX9_rest 126 = .ok (.aload_n 0, 1) := by decide +kernel
theorem dX9_rest_127 : decode cX9_rest 127 = .ok (.getfield 10, 3) := by decide +kernel
theorem dX9_rest_130 : decode cX9_rest 130 = .ok (.getfield 74, 3) := by decide +kernel
theorem dX9_rest_133 : decode cX9_rest 133 = .ok (.invokestatic 180, 3) := by decide +kernel
theorem dX9_rest_136 : decode cX9_rest 136 = .ok (.ifCond .ne 7, 3) := by decide +kernel
theorem dX9_rest_139 : decode cX9_rest 139 = .ok (.iconst 1, 1) := by decide +kernel
theorem dX9_rest_140 : decode cX9_rest 140 = .ok (.goto 4, 3) := by decide +kernel
theorem dX9_rest_143 : decode cX9_rest 143 = .ok (.iconst 0, 1) := by decide +kernel
theorem dX9_rest_144 : decode cX9_rest 144 = .ok (.istore 9, 2) := by decide +kernel
theorem dX9_rest_146 : decode cX9_rest 146 = .ok (.iload 5, 2) := by decide +kernel
theorem dX9_rest_148 : decode cX9_rest 148 = .ok (.iload 9, 2) := by decide +kernel
theorem dX9_rest_150 : decode cX9_rest 150 = .ok (.ifCond .eq 7, 3) := by decide +kernel
theorem dX9_rest_153 : decode cX9_rest 153 = .ok (.iconst 1, 1) := by decide +kernel
theorem dX9_rest_154 : decode cX9_rest 154 = .ok (.goto 4, 3) := by decide +kernel
theorem dX9_rest_157 : decode cX9_rest 157 = .ok (.iconst 0, 1) := by decide +kernel
theorem dX9_rest_158 : decode cX9_rest 158 = .ok (.iadd, 1) := by decide +kernel
theorem dX9_rest_159 : decode cX9_rest 159 = .ok (.istore 5, 2) := by decide +kernel
theorem dX9_rest_161 : decode cX9_rest 161 = .ok (.iload 9, 2) := by decide +kernel
theorem dX9_rest_163 : decode cX9_rest 163 = .ok (.ifCond .eq 10, 3) := by decide +kernel
theorem dX9_rest_166 : decode cX9_rest 166 = .ok (.iload 6, 2) := by decide +kernel
theorem dX9_rest_168 : decode cX9_rest 168 = .ok (.iconst 1, 1) := by decide +kernel
theorem dX9_rest_169 : decode cX9_rest 169 = .ok (.iadd, 1) := by decide +kernel
theorem dX9_rest_170 : decode cX9_rest 170 = .ok (.goto 4, 3) := by decide +kernel
theorem dX9_rest_173 : decode cX9_rest 173 = .ok (.iconst 0, 1) := by decide +kernel
theorem dX9_rest_174 : decode cX9_rest 174 = .ok (.istore 6, 2) := by decide +kernel
theorem dX9_rest_176 : decode cX9_rest 176 = .ok (.iload 7, 2) := by decide +kernel
theorem dX9_rest_178 : decode cX9_rest 178 = .ok (.iload 6, 2) := by decide +kernel
theorem dX9_rest_180 : decode cX9_rest 180 = .ok (.invokestatic 264, 3) := by decide +kernel
theorem dX9_rest_183 : decode cX9_rest 183 = .ok (.istore 7, 2) := by decide +kernel
theorem dX9_rest_185 : decode cX9_rest 185 = .ok (.iload 4, 2) := by decide +kernel
theorem dX9_rest_187 : decode cX9_rest 187 = .ok (.sipush 167, 3) := by decide +kernel
theorem dX9_rest_190 : decode cX9_rest 190 = .ok (.imul, 1) := by decide +kernel
theorem dX9_rest_191 : decode cX9_rest 191 = .ok (.bipush 43, 2) := by decide +kernel
theorem dX9_rest_193 : decode cX9_rest 193 = .ok (.iadd, 1) := by decide +kernel
theorem dX9_rest_194 : decode cX9_rest 194 = .ok (.sipush 30089, 3) := by decide +kernel
theorem dX9_rest_197 : decode cX9_rest 197 = .ok (.irem, 1) := by decide +kernel
theorem dX9_rest_198 : decode cX9_rest 198 = .ok (.istore 4, 2) := by decide +kernel
theorem dX9_rest_200 : decode cX9_rest 200 = .ok (.iinc 8 1, 3) := by decide +kernel
theorem dX9_rest_203 : decode cX9_rest 203 = .ok (.goto (-150), 3) := by decide +kernel
theorem dX9_rest_206 : decode cX9_rest 206 = .ok (.iload_n 3, 1) := by decide +kernel
theorem dX9_rest_207 : decode cX9_rest 207 = .ok (.ifCond .ne 8, 3) := by decide +kernel
theorem dX9_rest_210 : decode cX9_rest 210 = .ok (.iload 5, 2) := by decide +kernel
theorem dX9_rest_212 : decode cX9_rest 212 = .ok (.goto 5, 3) := by decide +kernel
theorem dX9_rest_215 : decode cX9_rest 215 = .ok (.iload 7, 2) := by decide +kernel
theorem dX9_rest_217 : decode cX9_rest 217 = .ok (.ireturn, 1) := by decide +kernel
theorem dX9_image_0 : decode cX9_image 0 = .ok (.aload_n 0, 1) := by decide +kernel
theorem dX9_image_1 : decode cX9_image 1 = .ok (.getfield 16, 3) := by decide +kernel
theorem dX9_image_4 : decode cX9_image 4 = .ok (.aload_n 0, 1) := by decide +kernel
theorem dX9_image_5 : decode cX9_image 5 = .ok (.getfield 10, 3) := by decide +kernel
theorem dX9_image_8 : decode cX9_image 8 = .ok (.invokevirtual 269, 3) := by decide +kernel
theorem dX9_image_11 : decode cX9_image 11 = .ok (.aload_n 0, 1) := by decide +kernel
theorem dX9_image_12 : decode cX9_image 12 = .ok (.getfield 10, 3) := by decide +kernel
theorem dX9_image_15 : decode cX9_image 15 = .ok (.getfield 77, 3) := by decide +kernel
theorem dX9_image_18 : decode cX9_image 18 = .ok (.ireturn, 1) := by decide +kernel
theorem dX9_back_0 : decode cX9_back 0 = .ok (.aload_n 0, 1) := by decide +kernel
theorem dX9_back_1 : decode cX9_back 1 = .ok (.getfield 10, 3) := by decide +kernel
theorem dX9_back_4 : decode cX9_back 4 = .ok (.aload_n 0, 1) := by decide +kernel
theorem dX9_back_5 : decode cX9_back 5 = .ok (.getfield 16, 3) := by decide +kernel
theorem dX9_back_8 : decode cX9_back 8 = .ok (.invokevirtual 269, 3) := by decide +kernel
theorem dX9_back_11 : decode cX9_back 11 = .ok (.aload_n 0, 1) := by decide +kernel
theorem dX9_back_12 : decode cX9_back 12 = .ok (.getfield 10, 3) := by decide +kernel
theorem dX9_back_15 : decode cX9_back 15 = .ok (.getfield 77, 3) := by decide +kernel
theorem dX9_back_18 : decode cX9_back 18 = .ok (.ireturn, 1) := by decide +kernel
theorem dX9_about_0 : decode cX9_about 0 = .ok (.iload_n 1, 1) := by decide +kernel
theorem dX9_about_1 : decode cX9_about 1 = .ok (.tableswitch 211 0 13 #[71, 81, 91, 101, 111, 121, 131, 141, 151, 161, 171, 181, 191, 201], 71) := by decide +kernel
theorem dX9_about_72 : decode cX9_about 72 = .ok (.aload_n 0, 1) := by decide +kernel
theorem dX9_about_73 : decode cX9_about 73 = .ok (.getfield 10, 3) := by decide +kernel
theorem dX9_about_76 : decode cX9_about 76 = .ok (.getfield 77, 3) := by decide +kernel
theorem dX9_about_79 : decode cX9_about 79 = .ok (.goto 135, 3) := by decide +kernel
theorem dX9_about_82 : decode cX9_about 82 = .ok (.aload_n 0, 1) := by decide +kernel
theorem dX9_about_83 : decode cX9_about 83 = .ok (.getfield 10, 3) := by decide +kernel
theorem dX9_about_86 : decode cX9_about 86 = .ok (.getfield 67, 3) := by decide +kernel
theorem dX9_about_89 : decode cX9_about 89 = .ok (.goto 125, 3) := by decide +kernel
theorem dX9_about_92 : decode cX9_about 92 = .ok (.aload_n 0, 1) := by decide +kernel
theorem dX9_about_93 : decode cX9_about 93 = .ok (.getfield 10, 3) := by decide +kernel
theorem dX9_about_96 : decode cX9_about 96 = .ok (.getfield 71, 3) := by decide +kernel
theorem dX9_about_99 : decode cX9_about 99 = .ok (.goto 115, 3) := by decide +kernel
theorem dX9_about_102 : decode cX9_about 102 = .ok (.aload_n 0, 1) := by decide +kernel
theorem dX9_about_103 : decode cX9_about 103 = .ok (.getfield 10, 3) := by decide +kernel
theorem dX9_about_106 : decode cX9_about 106 = .ok (.getfield 74, 3) := by decide +kernel
theorem dX9_about_109 : decode cX9_about 109 = .ok (.goto 105, 3) := by decide +kernel
theorem dX9_about_112 : decode cX9_about 112 = .ok (.aload_n 0, 1) := by decide +kernel
theorem dX9_about_113 : decode cX9_about 113 = .ok (.getfield 10, 3) := by decide +kernel
theorem dX9_about_116 : decode cX9_about 116 = .ok (.getfield 87, 3) := by decide +kernel
theorem dX9_about_119 : decode cX9_about 119 = .ok (.goto 95, 3) := by decide +kernel
theorem dX9_about_122 : decode cX9_about 122 = .ok (.aload_n 0, 1) := by decide +kernel
theorem dX9_about_123 : decode cX9_about 123 = .ok (.getfield 10, 3) := by decide +kernel
theorem dX9_about_126 : decode cX9_about 126 = .ok (.getfield 90, 3) := by decide +kernel
theorem dX9_about_129 : decode cX9_about 129 = .ok (.goto 85, 3) := by decide +kernel
theorem dX9_about_132 : decode cX9_about 132 = .ok (.aload_n 0, 1) := by decide +kernel
theorem dX9_about_133 : decode cX9_about 133 = .ok (.getfield 10, 3) := by decide +kernel
theorem dX9_about_136 : decode cX9_about 136 = .ok (.getfield 93, 3) := by decide +kernel
theorem dX9_about_139 : decode cX9_about 139 = .ok (.goto 75, 3) := by decide +kernel
theorem dX9_about_142 : decode cX9_about 142 = .ok (.aload_n 0, 1) := by decide +kernel
theorem dX9_about_143 : decode cX9_about 143 = .ok (.getfield 10, 3) := by decide +kernel
theorem dX9_about_146 : decode cX9_about 146 = .ok (.getfield 103, 3) := by decide +kernel
theorem dX9_about_149 : decode cX9_about 149 = .ok (.goto 65, 3) := by decide +kernel
theorem dX9_about_152 : decode cX9_about 152 = .ok (.aload_n 0, 1) := by decide +kernel
theorem dX9_about_153 : decode cX9_about 153 = .ok (.getfield 10, 3) := by decide +kernel
theorem dX9_about_156 : decode cX9_about 156 = .ok (.getfield 120, 3) := by decide +kernel
theorem dX9_about_159 : decode cX9_about 159 = .ok (.goto 55, 3) := by decide +kernel
theorem dX9_about_162 : decode cX9_about 162 = .ok (.aload_n 0, 1) := by decide +kernel
theorem dX9_about_163 : decode cX9_about 163 = .ok (.getfield 10, 3) := by decide +kernel
theorem dX9_about_166 : decode cX9_about 166 = .ok (.getfield 163, 3) := by decide +kernel
theorem dX9_about_169 : decode cX9_about 169 = .ok (.goto 45, 3) := by decide +kernel
theorem dX9_about_172 : decode cX9_about 172 = .ok (.aload_n 0, 1) := by decide +kernel
theorem dX9_about_173 : decode cX9_about 173 = .ok (.getfield 10, 3) := by decide +kernel
theorem dX9_about_176 : decode cX9_about 176 = .ok (.getfield 215, 3) := by decide +kernel
theorem dX9_about_179 : decode cX9_about 179 = .ok (.goto 35, 3) := by decide +kernel
theorem dX9_about_182 : decode cX9_about 182 = .ok (.aload_n 0, 1) := by decide +kernel
theorem dX9_about_183 : decode cX9_about 183 = .ok (.getfield 22, 3) := by decide +kernel
theorem dX9_about_186 : decode cX9_about 186 = .ok (.getfield 96, 3) := by decide +kernel
theorem dX9_about_189 : decode cX9_about 189 = .ok (.goto 25, 3) := by decide +kernel
theorem dX9_about_192 : decode cX9_about 192 = .ok (.aload_n 0, 1) := by decide +kernel
theorem dX9_about_193 : decode cX9_about 193 = .ok (.getfield 10, 3) := by decide +kernel
theorem dX9_about_196 : decode cX9_about 196 = .ok (.getfield 258, 3) := by decide +kernel
theorem dX9_about_199 : decode cX9_about 199 = .ok (.goto 15, 3) := by decide +kernel
theorem dX9_about_202 : decode cX9_about 202 = .ok (.aload_n 0, 1) := by decide +kernel
theorem dX9_about_203 : decode cX9_about 203 = .ok (.getfield 10, 3) := by decide +kernel
theorem dX9_about_206 : decode cX9_about 206 = .ok (.getfield 259, 3) := by decide +kernel
theorem dX9_about_209 : decode cX9_about 209 = .ok (.goto 5, 3) := by decide +kernel
theorem dX9_about_212 : decode cX9_about 212 = .ok (.bipush (-100), 2) := by decide +kernel
theorem dX9_about_214 : decode cX9_about 214 = .ok (.ireturn, 1) := by decide +kernel
theorem dX9_within_0 : decode cX9_within 0 = .ok (.iload_n 0, 1) := by decide +kernel
theorem dX9_within_1 : decode cX9_within 1 = .ok (.iload_n 1, 1) := by decide +kernel
theorem dX9_within_2 : decode cX9_within 2 = .ok (.if_icmp .lt 12, 3) := by decide +kernel
theorem dX9_within_5 : decode cX9_within 5 = .ok (.iload_n 0, 1) := by decide +kernel
theorem dX9_within_6 : decode cX9_within 6 = .ok (.iload_n 2, 1) := by decide +kernel
theorem dX9_within_7 : decode cX9_within 7 = .ok (.if_icmp .gt 7, 3) := by decide +kernel
theorem dX9_within_10 : decode cX9_within 10 = .ok (.iconst 1, 1) := by decide +kernel
theorem dX9_within_11 : decode cX9_within 11 = .ok (.goto 4, 3) := by decide +kernel
theorem dX9_within_14 : decode cX9_within 14 = .ok (.iconst 0, 1) := by decide +kernel
theorem dX9_within_15 : decode cX9_within 15 = .ok (.ireturn, 1) := by decide +kernel
theorem dX9_isPan_0 : decode cX9_isPan 0 = .ok (.iload_n 0, 1) := by decide +kernel
theorem dX9_isPan_1 : decode cX9_isPan 1 = .ok (.ifCond .eq 8, 3) := by decide +kernel
theorem dX9_isPan_4 : decode cX9_isPan 4 = .ok (.iload_n 0, 1) := by decide +kernel
theorem dX9_isPan_5 : decode cX9_isPan 5 = .ok (.iconst 1, 1) := by decide +kernel
theorem dX9_isPan_6 : decode cX9_isPan 6 = .ok (.if_icmp .ne 7, 3) := by decide +kernel
theorem dX9_isPan_9 : decode cX9_isPan 9 = .ok (.iconst 1, 1) := by decide +kernel
theorem dX9_isPan_10 : decode cX9_isPan 10 = .ok (.goto 4, 3) := by decide +kernel
theorem dX9_isPan_13 : decode cX9_isPan 13 = .ok (.iconst 0, 1) := by decide +kernel
theorem dX9_isPan_14 : decode cX9_isPan 14 = .ok (.ireturn, 1) := by decide +kernel
theorem dX9_isText_0 : decode cX9_isText 0 = .ok (.iload_n 1, 1) := by decide +kernel
theorem dX9_isText_1 : decode cX9_isText 1 = .ok (.iconst 0, 1) := by decide +kernel
theorem dX9_isText_2 : decode cX9_isText 2 = .ok (.aload_n 0, 1) := by decide +kernel
theorem dX9_isText_3 : decode cX9_isText 3 = .ok (.getfield 10, 3) := by decide +kernel
theorem dX9_isText_6 : decode cX9_isText 6 = .ok (.getfield 103, 3) := by decide +kernel
theorem dX9_isText_9 : decode cX9_isText 9 = .ok (.iconst 1, 1) := by decide +kernel
theorem dX9_isText_10 : decode cX9_isText 10 = .ok (.isub, 1) := by decide +kernel
theorem dX9_isText_11 : decode cX9_isText 11 = .ok (.invokestatic 63, 3) := by decide +kernel
theorem dX9_isText_14 : decode cX9_isText 14 = .ok (.ireturn, 1) := by decide +kernel
theorem dX9_leaning_0 : decode cX9_leaning 0 = .ok (.iload_n 0, 1) := by decide +kernel
theorem dX9_leaning_1 : decode cX9_leaning 1 = .ok (.iload_n 1, 1) := by decide +kernel
theorem dX9_leaning_2 : decode cX9_leaning 2 = .ok (.if_icmp .le 5, 3) := by decide +kernel
theorem dX9_leaning_5 : decode cX9_leaning 5 = .ok (.iconst 1, 1) := by decide +kernel
theorem dX9_leaning_6 : decode cX9_leaning 6 = .ok (.ireturn, 1) := by decide +kernel
theorem dX9_leaning_7 : decode cX9_leaning 7 = .ok (.iload_n 0, 1) := by decide +kernel
theorem dX9_leaning_8 : decode cX9_leaning 8 = .ok (.iload_n 1, 1) := by decide +kernel
theorem dX9_leaning_9 : decode cX9_leaning 9 = .ok (.ineg, 1) := by decide +kernel
theorem dX9_leaning_10 : decode cX9_leaning 10 = .ok (.if_icmp .ge 7, 3) := by decide +kernel
theorem dX9_leaning_13 : decode cX9_leaning 13 = .ok (.iconst 2, 1) := by decide +kernel
theorem dX9_leaning_14 : decode cX9_leaning 14 = .ok (.goto 4, 3) := by decide +kernel
theorem dX9_leaning_17 : decode cX9_leaning 17 = .ok (.iconst 0, 1) := by decide +kernel
theorem dX9_leaning_18 : decode cX9_leaning 18 = .ok (.ireturn, 1) := by decide +kernel
theorem dX9_weighWhatLies_0 : decode cX9_weighWhatLies 0 = .ok (.aload_n 0, 1) := by decide +kernel
theorem dX9_weighWhatLies_1 : decode cX9_weighWhatLies 1 = .ok (.getfield 44, 3) := by decide +kernel
theorem dX9_weighWhatLies_4 : decode cX9_weighWhatLies 4 = .ok (.aload_n 0, 1) := by decide +kernel
theorem dX9_weighWhatLies_5 : decode cX9_weighWhatLies 5 = .ok (.getfield 10, 3) := by decide +kernel
theorem dX9_weighWhatLies_8 : decode cX9_weighWhatLies 8 = .ok (.getfield 87, 3) := by decide +kernel
theorem dX9_weighWhatLies_11 : decode cX9_weighWhatLies 11 = .ok (.aload_n 0, 1) := by decide +kernel
theorem dX9_weighWhatLies_12 : decode cX9_weighWhatLies 12 = .ok (.getfield 10, 3) := by decide +kernel
theorem dX9_weighWhatLies_15 : decode cX9_weighWhatLies 15 = .ok (.getfield 90, 3) := by decide +kernel
theorem dX9_weighWhatLies_18 : decode cX9_weighWhatLies 18 = .ok (.aload_n 0, 1) := by decide +kernel
theorem dX9_weighWhatLies_19 : decode cX9_weighWhatLies 19 = .ok (.getfield 10, 3) := by decide +kernel
theorem dX9_weighWhatLies_22 : decode cX9_weighWhatLies 22 = .ok (.getfield 93, 3) := by decide +kernel
theorem dX9_weighWhatLies_25 : decode cX9_weighWhatLies 25 = .ok (.invokevirtual 166, 3) := by decide +kernel
theorem dX9_weighWhatLies_28 : decode cX9_weighWhatLies 28 = .ok (.aload_n 0, 1) := by decide +kernel
theorem dX9_weighWhatLies_29 : decode cX9_weighWhatLies 29 = .ok (.getfield 44, 3) := by decide +kernel
theorem dX9_weighWhatLies_32 : decode cX9_weighWhatLies 32 = .ok (.aload_n 0, 1) := by decide +kernel
theorem dX9_weighWhatLies_33 : decode cX9_weighWhatLies 33 = .ok (.getfield 10, 3) := by decide +kernel
theorem dX9_weighWhatLies_36 : decode cX9_weighWhatLies 36 = .ok (.aload_n 0, 1) := by decide +kernel
theorem dX9_weighWhatLies_37 : decode cX9_weighWhatLies 37 = .ok (.getfield 10, 3) := by decide +kernel
theorem dX9_weighWhatLies_40 : decode cX9_weighWhatLies 40 = .ok (.getfield 258, 3) := by decide +kernel
theorem dX9_weighWhatLies_43 : decode cX9_weighWhatLies 43 = .ok (.aload_n 0, 1) := by decide +kernel
theorem dX9_weighWhatLies_44 : decode cX9_weighWhatLies 44 = .ok (.getfield 10, 3) := by decide +kernel
theorem dX9_weighWhatLies_47 : decode cX9_weighWhatLies 47 = .ok (.getfield 259, 3) := by decide +kernel
theorem dX9_weighWhatLies_50 : decode cX9_weighWhatLies 50 = .ok (.invokevirtual 260, 3) := by decide +kernel
theorem dX9_weighWhatLies_53 : decode cX9_weighWhatLies 53 = .ok (.return_, 1) := by decide +kernel
theorem dX9_lay_0 : decode cX9_lay 0 = .ok (.iload_n 1, 1) := by decide +kernel
theorem dX9_lay_1 : decode cX9_lay 1 = .ok (.iconst 0, 1) := by decide +kernel
theorem dX9_lay_2 : decode cX9_lay 2 = .ok (.aload_n 0, 1) := by decide +kernel
theorem dX9_lay_3 : decode cX9_lay 3 = .ok (.getfield 10, 3) := by decide +kernel
theorem dX9_lay_6 : decode cX9_lay 6 = .ok (.getfield 77, 3) := by decide +kernel
theorem dX9_lay_9 : decode cX9_lay 9 = .ok (.iconst 1, 1) := by decide +kernel
theorem dX9_lay_10 : decode cX9_lay 10 = .ok (.isub, 1) := by decide +kernel
theorem dX9_lay_11 : decode cX9_lay 11 = .ok (.invokestatic 63, 3) := by decide +kernel
theorem dX9_lay_14 : decode cX9_lay 14 = .ok (.ifCond .eq 22, 3) := by decide +kernel
theorem dX9_lay_17 : decode cX9_lay 17 = .ok (.iload_n 2, 1) := by decide +kernel
theorem dX9_lay_18 : decode cX9_lay 18 = .ok (.invokestatic 212, 3) := by decide +kernel
theorem dX9_lay_21 : decode cX9_lay 21 = .ok (.ifCond .eq 15, 3) := by decide +kernel
theorem dX9_lay_24 : decode cX9_lay 24 = .ok (.aload_n 0, 1) := by decide +kernel
theorem dX9_lay_25 : decode cX9_lay 25 = .ok (.getfield 10, 3) := by decide +kernel
theorem dX9_lay_28 : decode cX9_lay 28 = .ok (.iload_n 1, 1) := by decide +kernel
theorem dX9_lay_29 : decode cX9_lay 29 = .ok (.invokevirtual 137, 3) := by decide +kernel
theorem dX9_lay_32 : decode cX9_lay 32 = .ok (.iconst (-1), 1) := by decide +kernel
theorem dX9_lay_33 : decode cX9_lay 33 = .ok (.if_icmp .eq 5, 3) := by decide +kernel
theorem dX9_lay_36 : decode cX9_lay 36 = .ok (.iconst 0, 1) := by decide +kernel
theorem dX9_lay_37 : decode cX9_lay 37 = .ok (.ireturn, 1) := by decide +kernel
theorem dX9_lay_38 : decode cX9_lay 38 = .ok (.iconst 1, 1) := by decide +kernel
theorem dX9_lay_39 : decode cX9_lay 39 = .ok (.iload_n 1, 1) := by decide +kernel
theorem dX9_lay_40 : decode cX9_lay 40 = .ok (.ishl, 1) := by decide +kernel
theorem dX9_lay_41 : decode cX9_lay 41 = .ok (.istore_n 3, 1) := by decide +kernel
theorem dX9_lay_42 : decode cX9_lay 42 = .ok (.iload_n 2, 1) := by decide +kernel
theorem dX9_lay_43 : decode cX9_lay 43 = .ok (.ifCond .ne 26, 3) := by decide +kernel
theorem dX9_lay_46 : decode cX9_lay 46 = .ok (.aload_n 0, 1) := by decide +kernel
theorem dX9_lay_47 : decode cX9_lay 47 = .ok (.aload_n 0, 1) := by decide +kernel
theorem dX9_lay_48 : decode cX9_lay 48 = .ok (.getfield 10, 3) := by decide +kernel
theorem dX9_lay_51 : decode cX9_lay 51 = .ok (.getfield 258, 3) := by decide +kernel
theorem dX9_lay_54 : decode cX9_lay 54 = .ok (.iload_n 3, 1) := by decide +kernel
theorem dX9_lay_55 : decode cX9_lay 55 = .ok (.ior, 1) := by decide +kernel
theorem dX9_lay_56 : decode cX9_lay 56 = .ok (.aload_n 0, 1) := by decide +kernel
theorem dX9_lay_57 : decode cX9_lay 57 = .ok (.getfield 10, 3) := by decide +kernel
theorem dX9_lay_60 : decode cX9_lay 60 = .ok (.getfield 259, 3) := by decide +kernel
theorem dX9_lay_63 : decode cX9_lay 63 = .ok (.invokevirtual 273, 3) := by decide +kernel
theorem dX9_lay_66 : decode cX9_lay 66 = .ok (.goto 23, 3) := by decide +kernel
theorem dX9_lay_69 : decode cX9_lay 69 = .ok (.aload_n 0, 1) := by decide +kernel
theorem dX9_lay_70 : decode cX9_lay 70 = .ok (.aload_n 0, 1) := by decide +kernel
theorem dX9_lay_71 : decode cX9_lay 71 = .ok (.getfield 10, 3) := by decide +kernel
theorem dX9_lay_74 : decode cX9_lay 74 = .ok (.getfield 258, 3) := by decide +kernel
theorem dX9_lay_77 : decode cX9_lay 77 = .ok (.aload_n 0, 1) := by decide +kernel
theorem dX9_lay_78 : decode cX9_lay 78 = .ok (.getfield 10, 3) := by decide +kernel
theorem dX9_lay_81 : decode cX9_lay 81 = .ok (.getfield 259, 3) := by decide +kernel
theorem dX9_lay_84 : decode cX9_lay 84 = .ok (.iload_n 3, 1) := by decide +kernel
theorem dX9_lay_85 : decode cX9_lay 85 = .ok (.ior, 1) := by decide +kernel
theorem dX9_lay_86 : decode cX9_lay 86 = .ok (.invokevirtual 273, 3) := by decide +kernel
theorem dX9_lay_89 : decode cX9_lay 89 = .ok (.ireturn, 1) := by decide +kernel
theorem dX9_lift_0 : decode cX9_lift 0 = .ok (.aload_n 0, 1) := by decide +kernel
theorem dX9_lift_1 : decode cX9_lift 1 = .ok (.getfield 10, 3) := by decide +kernel
theorem dX9_lift_4 : decode cX9_lift 4 = .ok (.iload_n 1, 1) := by decide +kernel
theorem dX9_lift_5 : decode cX9_lift 5 = .ok (.invokevirtual 137, 3) := by decide +kernel
theorem dX9_lift_8 : decode cX9_lift 8 = .ok (.iconst (-1), 1) := by decide +kernel
theorem dX9_lift_9 : decode cX9_lift 9 = .ok (.if_icmp .ne 5, 3) := by decide +kernel
theorem dX9_lift_12 : decode cX9_lift 12 = .ok (.iconst 0, 1) := by decide +kernel
theorem dX9_lift_13 : decode cX9_lift 13 = .ok (.ireturn, 1) := by decide +kernel
theorem dX9_lift_14 : decode cX9_lift 14 = .ok (.iconst 1, 1) := by decide +kernel
theorem dX9_lift_15 : decode cX9_lift 15 = .ok (.iload_n 1, 1) := by decide +kernel
theorem dX9_lift_16 : decode cX9_lift 16 = .ok (.ishl, 1) := by decide +kernel
theorem dX9_lift_17 : decode cX9_lift 17 = .ok (.iconst (-1), 1) := by decide +kernel
theorem dX9_lift_18 : decode cX9_lift 18 = .ok (.ixor, 1) := by decide +kernel
theorem dX9_lift_19 : decode cX9_lift 19 = .ok (.istore_n 2, 1) := by decide +kernel
theorem dX9_lift_20 : decode cX9_lift 20 = .ok (.aload_n 0, 1) := by decide +kernel
theorem dX9_lift_21 : decode cX9_lift 21 = .ok (.aload_n 0, 1) := by decide +kernel
theorem dX9_lift_22 : decode cX9_lift 22 = .ok (.getfield 10, 3) := by decide +kernel
theorem dX9_lift_25 : decode cX9_lift 25 = .ok (.getfield 258, 3) := by decide +kernel
theorem dX9_lift_28 : decode cX9_lift 28 = .ok (.iload_n 2, 1) := by decide +kernel
theorem dX9_lift_29 : decode cX9_lift 29 = .ok (.iand, 1) := by decide +kernel
theorem dX9_lift_30 : decode cX9_lift 30 = .ok (.aload_n 0, 1) := by decide +kernel
theorem dX9_lift_31 : decode cX9_lift 31 = .ok (.getfield 10, 3) := by decide +kernel
theorem dX9_lift_34 : decode cX9_lift 34 = .ok (.getfield 259, 3) := by decide +kernel
theorem dX9_lift_37 : decode cX9_lift 37 = .ok (.iload_n 2, 1) := by decide +kernel
theorem dX9_lift_38 : decode cX9_lift 38 = .ok (.iand, 1) := by decide +kernel
theorem dX9_lift_39 : decode cX9_lift 39 = .ok (.invokevirtual 273, 3) := by decide +kernel
theorem dX9_lift_42 : decode cX9_lift 42 = .ok (.ireturn, 1) := by decide +kernel
theorem dX9_rearrange_0 : decode cX9_rearrange 0 = .ok (.aload_n 0, 1) := by decide +kernel
theorem dX9_rearrange_1 : decode cX9_rearrange 1 = .ok (.getfield 44, 3) := by decide +kernel
theorem dX9_rearrange_4 : decode cX9_rearrange 4 = .ok (.aload_n 0, 1) := by decide +kernel
theorem dX9_rearrange_5 : decode cX9_rearrange 5 = .ok (.getfield 10, 3) := by decide +kernel
theorem dX9_rearrange_8 : decode cX9_rearrange 8 = .ok (.getfield 87, 3) := by decide +kernel
theorem dX9_rearrange_11 : decode cX9_rearrange 11 = .ok (.aload_n 0, 1) := by decide +kernel
theorem dX9_rearrange_12 : decode cX9_rearrange 12 = .ok (.getfield 10, 3) := by decide +kernel
theorem dX9_rearrange_15 : decode cX9_rearrange 15 = .ok (.getfield 90, 3) := by decide +kernel
theorem dX9_rearrange_18 : decode cX9_rearrange 18 = .ok (.aload_n 0, 1) := by decide +kernel
theorem dX9_rearrange_19 : decode cX9_rearrange 19 = .ok (.getfield 10, 3) := by decide +kernel
theorem dX9_rearrange_22 : decode cX9_rearrange 22 = .ok (.getfield 93, 3) := by decide +kernel
theorem dX9_rearrange_25 : decode cX9_rearrange 25 = .ok (.invokevirtual 166, 3) := by decide +kernel
theorem dX9_rearrange_28 : decode cX9_rearrange 28 = .ok (.aload_n 0, 1) := by decide +kernel
theorem dX9_rearrange_29 : decode cX9_rearrange 29 = .ok (.getfield 44, 3) := by decide +kernel
theorem dX9_rearrange_32 : decode cX9_rearrange 32 = .ok (.aload_n 0, 1) := by decide +kernel
theorem dX9_rearrange_33 : decode cX9_rearrange 33 = .ok (.getfield 10, 3) := by decide +kernel
theorem dX9_rearrange_36 : decode cX9_rearrange 36 = .ok (.iload_n 1, 1) := by decide +kernel
theorem dX9_rearrange_37 : decode cX9_rearrange 37 = .ok (.iload_n 2, 1) := by decide +kernel
theorem dX9_rearrange_38 : decode cX9_rearrange 38 = .ok (.invokevirtual 260, 3) := by decide +kernel
theorem dX9_rearrange_41 : decode cX9_rearrange 41 = .ok (.aload_n 0, 1) := by decide +kernel
theorem dX9_rearrange_42 : decode cX9_rearrange 42 = .ok (.getfield 44, 3) := by decide +kernel
theorem dX9_rearrange_45 : decode cX9_rearrange 45 = .ok (.aload_n 0, 1) := by decide +kernel
theorem dX9_rearrange_46 : decode cX9_rearrange 46 = .ok (.getfield 10, 3) := by decide +kernel
theorem dX9_rearrange_49 : decode cX9_rearrange 49 = .ok (.getfield 123, 3) := by decide +kernel
theorem dX9_rearrange_52 : decode cX9_rearrange 52 = .ok (.invokevirtual 184, 3) := by decide +kernel
theorem dX9_rearrange_55 : decode cX9_rearrange 55 = .ok (.ifCond .ne 5, 3) := by decide +kernel
theorem dX9_rearrange_58 : decode cX9_rearrange 58 = .ok (.iconst 0, 1) := by decide +kernel
theorem dX9_rearrange_59 : decode cX9_rearrange 59 = .ok (.ireturn, 1) := by decide +kernel
theorem dX9_rearrange_60 : decode cX9_rearrange 60 = .ok (.aload_n 0, 1) := by decide +kernel
theorem dX9_rearrange_61 : decode cX9_rearrange 61 = .ok (.getfield 10, 3) := by decide +kernel
theorem dX9_rearrange_64 : decode cX9_rearrange 64 = .ok (.invokevirtual 276, 3) := by decide +kernel
theorem dX9_rearrange_67 : decode cX9_rearrange 67 = .ok (.aload_n 0, 1) := by decide +kernel
theorem dX9_rearrange_68 : decode cX9_rearrange 68 = .ok (.getfield 10, 3) := by decide +kernel
theorem dX9_rearrange_71 : decode cX9_rearrange 71 = .ok (.iload_n 1, 1) := by decide +kernel
theorem dX9_rearrange_72 : decode cX9_rearrange 72 = .ok (.putfield 258, 3) := by decide +kernel
theorem dX9_rearrange_75 : decode cX9_rearrange 75 = .ok (.aload_n 0, 1) := by decide +kernel
theorem dX9_rearrange_76 : decode cX9_rearrange 76 = .ok (.getfield 10, 3) := by decide +kernel
theorem dX9_rearrange_79 : decode cX9_rearrange 79 = .ok (.iload_n 2, 1) := by decide +kernel
theorem dX9_rearrange_80 : decode cX9_rearrange 80 = .ok (.putfield 259, 3) := by decide +kernel
theorem dX9_rearrange_83 : decode cX9_rearrange 83 = .ok (.iconst 1, 1) := by decide +kernel
theorem dX9_rearrange_84 : decode cX9_rearrange 84 = .ok (.ireturn, 1) := by decide +kernel
theorem dX9_passHours_0 : decode cX9_passHours 0 = .ok (.iload_n 1, 1) := by decide +kernel
theorem dX9_passHours_1 : decode cX9_passHours 1 = .ok (.iconst 0, 1) := by decide +kernel
theorem dX9_passHours_2 : decode cX9_passHours 2 = .ok (.bipush 99, 2) := by decide +kernel
theorem dX9_passHours_4 : decode cX9_passHours 4 = .ok (.invokestatic 63, 3) := by decide +kernel
theorem dX9_passHours_7 : decode cX9_passHours 7 = .ok (.ifCond .ne 5, 3) := by decide +kernel
theorem dX9_passHours_10 : decode cX9_passHours 10 = .ok (.iconst 0, 1) := by decide +kernel
theorem dX9_passHours_11 : decode cX9_passHours 11 = .ok (.ireturn, 1) := by decide +kernel
theorem dX9_passHours_12 : decode cX9_passHours 12 = .ok (.aload_n 0, 1) := by decide +kernel
theorem dX9_passHours_13 : decode cX9_passHours 13 = .ok (.getfield 10, 3) := by decide +kernel
theorem dX9_passHours_16 : decode cX9_passHours 16 = .ok (.invokevirtual 276, 3) := by decide +kernel
theorem dX9_passHours_19 : decode cX9_passHours 19 = .ok (.aload_n 0, 1) := by decide +kernel
theorem dX9_passHours_20 : decode cX9_passHours 20 = .ok (.getfield 10, 3) := by decide +kernel
theorem dX9_passHours_23 : decode cX9_passHours 23 = .ok (.aload_n 0, 1) := by decide +kernel
theorem dX9_passHours_24 : decode cX9_passHours 24 = .ok (.getfield 10, 3) := by decide +kernel
theorem dX9_passHours_27 : decode cX9_passHours 27 = .ok (.getfield 87, 3) := by decide +kernel
theorem dX9_passHours_30 : decode cX9_passHours 30 = .ok (.iload_n 1, 1) := by decide +kernel
theorem dX9_passHours_31 : decode cX9_passHours 31 = .ok (.iadd, 1) := by decide +kernel
theorem dX9_passHours_32 : decode cX9_passHours 32 = .ok (.bipush 24, 2) := by decide +kernel
theorem dX9_passHours_34 : decode cX9_passHours 34 = .ok (.irem, 1) := by decide +kernel
theorem dX9_passHours_35 : decode cX9_passHours 35 = .ok (.putfield 87, 3) := by decide +kernel
theorem dX9_passHours_38 : decode cX9_passHours 38 = .ok (.iconst 1, 1) := by decide +kernel
theorem dX9_passHours_39 : decode cX9_passHours 39 = .ok (.ireturn, 1) := by decide +kernel
theorem dX9_isLoadable_0 : decode cX9_isLoadable 0 = .ok (.iconst 1, 1) := by decide +kernel
theorem dX9_isLoadable_1 : decode cX9_isLoadable 1 = .ok (.aload_n 0, 1) := by decide +kernel
theorem dX9_isLoadable_2 : decode cX9_isLoadable 2 = .ok (.getfield 10, 3) := by decide +kernel
theorem dX9_isLoadable_5 : decode cX9_isLoadable 5 = .ok (.getfield 77, 3) := by decide +kernel
theorem dX9_isLoadable_8 : decode cX9_isLoadable 8 = .ok (.ishl, 1) := by decide +kernel
theorem dX9_isLoadable_9 : decode cX9_isLoadable 9 = .ok (.iconst 1, 1) := by decide +kernel
theorem dX9_isLoadable_10 : decode cX9_isLoadable 10 = .ok (.isub, 1) := by decide +kernel
theorem dX9_isLoadable_11 : decode cX9_isLoadable 11 = .ok (.istore_n 3, 1) := by decide +kernel
theorem dX9_isLoadable_12 : decode cX9_isLoadable 12 = .ok (.iload_n 3, 1) := by decide +kernel
theorem dX9_isLoadable_13 : decode cX9_isLoadable 13 = .ok (.aload_n 0, 1) := by decide +kernel
theorem dX9_isLoadable_14 : decode cX9_isLoadable 14 = .ok (.getfield 10, 3) := by decide +kernel
theorem dX9_isLoadable_17 : decode cX9_isLoadable 17 = .ok (.getfield 258, 3) := by decide +kernel
theorem dX9_isLoadable_20 : decode cX9_isLoadable 20 = .ok (.aload_n 0, 1) := by decide +kernel
theorem dX9_isLoadable_21 : decode cX9_isLoadable 21 = .ok (.getfield 10, 3) := by decide +kernel
theorem dX9_isLoadable_24 : decode cX9_isLoadable 24 = .ok (.getfield 259, 3) := by decide +kernel
theorem dX9_isLoadable_27 : decode cX9_isLoadable 27 = .ok (.ior, 1) := by decide +kernel
theorem dX9_isLoadable_28 : decode cX9_isLoadable 28 = .ok (.iconst (-1), 1) := by decide +kernel
theorem dX9_isLoadable_29 : decode cX9_isLoadable 29 = .ok (.ixor, 1) := by decide +kernel
theorem dX9_isLoadable_30 : decode cX9_isLoadable 30 = .ok (.iand, 1) := by decide +kernel
theorem dX9_isLoadable_31 : decode cX9_isLoadable 31 = .ok (.istore 4, 2) := by decide +kernel
theorem dX9_isLoadable_33 : decode cX9_isLoadable 33 = .ok (.iload_n 1, 1) := by decide +kernel
theorem dX9_isLoadable_34 : decode cX9_isLoadable 34 = .ok (.iload 4, 2) := by decide +kernel
theorem dX9_isLoadable_36 : decode cX9_isLoadable 36 = .ok (.iconst (-1), 1) := by decide +kernel
theorem dX9_isLoadable_37 : decode cX9_isLoadable 37 = .ok (.ixor, 1) := by decide +kernel
theorem dX9_isLoadable_38 : decode cX9_isLoadable 38 = .ok (.iand, 1) := by decide +kernel
theorem dX9_isLoadable_39 : decode cX9_isLoadable 39 = .ok (.ifCond .ne 24, 3) := by decide +kernel
theorem dX9_isLoadable_42 : decode cX9_isLoadable 42 = .ok (.iload_n 2, 1) := by decide +kernel
theorem dX9_isLoadable_43 : decode cX9_isLoadable 43 = .ok (.iload_n 1, 1) := by decide +kernel
theorem dX9_isLoadable_44 : decode cX9_isLoadable 44 = .ok (.iconst (-1), 1) := by decide +kernel
theorem dX9_isLoadable_45 : decode cX9_isLoadable 45 = .ok (.ixor, 1) := by decide +kernel
theorem dX9_isLoadable_46 : decode cX9_isLoadable 46 = .ok (.iand, 1) := by decide +kernel
theorem dX9_isLoadable_47 : decode cX9_isLoadable 47 = .ok (.ifCond .ne 16, 3) := by decide +kernel
theorem dX9_isLoadable_50 : decode cX9_isLoadable 50 = .ok (.iload_n 1, 1) := by decide +kernel
theorem dX9_isLoadable_51 : decode cX9_isLoadable 51 = .ok (.invokestatic 201, 3) := by decide +kernel
theorem dX9_isLoadable_54 : decode cX9_isLoadable 54 = .ok (.bipush 10, 2) := by decide +kernel
theorem dX9_isLoadable_56 : decode cX9_isLoadable 56 = .ok (.if_icmp .gt 7, 3) := by decide +kernel
theorem dX9_isLoadable_59 : decode cX9_isLoadable 59 = .ok (.iconst 1, 1) := by decide +kernel
theorem dX9_isLoadable_60 : decode cX9_isLoadable 60 = .ok (.goto 4, 3) := by decide +kernel
theorem dX9_isLoadable_63 : decode cX9_isLoadable 63 = .ok (.iconst 0, 1) := by decide +kernel
theorem dX9_isLoadable_64 : decode cX9_isLoadable 64 = .ok (.ireturn, 1) := by decide +kernel
theorem dX9_fitsReadings_0 : decode cX9_fitsReadings 0 = .ok (.iconst 0, 1) := by decide +kernel
theorem dX9_fitsReadings_1 : decode cX9_fitsReadings 1 = .ok (.istore_n 2, 1) := by decide +kernel
theorem dX9_fitsReadings_2 : decode cX9_fitsReadings 2 = .ok (.iload_n 2, 1) := by decide +kernel
theorem dX9_fitsReadings_3 : decode cX9_fitsReadings 3 = .ok (.aload_n 0, 1) := by decide +kernel
theorem dX9_fitsReadings_4 : decode cX9_fitsReadings 4 = .ok (.getfield 10, 3) := by decide +kernel
theorem dX9_fitsReadings_7 : decode cX9_fitsReadings 7 = .ok (.getfield 215, 3) := by decide +kernel
theorem dX9_fitsReadings_10 : decode cX9_fitsReadings 10 = .ok (.if_icmp .ge 46, 3) := by decide +kernel
theorem dX9_fitsReadings_13 : decode cX9_fitsReadings 13 = .ok (.aload_n 0, 1) := by decide +kernel
theorem dX9_fitsReadings_14 : decode cX9_fitsReadings 14 = .ok (.getfield 10, 3) := by decide +kernel
theorem dX9_fitsReadings_17 : decode cX9_fitsReadings 17 = .ok (.getfield 218, 3) := by decide +kernel
theorem dX9_fitsReadings_20 : decode cX9_fitsReadings 20 = .ok (.iload_n 2, 1) := by decide +kernel
theorem dX9_fitsReadings_21 : decode cX9_fitsReadings 21 = .ok (.aaload, 1) := by decide +kernel
theorem dX9_fitsReadings_22 : decode cX9_fitsReadings 22 = .ok (.astore_n 3, 1) := by decide +kernel
theorem dX9_fitsReadings_23 : decode cX9_fitsReadings 23 = .ok (.aload_n 3, 1) := by decide +kernel
theorem dX9_fitsReadings_24 : decode cX9_fitsReadings 24 = .ok (.aload_n 0, 1) := by decide +kernel
theorem dX9_fitsReadings_25 : decode cX9_fitsReadings 25 = .ok (.aload_n 3, 1) := by decide +kernel
theorem dX9_fitsReadings_26 : decode cX9_fitsReadings 26 = .ok (.iload_n 1, 1) := by decide +kernel
theorem dX9_fitsReadings_27 : decode cX9_fitsReadings 27 = .ok (.invokevirtual 279, 3) := by decide +kernel
theorem dX9_fitsReadings_30 : decode cX9_fitsReadings 30 = .ok (.putfield 283, 3) := by decide +kernel
theorem dX9_fitsReadings_33 : decode cX9_fitsReadings 33 = .ok (.aload_n 3, 1) := by decide +kernel
theorem dX9_fitsReadings_34 : decode cX9_fitsReadings 34 = .ok (.aload_n 3, 1) := by decide +kernel
theorem dX9_fitsReadings_35 : decode cX9_fitsReadings 35 = .ok (.getfield 286, 3) := by decide +kernel
theorem dX9_fitsReadings_38 : decode cX9_fitsReadings 38 = .ok (.aload_n 3, 1) := by decide +kernel
theorem dX9_fitsReadings_39 : decode cX9_fitsReadings 39 = .ok (.getfield 287, 3) := by decide +kernel
theorem dX9_fitsReadings_42 : decode cX9_fitsReadings 42 = .ok (.invokevirtual 288, 3) := by decide +kernel
theorem dX9_fitsReadings_45 : decode cX9_fitsReadings 45 = .ok (.ifCond .ne 5, 3) := by decide +kernel
theorem dX9_fitsReadings_48 : decode cX9_fitsReadings 48 = .ok (.iconst 0, 1) := by decide +kernel
theorem dX9_fitsReadings_49 : decode cX9_fitsReadings 49 = .ok (.ireturn, 1) := by decide +kernel
theorem dX9_fitsReadings_50 : decode cX9_fitsReadings 50 = .ok (.iinc 2 1, 3) := by decide +kernel
theorem dX9_fitsReadings_53 : decode cX9_fitsReadings 53 = .ok (.goto (-51), 3) := by decide +kernel
theorem dX9_fitsReadings_56 : decode cX9_fitsReadings 56 = .ok (.iconst 1, 1) := by decide +kernel
theorem dX9_fitsReadings_57 : decode cX9_fitsReadings 57 = .ok (.ireturn, 1) := by decide +kernel
theorem dX9_bearUnknown_0 : decode cX9_bearUnknown 0 = .ok (.iconst 0, 1) := by decide +kernel
theorem dX9_bearUnknown_1 : decode cX9_bearUnknown 1 = .ok (.istore_n 2, 1) := by decide +kernel
theorem dX9_bearUnknown_2 : decode cX9_bearUnknown 2 = .ok (.iload_n 2, 1) := by decide +kernel
theorem dX9_bearUnknown_3 : decode cX9_bearUnknown 3 = .ok (.aload_n 0, 1) := by decide +kernel
theorem dX9_bearUnknown_4 : decode cX9_bearUnknown 4 = .ok (.getfield 10, 3) := by decide +kernel
theorem dX9_bearUnknown_7 : decode cX9_bearUnknown 7 = .ok (.getfield 215, 3) := by decide +kernel
theorem dX9_bearUnknown_10 : decode cX9_bearUnknown 10 = .ok (.if_icmp .ge 29, 3) := by decide +kernel
theorem dX9_bearUnknown_13 : decode cX9_bearUnknown 13 = .ok (.aload_n 0, 1) := by decide +kernel
theorem dX9_bearUnknown_14 : decode cX9_bearUnknown 14 = .ok (.getfield 10, 3) := by decide +kernel
theorem dX9_bearUnknown_17 : decode cX9_bearUnknown 17 = .ok (.getfield 218, 3) := by decide +kernel
theorem dX9_bearUnknown_20 : decode cX9_bearUnknown 20 = .ok (.iload_n 2, 1) := by decide +kernel
theorem dX9_bearUnknown_21 : decode cX9_bearUnknown 21 = .ok (.aaload, 1) := by decide +kernel
theorem dX9_bearUnknown_22 : decode cX9_bearUnknown 22 = .ok (.astore_n 3, 1) := by decide +kernel
theorem dX9_bearUnknown_23 : decode cX9_bearUnknown 23 = .ok (.aload_n 3, 1) := by decide +kernel
theorem dX9_bearUnknown_24 : decode cX9_bearUnknown 24 = .ok (.aload_n 0, 1) := by decide +kernel
theorem dX9_bearUnknown_25 : decode cX9_bearUnknown 25 = .ok (.aload_n 3, 1) := by decide +kernel
theorem dX9_bearUnknown_26 : decode cX9_bearUnknown 26 = .ok (.iload_n 1, 1) := by decide +kernel
theorem dX9_bearUnknown_27 : decode cX9_bearUnknown 27 = .ok (.invokevirtual 279, 3) := by decide +kernel
theorem dX9_bearUnknown_30 : decode cX9_bearUnknown 30 = .ok (.putfield 283, 3) := by decide +kernel
theorem dX9_bearUnknown_33 : decode cX9_bearUnknown 33 = .ok (.iinc 2 1, 3) := by decide +kernel
theorem dX9_bearUnknown_36 : decode cX9_bearUnknown 36 = .ok (.goto (-34), 3) := by decide +kernel
theorem dX9_bearUnknown_39 : decode cX9_bearUnknown 39 = .ok (.return_, 1) := by decide +kernel
theorem dX9_borneAt_0 : decode cX9_borneAt 0 = .ok (.aload_n 0, 1) := by decide +kernel
theorem dX9_borneAt_1 : decode cX9_borneAt 1 = .ok (.getfield 44, 3) := by decide +kernel
theorem dX9_borneAt_4 : decode cX9_borneAt 4 = .ok (.aload_n 1, 1) := by decide +kernel
theorem dX9_borneAt_5 : decode cX9_borneAt 5 = .ok (.getfield 291, 3) := by decide +kernel
theorem dX9_borneAt_8 : decode cX9_borneAt 8 = .ok (.aload_n 1, 1) := by decide +kernel
theorem dX9_borneAt_9 : decode cX9_borneAt 9 = .ok (.getfield 292, 3) := by decide +kernel
theorem dX9_borneAt_12 : decode cX9_borneAt 12 = .ok (.aload_n 1, 1) := by decide +kernel
theorem dX9_borneAt_13 : decode cX9_borneAt 13 = .ok (.getfield 293, 3) := by decide +kernel
theorem dX9_borneAt_16 : decode cX9_borneAt 16 = .ok (.invokevirtual 166, 3) := by decide +kernel
theorem dX9_borneAt_19 : decode cX9_borneAt 19 = .ok (.aload_n 0, 1) := by decide +kernel
theorem dX9_borneAt_20 : decode cX9_borneAt 20 = .ok (.getfield 44, 3) := by decide +kernel
theorem dX9_borneAt_23 : decode cX9_borneAt 23 = .ok (.aload_n 0, 1) := by decide +kernel
theorem dX9_borneAt_24 : decode cX9_borneAt 24 = .ok (.getfield 10, 3) := by decide +kernel
theorem dX9_borneAt_27 : decode cX9_borneAt 27 = .ok (.getfield 123, 3) := by decide +kernel
theorem dX9_borneAt_30 : decode cX9_borneAt 30 = .ok (.bipush 12, 2) := by decide +kernel
theorem dX9_borneAt_32 : decode cX9_borneAt 32 = .ok (.iload_n 2, 1) := by decide +kernel
theorem dX9_borneAt_33 : decode cX9_borneAt 33 = .ok (.iconst 0, 1) := by decide +kernel
theorem dX9_borneAt_34 : decode cX9_borneAt 34 = .ok (.aload_n 1, 1) := by decide +kernel
theorem dX9_borneAt_35 : decode cX9_borneAt 35 = .ok (.getfield 222, 3) := by decide +kernel
theorem dX9_borneAt_38 : decode cX9_borneAt 38 = .ok (.invokevirtual 294, 3) := by decide +kernel
theorem dX9_borneAt_41 : decode cX9_borneAt 41 = .ok (.ireturn, 1) := by decide +kernel
theorem dX9_armsFitReadings_0 : decode cX9_armsFitReadings 0 = .ok (.iconst 0, 1) := by decide +kernel
theorem dX9_armsFitReadings_1 : decode cX9_armsFitReadings 1 = .ok (.istore_n 3, 1) := by decide +kernel
theorem dX9_armsFitReadings_2 : decode cX9_armsFitReadings 2 = .ok (.iload_n 3, 1) := by decide +kernel
theorem dX9_armsFitReadings_3 : decode cX9_armsFitReadings 3 = .ok (.aload_n 0, 1) := by decide +kernel
theorem dX9_armsFitReadings_4 : decode cX9_armsFitReadings 4 = .ok (.getfield 10, 3) := by decide +kernel
theorem dX9_armsFitReadings_7 : decode cX9_armsFitReadings 7 = .ok (.getfield 215, 3) := by decide +kernel
theorem dX9_armsFitReadings_10 : decode cX9_armsFitReadings 10 = .ok (.if_icmp .ge 28, 3) := by decide +kernel
theorem dX9_armsFitReadings_13 : decode cX9_armsFitReadings 13 = .ok (.aload_n 0, 1) := by decide +kernel
theorem dX9_armsFitReadings_14 : decode cX9_armsFitReadings 14 = .ok (.getfield 10, 3) := by decide +kernel
theorem dX9_armsFitReadings_17 : decode cX9_armsFitReadings 17 = .ok (.getfield 218, 3) := by decide +kernel
theorem dX9_armsFitReadings_20 : decode cX9_armsFitReadings 20 = .ok (.iload_n 3, 1) := by decide +kernel
theorem dX9_armsFitReadings_21 : decode cX9_armsFitReadings 21 = .ok (.aaload, 1) := by decide +kernel
theorem dX9_armsFitReadings_22 : decode cX9_armsFitReadings 22 = .ok (.iload_n 1, 1) := by decide +kernel
theorem dX9_armsFitReadings_23 : decode cX9_armsFitReadings 23 = .ok (.iload_n 2, 1) := by decide +kernel
theorem dX9_armsFitReadings_24 : decode cX9_armsFitReadings 24 = .ok (.invokevirtual 288, 3) := by decide +kernel
theorem dX9_armsFitReadings_27 : decode cX9_armsFitReadings 27 = .ok (.ifCond .ne 5, 3) := by decide +kernel
theorem dX9_armsFitReadings_30 : decode cX9_armsFitReadings 30 = .ok (.iconst 0, 1) := by decide +kernel
theorem dX9_armsFitReadings_31 : decode cX9_armsFitReadings 31 = .ok (.ireturn, 1) := by decide +kernel
theorem dX9_armsFitReadings_32 : decode cX9_armsFitReadings 32 = .ok (.iinc 3 1, 3) := by decide +kernel
theorem dX9_armsFitReadings_35 : decode cX9_armsFitReadings 35 = .ok (.goto (-33), 3) := by decide +kernel
theorem dX9_armsFitReadings_38 : decode cX9_armsFitReadings 38 = .ok (.iconst 1, 1) := by decide +kernel
theorem dX9_armsFitReadings_39 : decode cX9_armsFitReadings 39 = .ok (.ireturn, 1) := by decide +kernel
theorem dX10_init_0 : decode cX10_init 0 = .ok (.aload_n 0, 1) := by decide +kernel
theorem dX10_init_1 : decode cX10_init 1 = .ok (.invokespecial 1, 3) := by decide +kernel
theorem dX10_init_4 : decode cX10_init 4 = .ok (.aload_n 0, 1) := by decide +kernel
theorem dX10_init_5 : decode cX10_init 5 = .ok (.sipush 720, 3) := by decide +kernel
theorem dX10_init_8 : decode cX10_init 8 = .ok (.newarray .int, 2) := by decide +kernel
theorem dX10_init_10 : decode cX10_init 10 = .ok (.putfield 7, 3) := by decide +kernel
theorem dX10_init_13 : decode cX10_init 13 = .ok (.aload_n 0, 1) := by decide +kernel
theorem dX10_init_14 : decode cX10_init 14 = .ok (.sipush 720, 3) := by decide +kernel
theorem dX10_init_17 : decode cX10_init 17 = .ok (.newarray .int, 2) := by decide +kernel
theorem dX10_init_19 : decode cX10_init 19 = .ok (.putfield 13, 3) := by decide +kernel
theorem dX10_init_22 : decode cX10_init 22 = .ok (.aload_n 0, 1) := by decide +kernel
theorem dX10_init_23 : decode cX10_init 23 = .ok (.sipush 2720, 3) := by decide +kernel
theorem dX10_init_26 : decode cX10_init 26 = .ok (.newarray .int, 2) := by decide +kernel
theorem dX10_init_28 : decode cX10_init 28 = .ok (.putfield 16, 3) := by decide +kernel
theorem dX10_init_31 : decode cX10_init 31 = .ok (.aload_n 0, 1) := by decide +kernel
theorem dX10_init_32 : decode cX10_init 32 = .ok (.sipush 300, 3) := by decide +kernel
theorem dX10_init_35 : decode cX10_init 35 = .ok (.newarray .int, 2) := by decide +kernel
theorem dX10_init_37 : decode cX10_init 37 = .ok (.putfield 19, 3) := by decide +kernel
theorem dX10_init_40 : decode cX10_init 40 = .ok (.aload_n 0, 1) := by decide +kernel
theorem dX10_init_41 : decode cX10_init 41 = .ok (.iconst (-1), 1) := by decide +kernel
theorem dX10_init_42 : decode cX10_init 42 = .ok (.putfield 22, 3) := by decide +kernel
theorem dX10_init_45 : decode cX10_init 45 = .ok (.aload_n 0, 1) := by decide +kernel
theorem dX10_init_46 : decode cX10_init 46 = .ok (.iconst (-1), 1) := by decide +kernel
theorem dX10_init_47 : decode cX10_init 47 = .ok (.putfield 26, 3) := by decide +kernel
theorem dX10_init_50 : decode cX10_init 50 = .ok (.aload_n 0, 1) := by decide +kernel
theorem dX10_init_51 : decode cX10_init 51 = .ok (.sipush 160, 3) := by decide +kernel
theorem dX10_init_54 : decode cX10_init 54 = .ok (.newarray .int, 2) := by decide +kernel
theorem dX10_init_56 : decode cX10_init 56 = .ok (.putfield 29, 3) := by decide +kernel
theorem dX10_init_59 : decode cX10_init 59 = .ok (.aload_n 0, 1) := by decide +kernel
theorem dX10_init_60 : decode cX10_init 60 = .ok (.bipush 11, 2) := by decide +kernel
theorem dX10_init_62 : decode cX10_init 62 = .ok (.newarray .int, 2) := by decide +kernel
theorem dX10_init_64 : decode cX10_init 64 = .ok (.putfield 32, 3) := by decide +kernel
theorem dX10_init_67 : decode cX10_init 67 = .ok (.aload_n 0, 1) := by decide +kernel
theorem dX10_init_68 : decode cX10_init 68 = .ok (.sipush 330, 3) := by decide +kernel
theorem dX10_init_71 : decode cX10_init 71 = .ok (.newarray .long, 2) := by decide +kernel
theorem dX10_init_73 : decode cX10_init 73 = .ok (.putfield 35, 3) := by decide +kernel
theorem dX10_init_76 : decode cX10_init 76 = .ok (.aload_n 0, 1) := by decide +kernel
theorem dX10_init_77 : decode cX10_init 77 = .ok (.sipush 330, 3) := by decide +kernel
theorem dX10_init_80 : decode cX10_init 80 = .ok (.newarray .boolean, 2) := by decide +kernel
theorem dX10_init_82 : decode cX10_init 82 = .ok (.putfield 39, 3) := by decide +kernel
theorem dX10_init_85 : decode cX10_init 85 = .ok (.aload_n 0, 1) := by decide +kernel
theorem dX10_init_86 : decode cX10_init 86 = .ok (.bipush 12, 2) := by decide +kernel
theorem dX10_init_88 : decode cX10_init 88 = .ok (.newarray .int, 2) := by decide +kernel
theorem dX10_init_90 : decode cX10_init 90 = .ok (.putfield 43, 3) := by decide +kernel
theorem dX10_init_93 : decode cX10_init 93 = .ok (.aload_n 0, 1) := by decide +kernel
theorem dX10_init_94 : decode cX10_init 94 = .ok (.bipush 12, 2) := by decide +kernel
theorem dX10_init_96 : decode cX10_init 96 = .ok (.newarray .int, 2) := by decide +kernel
theorem dX10_init_98 : decode cX10_init 98 = .ok (.putfield 46, 3) := by decide +kernel
theorem dX10_init_101 : decode cX10_init 101 = .ok (.aload_n 0, 1) := by decide +kernel
theorem dX10_init_102 : decode cX10_init 102 = .ok (.sipush 1024, 3) := by decide +kernel
theorem dX10_init_105 : decode cX10_init 105 = .ok (.newarray .boolean, 2) := by decide +kernel
theorem dX10_init_107 : decode cX10_init 107 = .ok (.putfield 49, 3) := by decide +kernel
theorem dX10_init_110 : decode cX10_init 110 = .ok (.aload_n 0, 1) := by decide +kernel
theorem dX10_init_111 : decode cX10_init 111 = .ok (.sipush 1024, 3) := by decide +kernel
theorem dX10_init_114 : decode cX10_init 114 = .ok (.newarray .int, 2) := by decide +kernel
theorem dX10_init_116 : decode cX10_init 116 = .ok (.putfield 52, 3) := by decide +kernel
theorem dX10_init_119 : decode cX10_init 119 = .ok (.aload_n 0, 1) := by decide +kernel
theorem dX10_init_120 : decode cX10_init 120 = .ok (.sipush 1024, 3) := by decide +kernel
theorem dX10_init_123 : decode cX10_init 123 = .ok (.newarray .long, 2) := by decide +kernel
theorem dX10_init_125 : decode cX10_init 125 = .ok (.putfield 55, 3) := by decide +kernel
theorem dX10_init_128 : decode cX10_init 128 = .ok (.aload_n 0, 1) := by decide +kernel
theorem dX10_init_129 : decode cX10_init 129 = .ok (.sipush 1024, 3) := by decide +kernel
theorem dX10_init_132 : decode cX10_init 132 = .ok (.newarray .int, 2) := by decide +kernel
theorem dX10_init_134 : decode cX10_init 134 = .ok (.putfield 58, 3) := by decide +kernel
theorem dX10_init_137 : decode cX10_init 137 = .ok (.aload_n 0, 1) := by decide +kernel
theorem dX10_init_138 : decode cX10_init 138 = .ok (.bipush 10, 2) := by decide +kernel
theorem dX10_init_140 : decode cX10_init 140 = .ok (.newarray .int, 2) := by decide +kernel
theorem dX10_init_142 : decode cX10_init 142 = .ok (.putfield 61, 3) := by decide +kernel
theorem dX10_init_145 : decode cX10_init 145 = .ok (.aload_n 0, 1) := by decide +kernel
theorem dX10_init_146 : decode cX10_init 146 = .ok (.iconst 3, 1) := by decide +kernel
theorem dX10_init_147 : decode cX10_init 147 = .ok (.newarray .int, 2) := by decide +kernel
theorem dX10_init_149 : decode cX10_init 149 = .ok (.putfield 64, 3) := by decide +kernel
theorem dX10_init_152 : decode cX10_init 152 = .ok (.aload_n 0, 1) := by decide +kernel
theorem dX10_init_153 : decode cX10_init 153 = .ok (.sipush 4096, 3) := by decide +kernel
theorem dX10_init_156 : decode cX10_init 156 = .ok (.newarray .int, 2) := by decide +kernel
theorem dX10_init_158 : decode cX10_init 158 = .ok (.putfield 67, 3) := by decide +kernel
theorem dX10_init_161 : decode cX10_init 161 = .ok (.aload_n 0, 1) := by decide +kernel
theorem dX10_init_162 : decode cX10_init 162 = .ok (.bipush 6, 2) := by decide +kernel
theorem dX10_init_164 : decode cX10_init 164 = .ok (.newarray .int, 2) := by decide +kernel
theorem dX10_init_166 : decode cX10_init 166 = .ok (.putfield 70, 3) := by decide +kernel
theorem dX10_init_169 : decode cX10_init 169 = .ok (.aload_n 0, 1) := by decide +kernel
theorem dX10_init_170 : decode cX10_init 170 = .ok (.sipush 6006, 3) := by decide +kernel
theorem dX10_init_173 : decode cX10_init 173 = .ok (.newarray .boolean, 2) := by decide +kernel
theorem dX10_init_175 : decode cX10_init 175 = .ok (.putfield 73, 3) := by decide +kernel
theorem dX10_init_178 : decode cX10_init 178 = .ok (.aload_n 0, 1) := by decide +kernel
theorem dX10_init_179 : decode cX10_init 179 = .ok (.bipush 6, 2) := by decide +kernel
theorem dX10_init_181 : decode cX10_init 181 = .ok (.newarray .int, 2) := by decide +kernel
theorem dX10_init_183 : decode cX10_init 183 = .ok (.putfield 76, 3) := by decide +kernel
theorem dX10_init_186 : decode cX10_init 186 = .ok (.aload_n 0, 1) := by decide +kernel
theorem dX10_init_187 : decode cX10_init 187 = .ok (.getfield 7, 3) := by decide +kernel
theorem dX10_init_190 : decode cX10_init 190 = .ok (.iconst 1, 1) := by decide +kernel
theorem dX10_init_191 : decode cX10_init 191 = .ok (.bipush 10, 2) := by decide +kernel
theorem dX10_init_193 : decode cX10_init 193 = .ok (.iastore, 1) := by decide +kernel
theorem dX10_init_194 : decode cX10_init 194 = .ok (.aload_n 0, 1) := by decide +kernel
theorem dX10_init_195 : decode cX10_init 195 = .ok (.getfield 7, 3) := by decide +kernel
theorem dX10_init_198 : decode cX10_init 198 = .ok (.iconst 2, 1) := by decide +kernel
theorem dX10_init_199 : decode cX10_init 199 = .ok (.bipush 10, 2) := by decide +kernel
theorem dX10_init_201 : decode cX10_init 201 = .ok (.iastore, 1) := by decide +kernel
theorem dX10_init_202 : decode cX10_init 202 = .ok (.aload_n 0, 1) := by decide +kernel
theorem dX10_init_203 : decode cX10_init 203 = .ok (.getfield 7, 3) := by decide +kernel
theorem dX10_init_206 : decode cX10_init 206 = .ok (.bipush 8, 2) := by decide +kernel
theorem dX10_init_208 : decode cX10_init 208 = .ok (.iconst (-1), 1) := by decide +kernel
theorem dX10_init_209 : decode cX10_init 209 = .ok (.iastore, 1) := by decide +kernel
theorem dX10_init_210 : decode cX10_init 210 = .ok (.aload_n 0, 1) := by decide +kernel
theorem dX10_init_211 : decode cX10_init 211 = .ok (.getfield 7, 3) := by decide +kernel
theorem dX10_init_214 : decode cX10_init 214 = .ok (.aload_n 0, 1) := by decide +kernel
theorem dX10_init_215 : decode cX10_init 215 = .ok (.getfield 13, 3) := by decide +kernel
theorem dX10_init_218 : decode cX10_init 218 = .ok (.invokestatic 79, 3) := by decide +kernel
theorem dX10_init_221 : decode cX10_init 221 = .ok (.return_, 1) := by decide +kernel
theorem dX10_copy_0 : decode cX10_copy 0 = .ok (.iconst 0, 1) := by decide +kernel
theorem dX10_copy_1 : decode cX10_copy 1 = .ok (.istore_n 2, 1) := by decide +kernel
theorem dX10_copy_2 : decode cX10_copy 2 = .ok (.iload_n 2, 1) := by decide +kernel
theorem dX10_copy_3 : decode cX10_copy 3 = .ok (.sipush 720, 3) := by decide +kernel
theorem dX10_copy_6 : decode cX10_copy 6 = .ok (.if_icmp .ge 15, 3) := by decide +kernel
theorem dX10_copy_9 : decode cX10_copy 9 = .ok (.aload_n 1, 1) := by decide +kernel
theorem dX10_copy_10 : decode cX10_copy 10 = .ok (.iload_n 2, 1) := by decide +kernel
theorem dX10_copy_11 : decode cX10_copy 11 = .ok (.aload_n 0, 1) := by decide +kernel
theorem dX10_copy_12 : decode cX10_copy 12 = .ok (.iload_n 2, 1) := by decide +kernel
theorem dX10_copy_13 : decode cX10_copy 13 = .ok (.iaload, 1) := by decide +kernel
theorem dX10_copy_14 : decode cX10_copy 14 = .ok (.iastore, 1) := by decide +kernel
theorem dX10_copy_15 : decode cX10_copy 15 = .ok (.iinc 2 1, 3) := by decide +kernel
theorem dX10_copy_18 : decode cX10_copy 18 = .ok (.goto (-16), 3) := by decide +kernel
theorem dX10_copy_21 : decode cX10_copy 21 = .ok (.return_, 1) := by decide +kernel
theorem dX10_isIn_0 : decode cX10_isIn 0 = .ok (.iload_n 0, 1) := by decide +kernel
theorem dX10_isIn_1 : decode cX10_isIn 1 = .ok (.iload_n 1, 1) := by decide +kernel
theorem dX10_isIn_2 : decode cX10_isIn 2 = .ok (.if_icmp .lt 12, 3) := by decide +kernel
theorem dX10_isIn_5 : decode cX10_isIn 5 = .ok (.iload_n 0, 1) := by decide +kernel
theorem dX10_isIn_6 : decode cX10_isIn 6 = .ok (.iload_n 2, 1) := by decide +kernel
theorem dX10_isIn_7 : decode cX10_isIn 7 = .ok (.if_icmp .gt 7, 3) := by decide +kernel
theorem dX10_isIn_10 : decode cX10_isIn 10 = .ok (.iconst 1, 1) := by decide +kernel
theorem dX10_isIn_11 : decode cX10_isIn 11 = .ok (.goto 4, 3) := by decide +kernel
theorem dX10_isIn_14 : decode cX10_isIn 14 = .ok (.iconst 0, 1) := by decide +kernel
theorem dX10_isIn_15 : decode cX10_isIn 15 = .ok (.ireturn, 1) := by decide +kernel
theorem dX10_held_0 : decode cX10_held 0 = .ok (.lload_n 0, 1) := by decide +kernel
theorem dX10_held_1 : decode cX10_held 1 = .ok (.iload_n 2, 1) := by decide +kernel
theorem dX10_held_2 : decode cX10_held 2 = .ok (.i2l, 1) := by decide +kernel
theorem dX10_held_3 : decode cX10_held 3 = .ok (.lcmp, 1) := by decide +kernel
theorem dX10_held_4 : decode cX10_held 4 = .ok (.ifCond .ge 7, 3) := by decide +kernel
theorem dX10_held_7 : decode cX10_held 7 = .ok (.iload_n 2, 1) := by decide +kernel
theorem dX10_held_8 : decode cX10_held 8 = .ok (.goto 16, 3) := by decide +kernel
theorem dX10_held_11 : decode cX10_held 11 = .ok (.lload_n 0, 1) := by decide +kernel
theorem dX10_held_12 : decode cX10_held 12 = .ok (.iload_n 3, 1) := by decide +kernel
theorem dX10_held_13 : decode cX10_held 13 = .ok (.i2l, 1) := by decide +kernel
theorem dX10_held_14 : decode cX10_held 14 = .ok (.lcmp, 1) := by decide +kernel
theorem dX10_held_15 : decode cX10_held 15 = .ok (.ifCond .le 7, 3) := by decide +kernel
theorem dX10_held_18 : decode cX10_held 18 = .ok (.iload_n 3, 1) := by decide +kernel
theorem dX10_held_19 : decode cX10_held 19 = .ok (.goto 5, 3) := by decide +kernel
theorem dX10_held_22 : decode cX10_held 22 = .ok (.lload_n 0, 1) := by decide +kernel
theorem dX10_held_23 : decode cX10_held 23 = .ok (.l2i, 1) := by decide +kernel
theorem dX10_held_24 : decode cX10_held 24 = .ok (.ireturn, 1) := by decide +kernel
theorem dX10_bits_0 : decode cX10_bits 0 = .ok (.iconst 0, 1) := by decide +kernel
theorem dX10_bits_1 : decode cX10_bits 1 = .ok (.istore_n 1, 1) := by decide +kernel
theorem dX10_bits_2 : decode cX10_bits 2 = .ok (.iconst 0, 1) := by decide +kernel
theorem dX10_bits_3 : decode cX10_bits 3 = .ok (.istore_n 2, 1) := by decide +kernel
theorem dX10_bits_4 : decode cX10_bits 4 = .ok (.iload_n 2, 1) := by decide +kernel
theorem dX10_bits_5 : decode cX10_bits 5 = .ok (.bipush 12, 2) := by decide +kernel
theorem dX10_bits_7 : decode cX10_bits 7 = .ok (.if_icmp .ge 17, 3) := by decide +kernel
theorem dX10_bits_10 : decode cX10_bits 10 = .ok (.iload_n 1, 1) := by decide +kernel
theorem dX10_bits_11 : decode cX10_bits 11 = .ok (.iload_n 0, 1) := by decide +kernel
theorem dX10_bits_12 : decode cX10_bits 12 = .ok (.iload_n 2, 1) := by decide +kernel
theorem dX10_bits_13 : decode cX10_bits 13 = .ok (.ishr, 1) := by decide +kernel
theorem dX10_bits_14 : decode cX10_bits 14 = .ok (.iconst 1, 1) := by decide +kernel
theorem dX10_bits_15 : decode cX10_bits 15 = .ok (.iand, 1) := by decide +kernel
theorem dX10_bits_16 : decode cX10_bits 16 = .ok (.iadd, 1) := by decide +kernel
theorem dX10_bits_17 : decode cX10_bits 17 = .ok (.istore_n 1, 1) := by decide +kernel
theorem dX10_bits_18 : decode cX10_bits 18 = .ok (.iinc 2 1, 3) := by decide +kernel
theorem dX10_bits_21 : decode cX10_bits 21 = .ok (.goto (-17), 3) := by decide +kernel
theorem dX10_bits_24 : decode cX10_bits 24 = .ok (.iload_n 1, 1) := by decide +kernel
theorem dX10_bits_25 : decode cX10_bits 25 = .ok (.ireturn, 1) := by decide +kernel
theorem dX10_has_0 : decode cX10_has 0 = .ok (.iload_n 0, 1) := by decide +kernel
theorem dX10_has_1 : decode cX10_has 1 = .ok (.iload_n 1, 1) := by decide +kernel
theorem dX10_has_2 : decode cX10_has 2 = .ok (.ishr, 1) := by decide +kernel
theorem dX10_has_3 : decode cX10_has 3 = .ok (.iconst 1, 1) := by decide +kernel
theorem dX10_has_4 : decode cX10_has 4 = .ok (.iand, 1) := by decide +kernel
theorem dX10_has_5 : decode cX10_has 5 = .ok (.iconst 1, 1) := by decide +kernel
theorem dX10_has_6 : decode cX10_has 6 = .ok (.if_icmp .ne 7, 3) := by decide +kernel
theorem dX10_has_9 : decode cX10_has 9 = .ok (.iconst 1, 1) := by decide +kernel
theorem dX10_has_10 : decode cX10_has 10 = .ok (.goto 4, 3) := by decide +kernel
theorem dX10_has_13 : decode cX10_has 13 = .ok (.iconst 0, 1) := by decide +kernel
theorem dX10_has_14 : decode cX10_has 14 = .ok (.ireturn, 1) := by decide +kernel
theorem dX10_isThing_0 : decode cX10_isThing 0 = .ok (.iload_n 1, 1) := by decide +kernel
theorem dX10_isThing_1 : decode cX10_isThing 1 = .ok (.iconst 0, 1) := by decide +kernel
theorem dX10_isThing_2 : decode cX10_isThing 2 = .ok (.aload_n 0, 1) := by decide +kernel
theorem dX10_isThing_3 : decode cX10_isThing 3 = .ok (.getfield 7, 3) := by decide +kernel
theorem dX10_isThing_6 : decode cX10_isThing 6 = .ok (.iconst 0, 1) := by decide +kernel
theorem dX10_isThing_7 : decode cX10_isThing 7 = .ok (.iaload, 1) := by decide +kernel
theorem dX10_isThing_8 : decode cX10_isThing 8 = .ok (.iconst 1, 1) := by decide +kernel
theorem dX10_isThing_9 : decode cX10_isThing 9 = .ok (.isub, 1) := by decide +kernel
theorem dX10_isThing_10 : decode cX10_isThing 10 = .ok (.invokestatic 83, 3) := by decide +kernel
theorem dX10_isThing_13 : decode cX10_isThing 13 = .ok (.ireturn, 1) := by decide +kernel
theorem dX10_thingAt_0 : decode cX10_thingAt 0 = .ok (.bipush 15, 2) := by decide +kernel
theorem dX10_thingAt_2 : decode cX10_thingAt 2 = .ok (.iconst 3, 1) := by decide +kernel
theorem dX10_thingAt_3 : decode cX10_thingAt 3 = .ok (.iload_n 0, 1) := by decide +kernel
theorem dX10_thingAt_4 : decode cX10_thingAt 4 = .ok (.imul, 1) := by decide +kernel
theorem dX10_thingAt_5 : decode cX10_thingAt 5 = .ok (.iadd, 1) := by decide +kernel
theorem dX10_thingAt_6 : decode cX10_thingAt 6 = .ok (.ireturn, 1) := by decide +kernel
theorem dX10_panOf_0 : decode cX10_panOf 0 = .ok (.aload_n 0, 1) := by decide +kernel
theorem dX10_panOf_1 : decode cX10_panOf 1 = .ok (.getfield 7, 3) := by decide +kernel
theorem dX10_panOf_4 : decode cX10_panOf 4 = .ok (.iload_n 1, 1) := by decide +kernel
theorem dX10_panOf_5 : decode cX10_panOf 5 = .ok (.invokestatic 87, 3) := by decide +kernel
theorem dX10_panOf_8 : decode cX10_panOf 8 = .ok (.iconst 2, 1) := by decide +kernel
theorem dX10_panOf_9 : decode cX10_panOf 9 = .ok (.iadd, 1) := by decide +kernel
theorem dX10_panOf_10 : decode cX10_panOf 10 = .ok (.iaload, 1) := by decide +kernel
theorem dX10_panOf_11 : decode cX10_panOf 11 = .ok (.ireturn, 1) := by decide +kernel
theorem dX10_beam_0 : decode cX10_beam 0 = .ok (.iload_n 1, 1) := by decide +kernel
theorem dX10_beam_1 : decode cX10_beam 1 = .ok (.iconst 1, 1) := by decide +kernel
theorem dX10_beam_2 : decode cX10_beam 2 = .ok (.bipush 99, 2) := by decide +kernel
theorem dX10_beam_4 : decode cX10_beam 4 = .ok (.invokestatic 83, 3) := by decide +kernel
theorem dX10_beam_7 : decode cX10_beam 7 = .ok (.ifCond .eq 24, 3) := by decide +kernel
theorem dX10_beam_10 : decode cX10_beam 10 = .ok (.iload_n 2, 1) := by decide +kernel
theorem dX10_beam_11 : decode cX10_beam 11 = .ok (.iconst 1, 1) := by decide +kernel
theorem dX10_beam_12 : decode cX10_beam 12 = .ok (.bipush 99, 2) := by decide +kernel
theorem dX10_beam_14 : decode cX10_beam 14 = .ok (.invokestatic 83, 3) := by decide +kernel
theorem dX10_beam_17 : decode cX10_beam 17 = .ok (.ifCond .eq 14, 3) := by decide +kernel
theorem dX10_beam_20 : decode cX10_beam 20 = .ok (.iload_n 3, 1) := by decide +kernel
theorem dX10_beam_21 : decode cX10_beam 21 = .ok (.iconst 0, 1) := by decide +kernel
theorem dX10_beam_22 : decode cX10_beam 22 = .ok (.sipush 9999, 3) := by decide +kernel
theorem dX10_beam_25 : decode cX10_beam 25 = .ok (.invokestatic 83, 3) := by decide +kernel
theorem dX10_beam_28 : decode cX10_beam 28 = .ok (.ifCond .ne 5, 3) := by decide +kernel
theorem dX10_beam_31 : decode cX10_beam 31 = .ok (.iconst 0, 1) := by decide +kernel
theorem dX10_beam_32 : decode cX10_beam 32 = .ok (.ireturn, 1) := by decide +kernel
theorem dX10_beam_33 : decode cX10_beam 33 = .ok (.aload_n 0, 1) := by decide +kernel
theorem dX10_beam_34 : decode cX10_beam 34 = .ok (.getfield 7, 3) := by decide +kernel
theorem dX10_beam_37 : decode cX10_beam 37 = .ok (.iconst 1, 1) := by decide +kernel
theorem dX10_beam_38 : decode cX10_beam 38 = .ok (.iload_n 1, 1) := by decide +kernel
theorem dX10_beam_39 : decode cX10_beam 39 = .ok (.iastore, 1) := by decide +kernel
theorem dX10_beam_40 : decode cX10_beam 40 = .ok (.aload_n 0, 1) := by decide +kernel
theorem dX10_beam_41 : decode cX10_beam 41 = .ok (.getfield 7, 3) := by decide +kernel
theorem dX10_beam_44 : decode cX10_beam 44 = .ok (.iconst 2, 1) := by decide +kernel
theorem dX10_beam_45 : decode cX10_beam 45 = .ok (.iload_n 2, 1) := by decide +kernel
theorem dX10_beam_46 : decode cX10_beam 46 = .ok (.iastore, 1) := by decide +kernel
theorem dX10_beam_47 : decode cX10_beam 47 = .ok (.aload_n 0, 1) := by decide +kernel
theorem dX10_beam_48 : decode cX10_beam 48 = .ok (.getfield 7, 3) := by decide +kernel
theorem dX10_beam_51 : decode cX10_beam 51 = .ok (.iconst 3, 1) := by decide +kernel
theorem dX10_beam_52 : decode cX10_beam 52 = .ok (.iload_n 3, 1) := by decide +kernel
theorem dX10_beam_53 : decode cX10_beam 53 = .ok (.iastore, 1) := by decide +kernel
theorem dX10_beam_54 : decode cX10_beam 54 = .ok (.iconst 1, 1) := by decide +kernel
theorem dX10_beam_55 : decode cX10_beam 55 = .ok (.ireturn, 1) := by decide +kernel
theorem dX10_thing_0 : decode cX10_thing 0 = .ok (.iload_n 1, 1) := by decide +kernel
theorem dX10_thing_1 : decode cX10_thing 1 = .ok (.iconst 1, 1) := by decide +kernel
theorem dX10_thing_2 : decode cX10_thing 2 = .ok (.sipush 999, 3) := by decide +kernel
theorem dX10_thing_5 : decode cX10_thing 5 = .ok (.invokestatic 83, 3) := by decide +kernel
theorem dX10_thing_8 : decode cX10_thing 8 = .ok (.ifCond .eq 24, 3) := by decide +kernel
theorem dX10_thing_11 : decode cX10_thing 11 = .ok (.iload_n 2, 1) := by decide +kernel
theorem dX10_thing_12 : decode cX10_thing 12 = .ok (.iconst 0, 1) := by decide +kernel
theorem dX10_thing_13 : decode cX10_thing 13 = .ok (.bipush 9, 2) := by decide +kernel
theorem dX10_thing_15 : decode cX10_thing 15 = .ok (.invokestatic 83, 3) := by decide +kernel
theorem dX10_thing_18 : decode cX10_thing 18 = .ok (.ifCond .eq 14, 3) := by decide +kernel
theorem dX10_thing_21 : decode cX10_thing 21 = .ok (.aload_n 0, 1) := by decide +kernel
theorem dX10_thing_22 : decode cX10_thing 22 = .ok (.getfield 7, 3) := by decide +kernel
theorem dX10_thing_25 : decode cX10_thing 25 = .ok (.iconst 0, 1) := by decide +kernel
theorem dX10_thing_26 : decode cX10_thing 26 = .ok (.iaload, 1) := by decide +kernel
theorem dX10_thing_27 : decode cX10_thing 27 = .ok (.bipush 12, 2) := by decide +kernel
theorem dX10_thing_29 : decode cX10_thing 29 = .ok (.if_icmp .ne 5, 3) := by decide +kernel
theorem dX10_thing_32 : decode cX10_thing 32 = .ok (.iconst (-1), 1) := by decide +kernel
theorem dX10_thing_33 : decode cX10_thing 33 = .ok (.ireturn, 1) := by decide +kernel
theorem dX10_thing_34 : decode cX10_thing 34 = .ok (.aload_n 0, 1) := by decide +kernel
theorem dX10_thing_35 : decode cX10_thing 35 = .ok (.getfield 7, 3) := by decide +kernel
theorem dX10_thing_38 : decode cX10_thing 38 = .ok (.aload_n 0, 1) := by decide +kernel
theorem dX10_thing_39 : decode cX10_thing 39 = .ok (.getfield 7, 3) := by decide +kernel
theorem dX10_thing_42 : decode cX10_thing 42 = .ok (.iconst 0, 1) := by decide +kernel
theorem dX10_thing_43 : decode cX10_thing 43 = .ok (.iaload, 1) := by decide +kernel
theorem dX10_thing_44 : decode cX10_thing 44 = .ok (.invokestatic 87, 3) := by decide +kernel
theorem dX10_thing_47 : decode cX10_thing 47 = .ok (.iload_n 1, 1) := by decide +kernel
theorem dX10_thing_48 : decode cX10_thing 48 = .ok (.iastore, 1) := by decide +kernel
theorem dX10_thing_49 : decode cX10_thing 49 = .ok (.aload_n 0, 1) := by decide +kernel
theorem dX10_thing_50 : decode cX10_thing 50 = .ok (.getfield 7, 3) := by decide +kernel
theorem dX10_thing_53 : decode cX10_thing 53 = .ok (.aload_n 0, 1) := by decide +kernel
theorem dX10_thing_54 : decode cX10_thing 54 = .ok (.getfield 7, 3) := by decide +kernel
theorem dX10_thing_57 : decode cX10_thing 57 = .ok (.iconst 0, 1) := by decide +kernel
theorem dX10_thing_58 : decode cX10_thing 58 = .ok (.iaload, 1) := by decide +kernel
theorem dX10_thing_59 : decode cX10_thing 59 = .ok (.invokestatic 87, 3) := by decide +kernel
theorem dX10_thing_62 : decode cX10_thing 62 = .ok (.iconst 1, 1) := by decide +kernel
theorem dX10_thing_63 : decode cX10_thing 63 = .ok (.iadd, 1) := by decide +kernel
theorem dX10_thing_64 : decode cX10_thing 64 = .ok (.iload_n 2, 1) := by decide +kernel
theorem dX10_thing_65 : decode cX10_thing 65 = .ok (.iastore, 1) := by decide +kernel
theorem dX10_thing_66 : decode cX10_thing 66 = .ok (.aload_n 0, 1) := by decide +kernel
theorem dX10_thing_67 : decode cX10_thing 67 = .ok (.getfield 7, 3) := by decide +kernel
theorem dX10_thing_70 : decode cX10_thing 70 = .ok (.aload_n 0, 1) := by decide +kernel
theorem dX10_thing_71 : decode cX10_thing 71 = .ok (.getfield 7, 3) := by decide +kernel
theorem dX10_thing_74 : decode cX10_thing 74 = .ok (.iconst 0, 1) := by decide +kernel
theorem dX10_thing_75 : decode cX10_thing 75 = .ok (.iaload, 1) := by decide +kernel
theorem dX10_thing_76 : decode cX10_thing 76 = .ok (.invokestatic 87, 3) := by decide +kernel
theorem dX10_thing_79 : decode cX10_thing 79 = .ok (.iconst 2, 1) := by decide +kernel
theorem dX10_thing_80 : decode cX10_thing 80 = .ok (.iadd, 1) := by decide +kernel
theorem dX10_thing_81 : decode cX10_thing 81 = .ok (.iconst (-1), 1) := by decide +kernel
theorem dX10_thing_82 : decode cX10_thing 82 = .ok (.iastore, 1) := by decide +kernel
theorem dX10_thing_83 : decode cX10_thing 83 = .ok (.aload_n 0, 1) := by decide +kernel
theorem dX10_thing_84 : decode cX10_thing 84 = .ok (.getfield 7, 3) := by decide +kernel
theorem dX10_thing_87 : decode cX10_thing 87 = .ok (.iconst 0, 1) := by decide +kernel
theorem dX10_thing_88 : decode cX10_thing 88 = .ok (.dup2, 1) := by decide +kernel
theorem dX10_thing_89 : decode cX10_thing 89 = .ok (.iaload, 1) := by decide +kernel
theorem dX10_thing_90 : decode cX10_thing 90 = .ok (.iconst 1, 1) := by decide +kernel
theorem dX10_thing_91 : decode cX10_thing 91 = .ok (.iadd, 1) := by decide +kernel
theorem dX10_thing_92 : decode cX10_thing 92 = .ok (.iastore, 1) := by decide +kernel
theorem dX10_thing_93 : decode cX10_thing 93 = .ok (.aload_n 0, 1) := by decide +kernel
theorem dX10_thing_94 : decode cX10_thing 94 = .ok (.getfield 7, 3) := by decide +kernel
theorem dX10_thing_97 : decode cX10_thing 97 = .ok (.iconst 0, 1) := by decide +kernel
theorem dX10_thing_98 : decode cX10_thing 98 = .ok (.iaload, 1) := by decide +kernel
theorem dX10_thing_99 : decode cX10_thing 99 = .ok (.iconst 1, 1) := by decide +kernel
theorem dX10_thing_100 : decode cX10_thing 100 = .ok (.isub, 1) := by decide +kernel
theorem dX10_thing_101 : decode cX10_thing 101 = .ok (.ireturn, 1) := by decide +kernel
theorem dX10_weather_0 : decode cX10_weather 0 = .ok (.iload_n 1, 1) := by decide +kernel
theorem dX10_weather_1 : decode cX10_weather 1 = .ok (.iconst 0, 1) := by decide +kernel
theorem dX10_weather_2 : decode cX10_weather 2 = .ok (.bipush 23, 2) := by decide +kernel
theorem dX10_weather_4 : decode cX10_weather 4 = .ok (.invokestatic 83, 3) := by decide +kernel
theorem dX10_weather_7 : decode cX10_weather 7 = .ok (.ifCond .eq 24, 3) := by decide +kernel
theorem dX10_weather_10 : decode cX10_weather 10 = .ok (.iload_n 2, 1) := by decide +kernel
theorem dX10_weather_11 : decode cX10_weather 11 = .ok (.iconst 0, 1) := by decide +kernel
theorem dX10_weather_12 : decode cX10_weather 12 = .ok (.bipush 9, 2) := by decide +kernel
theorem dX10_weather_14 : decode cX10_weather 14 = .ok (.invokestatic 83, 3) := by decide +kernel
theorem dX10_weather_17 : decode cX10_weather 17 = .ok (.ifCond .eq 14, 3) := by decide +kernel
theorem dX10_weather_20 : decode cX10_weather 20 = .ok (.iload_n 3, 1) := by decide +kernel
theorem dX10_weather_21 : decode cX10_weather 21 = .ok (.bipush (-9), 2) := by decide +kernel
theorem dX10_weather_23 : decode cX10_weather 23 = .ok (.bipush 9, 2) := by decide +kernel
theorem dX10_weather_25 : decode cX10_weather 25 = .ok (.invokestatic 83, 3) := by decide +kernel
theorem dX10_weather_28 : decode cX10_weather 28 = .ok (.ifCond .ne 5, 3) := by decide +kernel
theorem dX10_weather_31 : decode cX10_weather 31 = .ok (.iconst 0, 1) := by decide +kernel
theorem dX10_weather_32 : decode cX10_weather 32 = .ok (.ireturn, 1) := by decide +kernel
theorem dX10_weather_33 : decode cX10_weather 33 = .ok (.aload_n 0, 1) := by decide +kernel
theorem dX10_weather_34 : decode cX10_weather 34 = .ok (.getfield 7, 3) := by decide +kernel
theorem dX10_weather_37 : decode cX10_weather 37 = .ok (.iconst 4, 1) := by decide +kernel
theorem dX10_weather_38 : decode cX10_weather 38 = .ok (.iload_n 1, 1) := by decide +kernel
theorem dX10_weather_39 : decode cX10_weather 39 = .ok (.iastore, 1) := by decide +kernel
theorem dX10_weather_40 : decode cX10_weather 40 = .ok (.aload_n 0, 1) := by decide +kernel
theorem dX10_weather_41 : decode cX10_weather 41 = .ok (.getfield 7, 3) := by decide +kernel
theorem dX10_weather_44 : decode cX10_weather 44 = .ok (.iconst 5, 1) := by decide +kernel
theorem dX10_weather_45 : decode cX10_weather 45 = .ok (.iload_n 2, 1) := by decide +kernel
theorem dX10_weather_46 : decode cX10_weather 46 = .ok (.iastore, 1) := by decide +kernel
theorem dX10_weather_47 : decode cX10_weather 47 = .ok (.aload_n 0, 1) := by decide +kernel
theorem dX10_weather_48 : decode cX10_weather 48 = .ok (.getfield 7, 3) := by decide +kernel
theorem dX10_weather_51 : decode cX10_weather 51 = .ok (.bipush 6, 2) := by decide +kernel
theorem dX10_weather_53 : decode cX10_weather 53 = .ok (.iload_n 3, 1) := by decide +kernel
theorem dX10_weather_54 : decode cX10_weather 54 = .ok (.iastore, 1) := by decide +kernel
theorem dX10_weather_55 : decode cX10_weather 55 = .ok (.iconst 1, 1) := by decide +kernel
theorem dX10_weather_56 : decode cX10_weather 56 = .ok (.ireturn, 1) := by decide +kernel
theorem dX10_four_0 : decode cX10_four 0 = .ok (.bipush 24, 2) := by decide +kernel
theorem dX10_four_2 : decode cX10_four 2 = .ok (.istore_n 2, 1) := by decide +kernel
theorem dX10_four_3 : decode cX10_four 3 = .ok (.iload_n 2, 1) := by decide +kernel
theorem dX10_four_4 : decode cX10_four 4 = .ok (.ifCond .lt 35, 3) := by decide +kernel
theorem dX10_four_7 : decode cX10_four 7 = .ok (.aload_n 0, 1) := by decide +kernel
theorem dX10_four_8 : decode cX10_four 8 = .ok (.getfield 19, 3) := by decide +kernel
theorem dX10_four_11 : decode cX10_four 11 = .ok (.aload_n 0, 1) := by decide +kernel
theorem dX10_four_12 : decode cX10_four 12 = .ok (.getfield 91, 3) := by decide +kernel
theorem dX10_four_15 : decode cX10_four 15 = .ok (.iload_n 1, 1) := by decide +kernel
theorem dX10_four_16 : decode cX10_four 16 = .ok (.iload_n 2, 1) := by decide +kernel
theorem dX10_four_17 : decode cX10_four 17 = .ok (.ishr, 1) := by decide +kernel
theorem dX10_four_18 : decode cX10_four 18 = .ok (.sipush 255, 3) := by decide +kernel
theorem dX10_four_21 : decode cX10_four 21 = .ok (.iand, 1) := by decide +kernel
theorem dX10_four_22 : decode cX10_four 22 = .ok (.iastore, 1) := by decide +kernel
theorem dX10_four_23 : decode cX10_four 23 = .ok (.aload_n 0, 1) := by decide +kernel
theorem dX10_four_24 : decode cX10_four 24 = .ok (.dup, 1) := by decide +kernel
theorem dX10_four_25 : decode cX10_four 25 = .ok (.getfield 91, 3) := by decide +kernel
theorem dX10_four_28 : decode cX10_four 28 = .ok (.iconst 1, 1) := by decide +kernel
theorem dX10_four_29 : decode cX10_four 29 = .ok (.iadd, 1) := by decide +kernel
theorem dX10_four_30 : decode cX10_four 30 = .ok (.putfield 91, 3) := by decide +kernel
theorem dX10_four_33 : decode cX10_four 33 = .ok (.iinc 2 (-8), 3) := by decide +kernel
theorem dX10_four_36 : decode cX10_four 36 = .ok (.goto (-33), 3) := by decide +kernel
theorem dX10_four_39 : decode cX10_four 39 = .ok (.return_, 1) := by decide +kernel
theorem dX10_feed_0 : decode cX10_feed 0 = .ok (.aload_n 0, 1) := by decide +kernel
theorem dX10_feed_1 : decode cX10_feed 1 = .ok (.getfield 91, 3) := by decide +kernel
theorem dX10_feed_4 : decode cX10_feed 4 = .ok (.bipush 20, 2) := by decide +kernel
theorem dX10_feed_6 : decode cX10_feed 6 = .ok (.iadd, 1) := by decide +kernel
theorem dX10_feed_7 : decode cX10_feed 7 = .ok (.sipush 300, 3) := by decide +kernel
theorem dX10_feed_10 : decode cX10_feed 10 = .ok (.if_icmp .le 5, 3) := by decide +kernel
theorem dX10_feed_13 : decode cX10_feed 13 = .ok (.iconst (-1), 1) := by decide +kernel
theorem dX10_feed_14 : decode cX10_feed 14 = .ok (.ireturn, 1) := by decide +kernel
theorem dX10_feed_15 : decode cX10_feed 15 = .ok (.aload_n 0, 1) := by decide +kernel
theorem dX10_feed_16 : decode cX10_feed 16 = .ok (.iload_n 1, 1) := by decide +kernel
theorem dX10_feed_17 : decode cX10_feed 17 = .ok (.invokevirtual 94, 3) := by decide +kernel
theorem dX10_feed_20 : decode cX10_feed 20 = .ok (.aload_n 0, 1) := by decide +kernel
theorem dX10_feed_21 : decode cX10_feed 21 = .ok (.iload_n 2, 1) := by decide +kernel
theorem dX10_feed_22 : decode cX10_feed 22 = .ok (.invokevirtual 94, 3) := by decide +kernel
theorem dX10_feed_25 : decode cX10_feed 25 = .ok (.aload_n 0, 1) := by decide +kernel
theorem dX10_feed_26 : decode cX10_feed 26 = .ok (.iload_n 3, 1) := by decide +kernel
theorem dX10_feed_27 : decode cX10_feed 27 = .ok (.invokevirtual 94, 3) := by decide +kernel
theorem dX10_feed_30 : decode cX10_feed 30 = .ok (.aload_n 0, 1) := by decide +kernel
theorem dX10_feed_31 : decode cX10_feed 31 = .ok (.iload 4, 2) := by decide +kernel
theorem dX10_feed_33 : decode cX10_feed 33 = .ok (.invokevirtual 94, 3) := by decide +kernel
theorem dX10_feed_36 : decode cX10_feed 36 = .ok (.aload_n 0, 1) := by decide +kernel
theorem dX10_feed_37 : decode cX10_feed 37 = .ok (.iload 5, 2) := by decide +kernel
theorem dX10_feed_39 : decode cX10_feed 39 = .ok (.invokevirtual 94, 3) := by decide +kernel
theorem dX10_feed_42 : decode cX10_feed 42 = .ok (.aload_n 0, 1) := by decide +kernel
theorem dX10_feed_43 : decode cX10_feed 43 = .ok (.getfield 91, 3) := by decide +kernel
theorem dX10_feed_46 : decode cX10_feed 46 = .ok (.ireturn, 1) := by decide +kernel
theorem dX10_end_0 : decode cX10_end 0 = .ok (.iload_n 1, 1) := by decide +kernel
theorem dX10_end_1 : decode cX10_end 1 = .ok (.iconst 0, 1) := by decide +kernel
theorem dX10_end_2 : decode cX10_end 2 = .ok (.aload_n 0, 1) := by decide +kernel
theorem dX10_end_3 : decode cX10_end 3 = .ok (.getfield 91, 3) := by decide +kernel
theorem dX10_end_6 : decode cX10_end 6 = .ok (.invokestatic 83, 3) := by decide +kernel
theorem dX10_end_9 : decode cX10_end 9 = .ok (.ifCond .ne 5, 3) := by decide +kernel
theorem dX10_end_12 : decode cX10_end 12 = .ok (.iconst (-1), 1) := by decide +kernel
theorem dX10_end_13 : decode cX10_end 13 = .ok (.ireturn, 1) := by decide +kernel
theorem dX10_end_14 : decode cX10_end 14 = .ok (.aload_n 0, 1) := by decide +kernel
theorem dX10_end_15 : decode cX10_end 15 = .ok (.iload_n 1, 1) := by decide +kernel
theorem dX10_end_16 : decode cX10_end 16 = .ok (.putfield 91, 3) := by decide +kernel
theorem dX10_end_19 : decode cX10_end 19 = .ok (.iload_n 1, 1) := by decide +kernel
theorem dX10_end_20 : decode cX10_end 20 = .ok (.ireturn, 1) := by decide +kernel
theorem dX10_byteAt_0 : decode cX10_byteAt 0 = .ok (.iload_n 1, 1) := by decide +kernel
theorem dX10_byteAt_1 : decode cX10_byteAt 1 = .ok (.aload_n 0, 1) := by decide +kernel
theorem dX10_byteAt_2 : decode cX10_byteAt 2 = .ok (.getfield 91, 3) := by decide +kernel
theorem dX10_byteAt_5 : decode cX10_byteAt 5 = .ok (.if_icmp .ge 12, 3) := by decide +kernel
theorem dX10_byteAt_8 : decode cX10_byteAt 8 = .ok (.aload_n 0, 1) := by decide +kernel
theorem dX10_byteAt_9 : decode cX10_byteAt 9 = .ok (.getfield 19, 3) := by decide +kernel
theorem dX10_byteAt_12 : decode cX10_byteAt 12 = .ok (.iload_n 1, 1) := by decide +kernel
theorem dX10_byteAt_13 : decode cX10_byteAt 13 = .ok (.iaload, 1) := by decide +kernel
theorem dX10_byteAt_14 : decode cX10_byteAt 14 = .ok (.goto 4, 3) := by decide +kernel
theorem dX10_byteAt_17 : decode cX10_byteAt 17 = .ok (.iconst (-1), 1) := by decide +kernel
theorem dX10_byteAt_18 : decode cX10_byteAt 18 = .ok (.ireturn, 1) := by decide +kernel
theorem dX10_isLetter_0 : decode cX10_isLetter 0 = .ok (.iload_n 0, 1) := by decide +kernel
theorem dX10_isLetter_1 : decode cX10_isLetter 1 = .ok (.bipush 97, 2) := by decide +kernel
theorem dX10_isLetter_3 : decode cX10_isLetter 3 = .ok (.bipush 122, 2) := by decide +kernel
theorem dX10_isLetter_5 : decode cX10_isLetter 5 = .ok (.invokestatic 83, 3) := by decide +kernel
theorem dX10_isLetter_8 : decode cX10_isLetter 8 = .ok (.ifCond .ne 14, 3) := by decide +kernel
theorem dX10_isLetter_11 : decode cX10_isLetter 11 = .ok (.iload_n 0, 1) := by decide +kernel
theorem dX10_isLetter_12 : decode cX10_isLetter 12 = .ok (.bipush 65, 2) := by decide +kernel
theorem dX10_isLetter_14 : decode cX10_isLetter 14 = .ok (.bipush 90, 2) := by decide +kernel
theorem dX10_isLetter_16 : decode cX10_isLetter 16 = .ok (.invokestatic 83, 3) := by decide +kernel
theorem dX10_isLetter_19 : decode cX10_isLetter 19 = .ok (.ifCond .eq 7, 3) := by decide +kernel
theorem dX10_isLetter_22 : decode cX10_isLetter 22 = .ok (.iconst 1, 1) := by decide +kernel
theorem dX10_isLetter_23 : decode cX10_isLetter 23 = .ok (.goto 4, 3) := by decide +kernel
theorem dX10_isLetter_26 : decode cX10_isLetter 26 = .ok (.iconst 0, 1) := by decide +kernel
theorem dX10_isLetter_27 : decode cX10_isLetter 27 = .ok (.ireturn, 1) := by decide +kernel
theorem dX10_isDigit_0 : decode cX10_isDigit 0 = .ok (.iload_n 0, 1) := by decide +kernel
theorem dX10_isDigit_1 : decode cX10_isDigit 1 = .ok (.bipush 48, 2) := by decide +kernel
theorem dX10_isDigit_3 : decode cX10_isDigit 3 = .ok (.bipush 57, 2) := by decide +kernel
theorem dX10_isDigit_5 : decode cX10_isDigit 5 = .ok (.invokestatic 83, 3) := by decide +kernel
theorem dX10_isDigit_8 : decode cX10_isDigit 8 = .ok (.ireturn, 1) := by decide +kernel
theorem dX10_nextToken_0 : decode cX10_nextToken 0 = .ok (.aload_n 0, 1) := by decide +kernel
theorem dX10_nextToken_1 : decode cX10_nextToken 1 = .ok (.aload_n 0, 1) := by decide +kernel
theorem dX10_nextToken_2 : decode cX10_nextToken 2 = .ok (.getfield 98, 3) := by decide +kernel
theorem dX10_nextToken_5 : decode cX10_nextToken 5 = .ok (.invokevirtual 101, 3) := by decide +kernel
theorem dX10_nextToken_8 : decode cX10_nextToken 8 = .ok (.bipush 32, 2) := by decide +kernel
theorem dX10_nextToken_10 : decode cX10_nextToken 10 = .ok (.if_icmp .eq 16, 3) := by decide +kernel
theorem dX10_nextToken_13 : decode cX10_nextToken 13 = .ok (.aload_n 0, 1) := by decide +kernel
theorem dX10_nextToken_14 : decode cX10_nextToken 14 = .ok (.aload_n 0, 1) := by decide +kernel
theorem dX10_nextToken_15 : decode cX10_nextToken 15 = .ok (.getfield 98, 3) := by decide +kernel
theorem dX10_nextToken_18 : decode cX10_nextToken 18 = .ok (.invokevirtual 101, 3) := by decide +kernel
theorem dX10_nextToken_21 : decode cX10_nextToken 21 = .ok (.bipush 10, 2) := by decide +kernel
theorem dX10_nextToken_23 : decode cX10_nextToken 23 = .ok (.if_icmp .ne 16, 3) := by decide +kernel
theorem dX10_nextToken_26 : decode cX10_nextToken 26 = .ok (.aload_n 0, 1) := by decide +kernel
theorem dX10_nextToken_27 : decode cX10_nextToken 27 = .ok (.dup, 1) := by decide +kernel
theorem dX10_nextToken_28 : decode cX10_nextToken 28 = .ok (.getfield 98, 3) := by decide +kernel
theorem dX10_nextToken_31 : decode cX10_nextToken 31 = .ok (.iconst 1, 1) := by decide +kernel
theorem dX10_nextToken_32 : decode cX10_nextToken 32 = .ok (.iadd, 1) := by decide +kernel
theorem dX10_nextToken_33 : decode cX10_nextToken 33 = .ok (.putfield 98, 3) := by decide +kernel
theorem dX10_nextToken_36 : decode cX10_nextToken 36 = .ok (.goto (-36), 3) := by decide +kernel
theorem dX10_nextToken_39 : decode cX10_nextToken 39 = .ok (.aload_n 0, 1) := by decide +kernel
theorem dX10_nextToken_40 : decode cX10_nextToken 40 = .ok (.aload_n 0, 1) := by decide +kernel
theorem dX10_nextToken_41 : decode cX10_nextToken 41 = .ok (.getfield 98, 3) := by decide +kernel
theorem dX10_nextToken_44 : decode cX10_nextToken 44 = .ok (.putfield 104, 3) := by decide +kernel
theorem dX10_nextToken_47 : decode cX10_nextToken 47 = .ok (.aload_n 0, 1) := by decide +kernel
theorem dX10_nextToken_48 : decode cX10_nextToken 48 = .ok (.aload_n 0, 1) := by decide +kernel
theorem dX10_nextToken_49 : decode cX10_nextToken 49 = .ok (.getfield 98, 3) := by decide +kernel
theorem dX10_nextToken_52 : decode cX10_nextToken 52 = .ok (.invokevirtual 101, 3) := by decide +kernel
theorem dX10_nextToken_55 : decode cX10_nextToken 55 = .ok (.istore_n 1, 1) := by decide +kernel
theorem dX10_nextToken_56 : decode cX10_nextToken 56 = .ok (.iload_n 1, 1) := by decide +kernel
theorem dX10_nextToken_57 : decode cX10_nextToken 57 = .ok (.ifCond .ge 11, 3) := by decide +kernel
theorem dX10_nextToken_60 : decode cX10_nextToken 60 = .ok (.aload_n 0, 1) := by decide +kernel
theorem dX10_nextToken_61 : decode cX10_nextToken 61 = .ok (.iconst 0, 1) := by decide +kernel
theorem dX10_nextToken_62 : decode cX10_nextToken 62 = .ok (.putfield 107, 3) := by decide +kernel
theorem dX10_nextToken_65 : decode cX10_nextToken 65 = .ok (.goto 325, 3) := by decide +kernel
theorem dX10_nextToken_68 : decode cX10_nextToken 68 = .ok (.iload_n 1, 1) := by decide +kernel
theorem dX10_nextToken_69 : decode cX10_nextToken 69 = .ok (.invokestatic 110, 3) := by decide +kernel
theorem dX10_nextToken_72 : decode cX10_nextToken 72 = .ok (.ifCond .eq 72, 3) := by decide +kernel
theorem dX10_nextToken_75 : decode cX10_nextToken 75 = .ok (.aload_n 0, 1) := by decide +kernel
theorem dX10_nextToken_76 : decode cX10_nextToken 76 = .ok (.iconst 1, 1) := by decide +kernel
theorem dX10_nextToken_77 : decode cX10_nextToken 77 = .ok (.putfield 107, 3) := by decide +kernel
theorem dX10_nextToken_80 : decode cX10_nextToken 80 = .ok (.aload_n 0, 1) := by decide +kernel
theorem dX10_nextToken_81 : decode cX10_nextToken 81 = .ok (.iconst 0, 1) := by decide +kernel
theorem dX10_nextToken_82 : decode cX10_nextToken 82 = .ok (.putfield 114, 3) := by decide +kernel
theorem dX10_nextToken_85 : decode cX10_nextToken 85 = .ok (.aload_n 0, 1) := by decide +kernel
theorem dX10_nextToken_86 : decode cX10_nextToken 86 = .ok (.aload_n 0, 1) := by decide +kernel
theorem dX10_nextToken_87 : decode cX10_nextToken 87 = .ok (.getfield 98, 3) := by decide +kernel
theorem dX10_nextToken_90 : decode cX10_nextToken 90 = .ok (.invokevirtual 101, 3) := by decide +kernel
theorem dX10_nextToken_93 : decode cX10_nextToken 93 = .ok (.invokestatic 110, 3) := by decide +kernel
theorem dX10_nextToken_96 : decode cX10_nextToken 96 = .ok (.ifCond .eq 294, 3) := by decide +kernel
theorem dX10_nextToken_99 : decode cX10_nextToken 99 = .ok (.aload_n 0, 1) := by decide +kernel
theorem dX10_nextToken_100 : decode cX10_nextToken 100 = .ok (.getfield 114, 3) := by decide +kernel
theorem dX10_nextToken_103 : decode cX10_nextToken 103 = .ok (.ldc 117, 2) := by decide +kernel
theorem dX10_nextToken_105 : decode cX10_nextToken 105 = .ok (.if_icmp .ge 26, 3) := by decide +kernel
theorem dX10_nextToken_108 : decode cX10_nextToken 108 = .ok (.aload_n 0, 1) := by decide +kernel
theorem dX10_nextToken_109 : decode cX10_nextToken 109 = .ok (.bipush 10, 2) := by decide +kernel
theorem dX10_nextToken_111 : decode cX10_nextToken 111 = .ok (.aload_n 0, 1) := by decide +kernel
theorem dX10_nextToken_112 : decode cX10_nextToken 112 = .ok (.getfield 114, 3) := by decide +kernel
theorem dX10_nextToken_115 : decode cX10_nextToken 115 = .ok (.imul, 1) := by decide +kernel
theorem dX10_nextToken_116 : decode cX10_nextToken 116 = .ok (.aload_n 0, 1) := by decide +kernel
theorem dX10_nextToken_117 : decode cX10_nextToken 117 = .ok (.aload_n 0, 1) := by decide +kernel
theorem dX10_nextToken_118 : decode cX10_nextToken 118 = .ok (.getfield 98, 3) := by decide +kernel
theorem dX10_nextToken_121 : decode cX10_nextToken 121 = .ok (.invokevirtual 101, 3) := by decide +kernel
theorem dX10_nextToken_124 : decode cX10_nextToken 124 = .ok (.iadd, 1) := by decide +kernel
theorem dX10_nextToken_125 : decode cX10_nextToken 125 = .ok (.bipush 48, 2) := by decide +kernel
theorem dX10_nextToken_127 : decode cX10_nextToken 127 = .ok (.isub, 1) := by decide +kernel
theorem dX10_nextToken_128 : decode cX10_nextToken 128 = .ok (.putfield 114, 3) := by decide +kernel
theorem dX10_nextToken_131 : decode cX10_nextToken 131 = .ok (.aload_n 0, 1) := by decide +kernel
theorem dX10_nextToken_132 : decode cX10_nextToken 132 = .ok (.dup, 1) := by decide +kernel
theorem dX10_nextToken_133 : decode cX10_nextToken 133 = .ok (.getfield 98, 3) := by decide +kernel
theorem dX10_nextToken_136 : decode cX10_nextToken 136 = .ok (.iconst 1, 1) := by decide +kernel
theorem dX10_nextToken_137 : decode cX10_nextToken 137 = .ok (.iadd, 1) := by decide +kernel
theorem dX10_nextToken_138 : decode cX10_nextToken 138 = .ok (.putfield 98, 3) := by decide +kernel
theorem dX10_nextToken_141 : decode cX10_nextToken 141 = .ok (.goto (-56), 3) := by decide +kernel
theorem dX10_nextToken_144 : decode cX10_nextToken 144 = .ok (.iload_n 1, 1) := by decide +kernel
theorem dX10_nextToken_145 : decode cX10_nextToken 145 = .ok (.invokestatic 118, 3) := by decide +kernel
theorem dX10_nextToken_148 : decode cX10_nextToken 148 = .ok (.ifCond .eq 97, 3) := by decide +kernel
theorem dX10_nextToken_151 : decode cX10_nextToken 151 = .ok (.aload_n 0, 1) := by decide +kernel
theorem dX10_nextToken_152 : decode cX10_nextToken 152 = .ok (.iconst 2, 1) := by decide +kernel
theorem dX10_nextToken_153 : decode cX10_nextToken 153 = .ok (.putfield 107, 3) := by decide +kernel
theorem dX10_nextToken_156 : decode cX10_nextToken 156 = .ok (.aload_n 0, 1) := by decide +kernel
theorem dX10_nextToken_157 : decode cX10_nextToken 157 = .ok (.lconst 0, 1) := by decide +kernel
theorem dX10_nextToken_158 : decode cX10_nextToken 158 = .ok (.putfield 121, 3) := by decide +kernel
theorem dX10_nextToken_161 : decode cX10_nextToken 161 = .ok (.aload_n 0, 1) := by decide +kernel
theorem dX10_nextToken_162 : decode cX10_nextToken 162 = .ok (.aload_n 0, 1) := by decide +kernel
theorem dX10_nextToken_163 : decode cX10_nextToken 163 = .ok (.getfield 98, 3) := by decide +kernel
theorem dX10_nextToken_166 : decode cX10_nextToken 166 = .ok (.invokevirtual 101, 3) := by decide +kernel
theorem dX10_nextToken_169 : decode cX10_nextToken 169 = .ok (.invokestatic 118, 3) := by decide +kernel
theorem dX10_nextToken_172 : decode cX10_nextToken 172 = .ok (.ifCond .eq 51, 3) := by decide +kernel
theorem dX10_nextToken_175 : decode cX10_nextToken 175 = .ok (.aload_n 0, 1) := by decide +kernel
theorem dX10_nextToken_176 : decode cX10_nextToken 176 = .ok (.getfield 98, 3) := by decide +kernel
theorem dX10_nextToken_179 : decode cX10_nextToken 179 = .ok (.aload_n 0, 1) := by decide +kernel
theorem dX10_nextToken_180 : decode cX10_nextToken 180 = .ok (.getfield 104, 3) := by decide +kernel
theorem dX10_nextToken_183 : decode cX10_nextToken 183 = .ok (.isub, 1) := by decide +kernel
theorem dX10_nextToken_184 : decode cX10_nextToken 184 = .ok (.bipush 7, 2) := by decide +kernel
theorem dX10_nextToken_186 : decode cX10_nextToken 186 = .ok (.if_icmp .ge 24, 3) := by decide +kernel
theorem dX10_nextToken_189 : decode cX10_nextToken 189 = .ok (.aload_n 0, 1) := by decide +kernel
theorem dX10_nextToken_190 : decode cX10_nextToken 190 = .ok (.aload_n 0, 1) := by decide +kernel
theorem dX10_nextToken_191 : decode cX10_nextToken 191 = .ok (.getfield 121, 3) := by decide +kernel
theorem dX10_nextToken_194 : decode cX10_nextToken 194 = .ok (.bipush 8, 2) := by decide +kernel
theorem dX10_nextToken_196 : decode cX10_nextToken 196 = .ok (.lshl, 1) := by decide +kernel
theorem dX10_nextToken_197 : decode cX10_nextToken 197 = .ok (.aload_n 0, 1) := by decide +kernel
theorem dX10_nextToken_198 : decode cX10_nextToken 198 = .ok (.aload_n 0, 1) := by decide +kernel
theorem dX10_nextToken_199 : decode cX10_nextToken 199 = .ok (.getfield 98, 3) := by decide +kernel
theorem dX10_nextToken_202 : decode cX10_nextToken 202 = .ok (.invokevirtual 101, 3) := by decide +kernel
theorem dX10_nextToken_205 : decode cX10_nextToken 205 = .ok (.i2l, 1) := by decide +kernel
theorem dX10_nextToken_206 : decode cX10_nextToken 206 = .ok (.lor, 1) := by decide +kernel
theorem dX10_nextToken_207 : decode cX10_nextToken 207 = .ok (.putfield 121, 3) := by decide +kernel
theorem dX10_nextToken_210 : decode cX10_nextToken 210 = .ok (.aload_n 0, 1) := by decide +kernel
theorem dX10_nextToken_211 : decode cX10_nextToken 211 = .ok (.dup, 1) := by decide +kernel
theorem dX10_nextToken_212 : decode cX10_nextToken 212 = .ok (.getfield 98, 3) := by decide +kernel
theorem dX10_nextToken_215 : decode cX10_nextToken 215 = .ok (.iconst 1, 1) := by decide +kernel
theorem dX10_nextToken_216 : decode cX10_nextToken 216 = .ok (.iadd, 1) := by decide +kernel
theorem dX10_nextToken_217 : decode cX10_nextToken 217 = .ok (.putfield 98, 3) := by decide +kernel
theorem dX10_nextToken_220 : decode cX10_nextToken 220 = .ok (.goto (-59), 3) := by decide +kernel
theorem dX10_nextToken_223 : decode cX10_nextToken 223 = .ok (.aload_n 0, 1) := by decide +kernel
theorem dX10_nextToken_224 : decode cX10_nextToken 224 = .ok (.getfield 98, 3) := by decide +kernel
theorem dX10_nextToken_227 : decode cX10_nextToken 227 = .ok (.aload_n 0, 1) := by decide +kernel
theorem dX10_nextToken_228 : decode cX10_nextToken 228 = .ok (.getfield 104, 3) := by decide +kernel
theorem dX10_nextToken_231 : decode cX10_nextToken 231 = .ok (.isub, 1) := by decide +kernel
theorem dX10_nextToken_232 : decode cX10_nextToken 232 = .ok (.bipush 7, 2) := by decide +kernel
theorem dX10_nextToken_234 : decode cX10_nextToken 234 = .ok (.if_icmp .le 156, 3) := by decide +kernel
theorem dX10_nextToken_237 : decode cX10_nextToken 237 = .ok (.aload_n 0, 1) := by decide +kernel
theorem dX10_nextToken_238 : decode cX10_nextToken 238 = .ok (.lconst 0, 1) := by decide +kernel
theorem dX10_nextToken_239 : decode cX10_nextToken 239 = .ok (.putfield 121, 3) := by decide +kernel
theorem dX10_nextToken_242 : decode cX10_nextToken 242 = .ok (.goto 148, 3) := by decide +kernel
theorem dX10_nextToken_245 : decode cX10_nextToken 245 = .ok (.aload_n 0, 1) := by decide +kernel
theorem dX10_nextToken_246 : decode cX10_nextToken 246 = .ok (.dup, 1) := by decide +kernel
theorem dX10_nextToken_247 : decode cX10_nextToken 247 = .ok (.getfield 98, 3) := by decide +kernel
theorem dX10_nextToken_250 : decode cX10_nextToken 250 = .ok (.iconst 1, 1) := by decide +kernel
theorem dX10_nextToken_251 : decode cX10_nextToken 251 = .ok (.iadd, 1) := by decide +kernel
theorem dX10_nextToken_252 : decode cX10_nextToken 252 = .ok (.putfield 98, 3) := by decide +kernel
theorem dX10_nextToken_255 : decode cX10_nextToken 255 = .ok (.iload_n 1, 1) := by decide +kernel
theorem dX10_nextToken_256 : decode cX10_nextToken 256 = .ok (.bipush 60, 2) := by decide +kernel
theorem dX10_nextToken_258 : decode cX10_nextToken 258 = .ok (.if_icmp .eq 63, 3) := by decide +kernel
theorem dX10_nextToken_261 : decode cX10_nextToken 261 = .ok (.iload_n 1, 1) := by decide +kernel
theorem dX10_nextToken_262 : decode cX10_nextToken 262 = .ok (.bipush 62, 2) := by decide +kernel
theorem dX10_nextToken_264 : decode cX10_nextToken 264 = .ok (.if_icmp .eq 57, 3) := by decide +kernel
theorem dX10_nextToken_267 : decode cX10_nextToken 267 = .ok (.iload_n 1, 1) := by decide +kernel
theorem dX10_nextToken_268 : decode cX10_nextToken 268 = .ok (.bipush 61, 2) := by decide +kernel
theorem dX10_nextToken_270 : decode cX10_nextToken 270 = .ok (.if_icmp .eq 51, 3) := by decide +kernel
theorem dX10_nextToken_273 : decode cX10_nextToken 273 = .ok (.iload_n 1, 1) := by decide +kernel
theorem dX10_nextToken_274 : decode cX10_nextToken 274 = .ok (.bipush 35, 2) := by decide +kernel
theorem dX10_nextToken_276 : decode cX10_nextToken 276 = .ok (.if_icmp .eq 45, 3) := by decide +kernel
theorem dX10_nextToken_279 : decode cX10_nextToken 279 = .ok (.iload_n 1, 1) := by decide +kernel
theorem dX10_nextToken_280 : decode cX10_nextToken 280 = .ok (.bipush 43, 2) := by decide +kernel
theorem dX10_nextToken_282 : decode cX10_nextToken 282 = .ok (.if_icmp .eq 39, 3) := by decide +kernel
theorem dX10_nextToken_285 : decode cX10_nextToken 285 = .ok (.iload_n 1, 1) := by decide +kernel
theorem dX10_nextToken_286 : decode cX10_nextToken 286 = .ok (.bipush 45, 2) := by decide +kernel
theorem dX10_nextToken_288 : decode cX10_nextToken 288 = .ok (.if_icmp .eq 33, 3) := by decide +kernel
theorem dX10_nextToken_291 : decode cX10_nextToken 291 = .ok (.iload_n 1, 1) := by decide +kernel
theorem dX10_nextToken_292 : decode cX10_nextToken 292 = .ok (.bipush 42, 2) := by decide +kernel
theorem dX10_nextToken_294 : decode cX10_nextToken 294 = .ok (.if_icmp .eq 27, 3) := by decide +kernel
theorem dX10_nextToken_297 : decode cX10_nextToken 297 = .ok (.iload_n 1, 1) := by decide +kernel
theorem dX10_nextToken_298 : decode cX10_nextToken 298 = .ok (.bipush 47, 2) := by decide +kernel
theorem dX10_nextToken_300 : decode cX10_nextToken 300 = .ok (.if_icmp .eq 21, 3) := by decide +kernel
theorem dX10_nextToken_303 : decode cX10_nextToken 303 = .ok (.iload_n 1, 1) := by decide +kernel
theorem dX10_nextToken_304 : decode cX10_nextToken 304 = .ok (.bipush 40, 2) := by decide +kernel
theorem dX10_nextToken_306 : decode cX10_nextToken 306 = .ok (.if_icmp .eq 15, 3) := by decide +kernel
theorem dX10_nextToken_309 : decode cX10_nextToken 309 = .ok (.iload_n 1, 1) := by decide +kernel
theorem dX10_nextToken_310 : decode cX10_nextToken 310 = .ok (.bipush 41, 2) := by decide +kernel
theorem dX10_nextToken_312 : decode cX10_nextToken 312 = .ok (.if_icmp .eq 9, 3) := by decide +kernel
theorem dX10_nextToken_315 : decode cX10_nextToken 315 = .ok (.iload_n 1, 1) := by decide +kernel
theorem dX10_nextToken_316 : decode cX10_nextToken 316 = .ok (.bipush 59, 2) := by decide +kernel
theorem dX10_nextToken_318 : decode cX10_nextToken 318 = .ok (.if_icmp .ne 7, 3) := by decide +kernel
theorem dX10_nextToken_321 : decode cX10_nextToken 321 = .ok (.iconst 1, 1) := by decide +kernel
theorem dX10_nextToken_322 : decode cX10_nextToken 322 = .ok (.goto 4, 3) := by decide +kernel
theorem dX10_nextToken_325 : decode cX10_nextToken 325 = .ok (.iconst 0, 1) := by decide +kernel
theorem dX10_nextToken_326 : decode cX10_nextToken 326 = .ok (.istore_n 2, 1) := by decide +kernel
theorem dX10_nextToken_327 : decode cX10_nextToken 327 = .ok (.aload_n 0, 1) := by decide +kernel
theorem dX10_nextToken_328 : decode cX10_nextToken 328 = .ok (.iload_n 2, 1) := by decide +kernel
theorem dX10_nextToken_329 : decode cX10_nextToken 329 = .ok (.ifCond .eq 7, 3) := by decide +kernel
theorem dX10_nextToken_332 : decode cX10_nextToken 332 = .ok (.iload_n 1, 1) := by decide +kernel
theorem dX10_nextToken_333 : decode cX10_nextToken 333 = .ok (.goto 4, 3) := by decide +kernel
theorem dX10_nextToken_336 : decode cX10_nextToken 336 = .ok (.iconst 3, 1) := by decide +kernel
theorem dX10_nextToken_337 : decode cX10_nextToken 337 = .ok (.putfield 107, 3) := by decide +kernel
theorem dX10_nextToken_340 : decode cX10_nextToken 340 = .ok (.iload_n 1, 1) := by decide +kernel
theorem dX10_nextToken_341 : decode cX10_nextToken 341 = .ok (.bipush 60, 2) := by decide +kernel
theorem dX10_nextToken_343 : decode cX10_nextToken 343 = .ok (.if_icmp .eq 9, 3) := by decide +kernel
theorem dX10_nextToken_346 : decode cX10_nextToken 346 = .ok (.iload_n 1, 1) := by decide +kernel
theorem dX10_nextToken_347 : decode cX10_nextToken 347 = .ok (.bipush 62, 2) := by decide +kernel
theorem dX10_nextToken_349 : decode cX10_nextToken 349 = .ok (.if_icmp .ne 41, 3) := by decide +kernel
theorem dX10_nextToken_352 : decode cX10_nextToken 352 = .ok (.aload_n 0, 1) := by decide +kernel
theorem dX10_nextToken_353 : decode cX10_nextToken 353 = .ok (.aload_n 0, 1) := by decide +kernel
theorem dX10_nextToken_354 : decode cX10_nextToken 354 = .ok (.getfield 98, 3) := by decide +kernel
theorem dX10_nextToken_357 : decode cX10_nextToken 357 = .ok (.invokevirtual 101, 3) := by decide +kernel
theorem dX10_nextToken_360 : decode cX10_nextToken 360 = .ok (.bipush 61, 2) := by decide +kernel
theorem dX10_nextToken_362 : decode cX10_nextToken 362 = .ok (.if_icmp .ne 28, 3) := by decide +kernel
theorem dX10_nextToken_365 : decode cX10_nextToken 365 = .ok (.aload_n 0, 1) := by decide +kernel
theorem dX10_nextToken_366 : decode cX10_nextToken 366 = .ok (.dup, 1) := by decide +kernel
theorem dX10_nextToken_367 : decode cX10_nextToken 367 = .ok (.getfield 98, 3) := by decide +kernel
theorem dX10_nextToken_370 : decode cX10_nextToken 370 = .ok (.iconst 1, 1) := by decide +kernel
theorem dX10_nextToken_371 : decode cX10_nextToken 371 = .ok (.iadd, 1) := by decide +kernel
theorem dX10_nextToken_372 : decode cX10_nextToken 372 = .ok (.putfield 98, 3) := by decide +kernel
theorem dX10_nextToken_375 : decode cX10_nextToken 375 = .ok (.aload_n 0, 1) := by decide +kernel
theorem dX10_nextToken_376 : decode cX10_nextToken 376 = .ok (.iload_n 1, 1) := by decide +kernel
theorem dX10_nextToken_377 : decode cX10_nextToken 377 = .ok (.bipush 60, 2) := by decide +kernel
theorem dX10_nextToken_379 : decode cX10_nextToken 379 = .ok (.if_icmp .ne 7, 3) := by decide +kernel
theorem dX10_nextToken_382 : decode cX10_nextToken 382 = .ok (.iconst 4, 1) := by decide +kernel
theorem dX10_nextToken_383 : decode cX10_nextToken 383 = .ok (.goto 4, 3) := by decide +kernel
theorem dX10_nextToken_386 : decode cX10_nextToken 386 = .ok (.iconst 5, 1) := by decide +kernel
theorem dX10_nextToken_387 : decode cX10_nextToken 387 = .ok (.putfield 107, 3) := by decide +kernel
theorem dX10_nextToken_390 : decode cX10_nextToken 390 = .ok (.return_, 1) := by decide +kernel
theorem dX10_w3_0 : decode cX10_w3 0 = .ok (.iload_n 0, 1) := by decide +kernel
theorem dX10_w3_1 : decode cX10_w3 1 = .ok (.i2l, 1) := by decide +kernel
theorem dX10_w3_2 : decode cX10_w3 2 = .ok (.bipush 8, 2) := by decide +kernel
theorem dX10_w3_4 : decode cX10_w3 4 = .ok (.lshl, 1) := by decide +kernel
theorem dX10_w3_5 : decode cX10_w3 5 = .ok (.iload_n 1, 1) := by decide +kernel
theorem dX10_w3_6 : decode cX10_w3 6 = .ok (.i2l, 1) := by decide +kernel
theorem dX10_w3_7 : decode cX10_w3 7 = .ok (.lor, 1) := by decide +kernel
theorem dX10_w3_8 : decode cX10_w3 8 = .ok (.bipush 8, 2) := by decide +kernel
theorem dX10_w3_10 : decode cX10_w3 10 = .ok (.lshl, 1) := by decide +kernel
theorem dX10_w3_11 : decode cX10_w3 11 = .ok (.iload_n 2, 1) := by decide +kernel
theorem dX10_w3_12 : decode cX10_w3 12 = .ok (.i2l, 1) := by decide +kernel
theorem dX10_w3_13 : decode cX10_w3 13 = .ok (.lor, 1) := by decide +kernel
theorem dX10_w3_14 : decode cX10_w3 14 = .ok (.lreturn, 1) := by decide +kernel
theorem dX10_w5_0 : decode cX10_w5 0 = .ok (.iload_n 0, 1) := by decide +kernel
theorem dX10_w5_1 : decode cX10_w5 1 = .ok (.iload_n 1, 1) := by decide +kernel
theorem dX10_w5_2 : decode cX10_w5 2 = .ok (.iload_n 2, 1) := by decide +kernel
theorem dX10_w5_3 : decode cX10_w5 3 = .ok (.invokestatic 125, 3) := by decide +kernel
theorem dX10_w5_6 : decode cX10_w5 6 = .ok (.bipush 8, 2) := by decide +kernel
theorem dX10_w5_8 : decode cX10_w5 8 = .ok (.lshl, 1) := by decide +kernel
theorem dX10_w5_9 : decode cX10_w5 9 = .ok (.iload_n 3, 1) := by decide +kernel
theorem dX10_w5_10 : decode cX10_w5 10 = .ok (.i2l, 1) := by decide +kernel
theorem dX10_w5_11 : decode cX10_w5 11 = .ok (.lor, 1) := by decide +kernel
theorem dX10_w5_12 : decode cX10_w5 12 = .ok (.bipush 8, 2) := by decide +kernel
theorem dX10_w5_14 : decode cX10_w5 14 = .ok (.lshl, 1) := by decide +kernel
theorem dX10_w5_15 : decode cX10_w5 15 = .ok (.iload 4, 2) := by decide +kernel
theorem dX10_w5_17 : decode cX10_w5 17 = .ok (.i2l, 1) := by decide +kernel
theorem dX10_w5_18 : decode cX10_w5 18 = .ok (.lor, 1) := by decide +kernel
theorem dX10_w5_19 : decode cX10_w5 19 = .ok (.lreturn, 1) := by decide +kernel
theorem dX10_w4_0 : decode cX10_w4 0 = .ok (.iload_n 0, 1) := by decide +kernel
theorem dX10_w4_1 : decode cX10_w4 1 = .ok (.iload_n 1, 1) := by decide +kernel
theorem dX10_w4_2 : decode cX10_w4 2 = .ok (.iload_n 2, 1) := by decide +kernel
theorem dX10_w4_3 : decode cX10_w4 3 = .ok (.invokestatic 125, 3) := by decide +kernel
theorem dX10_w4_6 : decode cX10_w4 6 = .ok (.bipush 8, 2) := by decide +kernel
theorem dX10_w4_8 : decode cX10_w4 8 = .ok (.lshl, 1) := by decide +kernel
theorem dX10_w4_9 : decode cX10_w4 9 = .ok (.iload_n 3, 1) := by decide +kernel
theorem dX10_w4_10 : decode cX10_w4 10 = .ok (.i2l, 1) := by decide +kernel
theorem dX10_w4_11 : decode cX10_w4 11 = .ok (.lor, 1) := by decide +kernel
theorem dX10_w4_12 : decode cX10_w4 12 = .ok (.lreturn, 1) := by decide +kernel
theorem dX10_w6_0 : decode cX10_w6 0 = .ok (.iload_n 0, 1) := by decide +kernel
theorem dX10_w6_1 : decode cX10_w6 1 = .ok (.iload_n 1, 1) := by decide +kernel
theorem dX10_w6_2 : decode cX10_w6 2 = .ok (.iload_n 2, 1) := by decide +kernel
theorem dX10_w6_3 : decode cX10_w6 3 = .ok (.iload_n 3, 1) := by decide +kernel
theorem dX10_w6_4 : decode cX10_w6 4 = .ok (.iload 4, 2) := by decide +kernel
theorem dX10_w6_6 : decode cX10_w6 6 = .ok (.invokestatic 129, 3) := by decide +kernel
theorem dX10_w6_9 : decode cX10_w6 9 = .ok (.bipush 8, 2) := by decide +kernel
theorem dX10_w6_11 : decode cX10_w6 11 = .ok (.lshl, 1) := by decide +kernel
theorem dX10_w6_12 : decode cX10_w6 12 = .ok (.iload 5, 2) := by decide +kernel
theorem dX10_w6_14 : decode cX10_w6 14 = .ok (.i2l, 1) := by decide +kernel
theorem dX10_w6_15 : decode cX10_w6 15 = .ok (.lor, 1) := by decide +kernel
theorem dX10_w6_16 : decode cX10_w6 16 = .ok (.lreturn, 1) := by decide +kernel
theorem dX10_isWord_0 : decode cX10_isWord 0 = .ok (.aload_n 0, 1) := by decide +kernel
theorem dX10_isWord_1 : decode cX10_isWord 1 = .ok (.getfield 107, 3) := by decide +kernel
theorem dX10_isWord_4 : decode cX10_isWord 4 = .ok (.iconst 2, 1) := by decide +kernel
theorem dX10_isWord_5 : decode cX10_isWord 5 = .ok (.if_icmp .ne 16, 3) := by decide +kernel
theorem dX10_isWord_8 : decode cX10_isWord 8 = .ok (.aload_n 0, 1) := by decide +kernel
theorem dX10_isWord_9 : decode cX10_isWord 9 = .ok (.getfield 121, 3) := by decide +kernel
theorem dX10_isWord_12 : decode cX10_isWord 12 = .ok (.lload_n 1, 1) := by decide +kernel
theorem dX10_isWord_13 : decode cX10_isWord 13 = .ok (.lcmp, 1) := by decide +kernel
theorem dX10_isWord_14 : decode cX10_isWord 14 = .ok (.ifCond .ne 7, 3) := by decide +kernel
theorem dX10_isWord_17 : decode cX10_isWord 17 = .ok (.iconst 1, 1) := by decide +kernel
theorem dX10_isWord_18 : decode cX10_isWord 18 = .ok (.goto 4, 3) := by decide +kernel
theorem dX10_isWord_21 : decode cX10_isWord 21 = .ok (.iconst 0, 1) := by decide +kernel
theorem dX10_isWord_22 : decode cX10_isWord 22 = .ok (.ireturn, 1) := by decide +kernel
theorem dX10_emit_0 : decode cX10_emit 0 = .ok (.aload_n 0, 1) := by decide +kernel
theorem dX10_emit_1 : decode cX10_emit 1 = .ok (.getfield 16, 3) := by decide +kernel
theorem dX10_emit_4 : decode cX10_emit 4 = .ok (.aload_n 0, 1) := by decide +kernel
theorem dX10_emit_5 : decode cX10_emit 5 = .ok (.getfield 133, 3) := by decide +kernel
theorem dX10_emit_8 : decode cX10_emit 8 = .ok (.bipush 75, 2) := by decide +kernel
theorem dX10_emit_10 : decode cX10_emit 10 = .ok (.iadd, 1) := by decide +kernel
theorem dX10_emit_11 : decode cX10_emit 11 = .ok (.iconst 2, 1) := by decide +kernel
theorem dX10_emit_12 : decode cX10_emit 12 = .ok (.aload_n 0, 1) := by decide +kernel
theorem dX10_emit_13 : decode cX10_emit 13 = .ok (.getfield 136, 3) := by decide +kernel
theorem dX10_emit_16 : decode cX10_emit 16 = .ok (.imul, 1) := by decide +kernel
theorem dX10_emit_17 : decode cX10_emit 17 = .ok (.iadd, 1) := by decide +kernel
theorem dX10_emit_18 : decode cX10_emit 18 = .ok (.iload_n 1, 1) := by decide +kernel
theorem dX10_emit_19 : decode cX10_emit 19 = .ok (.iastore, 1) := by decide +kernel
theorem dX10_emit_20 : decode cX10_emit 20 = .ok (.aload_n 0, 1) := by decide +kernel
theorem dX10_emit_21 : decode cX10_emit 21 = .ok (.getfield 16, 3) := by decide +kernel
theorem dX10_emit_24 : decode cX10_emit 24 = .ok (.aload_n 0, 1) := by decide +kernel
theorem dX10_emit_25 : decode cX10_emit 25 = .ok (.getfield 133, 3) := by decide +kernel
theorem dX10_emit_28 : decode cX10_emit 28 = .ok (.bipush 75, 2) := by decide +kernel
theorem dX10_emit_30 : decode cX10_emit 30 = .ok (.iadd, 1) := by decide +kernel
theorem dX10_emit_31 : decode cX10_emit 31 = .ok (.iconst 2, 1) := by decide +kernel
theorem dX10_emit_32 : decode cX10_emit 32 = .ok (.aload_n 0, 1) := by decide +kernel
theorem dX10_emit_33 : decode cX10_emit 33 = .ok (.getfield 136, 3) := by decide +kernel
theorem dX10_emit_36 : decode cX10_emit 36 = .ok (.imul, 1) := by decide +kernel
theorem dX10_emit_37 : decode cX10_emit 37 = .ok (.iadd, 1) := by decide +kernel
theorem dX10_emit_38 : decode cX10_emit 38 = .ok (.iconst 1, 1) := by decide +kernel
theorem dX10_emit_39 : decode cX10_emit 39 = .ok (.iadd, 1) := by decide +kernel
theorem dX10_emit_40 : decode cX10_emit 40 = .ok (.iload_n 2, 1) := by decide +kernel
theorem dX10_emit_41 : decode cX10_emit 41 = .ok (.iastore, 1) := by decide +kernel
theorem dX10_emit_42 : decode cX10_emit 42 = .ok (.aload_n 0, 1) := by decide +kernel
theorem dX10_emit_43 : decode cX10_emit 43 = .ok (.dup, 1) := by decide +kernel
theorem dX10_emit_44 : decode cX10_emit 44 = .ok (.getfield 136, 3) := by decide +kernel
theorem dX10_emit_47 : decode cX10_emit 47 = .ok (.iconst 1, 1) := by decide +kernel
theorem dX10_emit_48 : decode cX10_emit 48 = .ok (.iadd, 1) := by decide +kernel
theorem dX10_emit_49 : decode cX10_emit 49 = .ok (.putfield 136, 3) := by decide +kernel
theorem dX10_emit_52 : decode cX10_emit 52 = .ok (.return_, 1) := by decide +kernel
theorem dX10_push_0 : decode cX10_push 0 = .ok (.aload_n 0, 1) := by decide +kernel
theorem dX10_push_1 : decode cX10_push 1 = .ok (.getfield 29, 3) := by decide +kernel
theorem dX10_push_4 : decode cX10_push 4 = .ok (.aload_n 0, 1) := by decide +kernel
theorem dX10_push_5 : decode cX10_push 5 = .ok (.getfield 139, 3) := by decide +kernel
theorem dX10_push_8 : decode cX10_push 8 = .ok (.iload_n 1, 1) := by decide +kernel
theorem dX10_push_9 : decode cX10_push 9 = .ok (.iastore, 1) := by decide +kernel
theorem dX10_push_10 : decode cX10_push 10 = .ok (.aload_n 0, 1) := by decide +kernel
theorem dX10_push_11 : decode cX10_push 11 = .ok (.dup, 1) := by decide +kernel
theorem dX10_push_12 : decode cX10_push 12 = .ok (.getfield 139, 3) := by decide +kernel
theorem dX10_push_15 : decode cX10_push 15 = .ok (.iconst 1, 1) := by decide +kernel
theorem dX10_push_16 : decode cX10_push 16 = .ok (.iadd, 1) := by decide +kernel
theorem dX10_push_17 : decode cX10_push 17 = .ok (.putfield 139, 3) := by decide +kernel
theorem dX10_push_20 : decode cX10_push 20 = .ok (.return_, 1) := by decide +kernel
theorem dX10_whole_0 : decode cX10_whole 0 = .ok (.aload_n 0, 1) := by decide +kernel
theorem dX10_whole_1 : decode cX10_whole 1 = .ok (.iconst 1, 1) := by decide +kernel
theorem dX10_whole_2 : decode cX10_whole 2 = .ok (.putfield 142, 3) := by decide +kernel
theorem dX10_whole_5 : decode cX10_whole 5 = .ok (.aload_n 0, 1) := by decide +kernel
theorem dX10_whole_6 : decode cX10_whole 6 = .ok (.getfield 139, 3) := by decide +kernel
theorem dX10_whole_9 : decode cX10_whole 9 = .ok (.ifCond .le 47, 3) := by decide +kernel
theorem dX10_whole_12 : decode cX10_whole 12 = .ok (.aload_n 0, 1) := by decide +kernel
theorem dX10_whole_13 : decode cX10_whole 13 = .ok (.getfield 29, 3) := by decide +kernel
theorem dX10_whole_16 : decode cX10_whole 16 = .ok (.aload_n 0, 1) := by decide +kernel
theorem dX10_whole_17 : decode cX10_whole 17 = .ok (.getfield 139, 3) := by decide +kernel
theorem dX10_whole_20 : decode cX10_whole 20 = .ok (.iconst 1, 1) := by decide +kernel
theorem dX10_whole_21 : decode cX10_whole 21 = .ok (.isub, 1) := by decide +kernel
theorem dX10_whole_22 : decode cX10_whole 22 = .ok (.iaload, 1) := by decide +kernel
