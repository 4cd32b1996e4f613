theorem dX0_init_0 : decode cX0_init 0 = .ok (.aload_n 0, 1) := by decide +kernel
theorem dX0_init_1 : decode cX0_init 1 = .ok (.invokespecial 3, 3) := by decide +kernel
theorem dX0_init_4 : decode cX0_init 4 = .ok (.aload_n 0, 1) := by decide +kernel
theorem dX0_init_5 : decode cX0_init 5 = .ok (.sipush 4096, 3) := by decide +kernel
theorem dX0_init_8 : decode cX0_init 8 = .ok (.newarray .int, 2) := by decide +kernel
theorem dX0_init_10 : decode cX0_init 10 = .ok (.putfield 9, 3) := by decide +kernel
theorem dX0_init_13 : decode cX0_init 13 = .ok (.return_, 1) := by decide +kernel
theorem dX0_find_0 : decode cX0_find 0 = .ok (.aload_n 0, 1) := by decide +kernel
theorem dX0_find_1 : decode cX0_find 1 = .ok (.aload_n 1, 1) := by decide +kernel
theorem dX0_find_2 : decode cX0_find 2 = .ok (.invokevirtual 15, 3) := by decide +kernel
theorem dX0_find_5 : decode cX0_find 5 = .ok (.bipush 13, 2) := by decide +kernel
theorem dX0_find_7 : decode cX0_find 7 = .ok (.istore_n 3, 1) := by decide +kernel
theorem dX0_find_8 : decode cX0_find 8 = .ok (.iconst 1, 1) := by decide +kernel
theorem dX0_find_9 : decode cX0_find 9 = .ok (.istore 4, 2) := by decide +kernel
theorem dX0_find_11 : decode cX0_find 11 = .ok (.iload 4, 2) := by decide +kernel
theorem dX0_find_13 : decode cX0_find 13 = .ok (.iconst 1, 1) := by decide +kernel
theorem dX0_find_14 : decode cX0_find 14 = .ok (.aload_n 1, 1) := by decide +kernel
theorem dX0_find_15 : decode cX0_find 15 = .ok (.getfield 19, 3) := by decide +kernel
theorem dX0_find_18 : decode cX0_find 18 = .ok (.ishl, 1) := by decide +kernel
theorem dX0_find_19 : decode cX0_find 19 = .ok (.if_icmp .ge 56, 3) := by decide +kernel
theorem dX0_find_22 : decode cX0_find 22 = .ok (.iload 4, 2) := by decide +kernel
theorem dX0_find_24 : decode cX0_find 24 = .ok (.invokestatic 25, 3) := by decide +kernel
theorem dX0_find_27 : decode cX0_find 27 = .ok (.istore 5, 2) := by decide +kernel
theorem dX0_find_29 : decode cX0_find 29 = .ok (.iload 5, 2) := by decide +kernel
theorem dX0_find_31 : decode cX0_find 31 = .ok (.iload_n 3, 1) := by decide +kernel
theorem dX0_find_32 : decode cX0_find 32 = .ok (.if_icmp .ge 13, 3) := by decide +kernel
theorem dX0_find_35 : decode cX0_find 35 = .ok (.aload_n 0, 1) := by decide +kernel
theorem dX0_find_36 : decode cX0_find 36 = .ok (.iload 4, 2) := by decide +kernel
theorem dX0_find_38 : decode cX0_find 38 = .ok (.iload_n 2, 1) := by decide +kernel
theorem dX0_find_39 : decode cX0_find 39 = .ok (.invokevirtual 31, 3) := by decide +kernel
theorem dX0_find_42 : decode cX0_find 42 = .ok (.goto 4, 3) := by decide +kernel
theorem dX0_find_45 : decode cX0_find 45 = .ok (.iconst (-1), 1) := by decide +kernel
theorem dX0_find_46 : decode cX0_find 46 = .ok (.istore 6, 2) := by decide +kernel
theorem dX0_find_48 : decode cX0_find 48 = .ok (.iload 6, 2) := by decide +kernel
theorem dX0_find_50 : decode cX0_find 50 = .ok (.iconst (-1), 1) := by decide +kernel
theorem dX0_find_51 : decode cX0_find 51 = .ok (.if_icmp .eq 18, 3) := by decide +kernel
theorem dX0_find_54 : decode cX0_find 54 = .ok (.iload 5, 2) := by decide +kernel
theorem dX0_find_56 : decode cX0_find 56 = .ok (.istore_n 3, 1) := by decide +kernel
theorem dX0_find_57 : decode cX0_find 57 = .ok (.aload_n 0, 1) := by decide +kernel
theorem dX0_find_58 : decode cX0_find 58 = .ok (.iload 4, 2) := by decide +kernel
theorem dX0_find_60 : decode cX0_find 60 = .ok (.putfield 35, 3) := by decide +kernel
theorem dX0_find_63 : decode cX0_find 63 = .ok (.aload_n 0, 1) := by decide +kernel
theorem dX0_find_64 : decode cX0_find 64 = .ok (.iload 6, 2) := by decide +kernel
theorem dX0_find_66 : decode cX0_find 66 = .ok (.putfield 38, 3) := by decide +kernel
theorem dX0_find_69 : decode cX0_find 69 = .ok (.iinc 4 1, 3) := by decide +kernel
theorem dX0_find_72 : decode cX0_find 72 = .ok (.goto (-61), 3) := by decide +kernel
theorem dX0_find_75 : decode cX0_find 75 = .ok (.iload_n 3, 1) := by decide +kernel
theorem dX0_find_76 : decode cX0_find 76 = .ok (.bipush 12, 2) := by decide +kernel
theorem dX0_find_78 : decode cX0_find 78 = .ok (.if_icmp .gt 7, 3) := by decide +kernel
theorem dX0_find_81 : decode cX0_find 81 = .ok (.iconst 1, 1) := by decide +kernel
theorem dX0_find_82 : decode cX0_find 82 = .ok (.goto 4, 3) := by decide +kernel
theorem dX0_find_85 : decode cX0_find 85 = .ok (.iconst 0, 1) := by decide +kernel
theorem dX0_find_86 : decode cX0_find 86 = .ok (.ireturn, 1) := by decide +kernel
theorem dX0_addSums_0 : decode cX0_addSums 0 = .ok (.iconst 0, 1) := by decide +kernel
theorem dX0_addSums_1 : decode cX0_addSums 1 = .ok (.istore_n 2, 1) := by decide +kernel
theorem dX0_addSums_2 : decode cX0_addSums 2 = .ok (.iload_n 2, 1) := by decide +kernel
theorem dX0_addSums_3 : decode cX0_addSums 3 = .ok (.aload_n 1, 1) := by decide +kernel
theorem dX0_addSums_4 : decode cX0_addSums 4 = .ok (.getfield 19, 3) := by decide +kernel
theorem dX0_addSums_7 : decode cX0_addSums 7 = .ok (.if_icmp .ge 47, 3) := by decide +kernel
theorem dX0_addSums_10 : decode cX0_addSums 10 = .ok (.iconst 0, 1) := by decide +kernel
theorem dX0_addSums_11 : decode cX0_addSums 11 = .ok (.istore_n 3, 1) := by decide +kernel
theorem dX0_addSums_12 : decode cX0_addSums 12 = .ok (.iload_n 3, 1) := by decide +kernel
theorem dX0_addSums_13 : decode cX0_addSums 13 = .ok (.iconst 1, 1) := by decide +kernel
theorem dX0_addSums_14 : decode cX0_addSums 14 = .ok (.iload_n 2, 1) := by decide +kernel
theorem dX0_addSums_15 : decode cX0_addSums 15 = .ok (.ishl, 1) := by decide +kernel
theorem dX0_addSums_16 : decode cX0_addSums 16 = .ok (.if_icmp .ge 32, 3) := by decide +kernel
theorem dX0_addSums_19 : decode cX0_addSums 19 = .ok (.aload_n 0, 1) := by decide +kernel
theorem dX0_addSums_20 : decode cX0_addSums 20 = .ok (.getfield 9, 3) := by decide +kernel
theorem dX0_addSums_23 : decode cX0_addSums 23 = .ok (.iload_n 3, 1) := by decide +kernel
theorem dX0_addSums_24 : decode cX0_addSums 24 = .ok (.iconst 1, 1) := by decide +kernel
theorem dX0_addSums_25 : decode cX0_addSums 25 = .ok (.iload_n 2, 1) := by decide +kernel
theorem dX0_addSums_26 : decode cX0_addSums 26 = .ok (.ishl, 1) := by decide +kernel
theorem dX0_addSums_27 : decode cX0_addSums 27 = .ok (.iadd, 1) := by decide +kernel
theorem dX0_addSums_28 : decode cX0_addSums 28 = .ok (.aload_n 0, 1) := by decide +kernel
theorem dX0_addSums_29 : decode cX0_addSums 29 = .ok (.getfield 9, 3) := by decide +kernel
theorem dX0_addSums_32 : decode cX0_addSums 32 = .ok (.iload_n 3, 1) := by decide +kernel
theorem dX0_addSums_33 : decode cX0_addSums 33 = .ok (.iaload, 1) := by decide +kernel
theorem dX0_addSums_34 : decode cX0_addSums 34 = .ok (.aload_n 1, 1) := by decide +kernel
theorem dX0_addSums_35 : decode cX0_addSums 35 = .ok (.getfield 41, 3) := by decide +kernel
theorem dX0_addSums_38 : decode cX0_addSums 38 = .ok (.iload_n 2, 1) := by decide +kernel
theorem dX0_addSums_39 : decode cX0_addSums 39 = .ok (.iaload, 1) := by decide +kernel
theorem dX0_addSums_40 : decode cX0_addSums 40 = .ok (.iadd, 1) := by decide +kernel
theorem dX0_addSums_41 : decode cX0_addSums 41 = .ok (.iastore, 1) := by decide +kernel
theorem dX0_addSums_42 : decode cX0_addSums 42 = .ok (.iinc 3 1, 3) := by decide +kernel
theorem dX0_addSums_45 : decode cX0_addSums 45 = .ok (.goto (-33), 3) := by decide +kernel
theorem dX0_addSums_48 : decode cX0_addSums 48 = .ok (.iinc 2 1, 3) := by decide +kernel
theorem dX0_addSums_51 : decode cX0_addSums 51 = .ok (.goto (-49), 3) := by decide +kernel
theorem dX0_addSums_54 : decode cX0_addSums 54 = .ok (.return_, 1) := by decide +kernel
theorem dX0_partBeside_0 : decode cX0_partBeside 0 = .ok (.aload_n 0, 1) := by decide +kernel
theorem dX0_partBeside_1 : decode cX0_partBeside 1 = .ok (.getfield 9, 3) := by decide +kernel
theorem dX0_partBeside_4 : decode cX0_partBeside 4 = .ok (.iload_n 1, 1) := by decide +kernel
theorem dX0_partBeside_5 : decode cX0_partBeside 5 = .ok (.iaload, 1) := by decide +kernel
theorem dX0_partBeside_6 : decode cX0_partBeside 6 = .ok (.iload_n 2, 1) := by decide +kernel
theorem dX0_partBeside_7 : decode cX0_partBeside 7 = .ok (.isub, 1) := by decide +kernel
theorem dX0_partBeside_8 : decode cX0_partBeside 8 = .ok (.istore_n 3, 1) := by decide +kernel
theorem dX0_partBeside_9 : decode cX0_partBeside 9 = .ok (.iload_n 3, 1) := by decide +kernel
theorem dX0_partBeside_10 : decode cX0_partBeside 10 = .ok (.ifCond .lt 9, 3) := by decide +kernel
theorem dX0_partBeside_13 : decode cX0_partBeside 13 = .ok (.iload_n 3, 1) := by decide +kernel
theorem dX0_partBeside_14 : decode cX0_partBeside 14 = .ok (.iconst 2, 1) := by decide +kernel
theorem dX0_partBeside_15 : decode cX0_partBeside 15 = .ok (.irem, 1) := by decide +kernel
theorem dX0_partBeside_16 : decode cX0_partBeside 16 = .ok (.ifCond .eq 5, 3) := by decide +kernel
theorem dX0_partBeside_19 : decode cX0_partBeside 19 = .ok (.iconst (-1), 1) := by decide +kernel
theorem dX0_partBeside_20 : decode cX0_partBeside 20 = .ok (.ireturn, 1) := by decide +kernel
theorem dX0_partBeside_21 : decode cX0_partBeside 21 = .ok (.iconst 0, 1) := by decide +kernel
theorem dX0_partBeside_22 : decode cX0_partBeside 22 = .ok (.istore 4, 2) := by decide +kernel
theorem dX0_partBeside_24 : decode cX0_partBeside 24 = .ok (.iconst 0, 1) := by decide +kernel
theorem dX0_partBeside_25 : decode cX0_partBeside 25 = .ok (.istore 5, 2) := by decide +kernel
theorem dX0_partBeside_27 : decode cX0_partBeside 27 = .ok (.iload 5, 2) := by decide +kernel
theorem dX0_partBeside_29 : decode cX0_partBeside 29 = .ok (.sipush 4096, 3) := by decide +kernel
theorem dX0_partBeside_32 : decode cX0_partBeside 32 = .ok (.if_icmp .ge 40, 3) := by decide +kernel
theorem dX0_partBeside_35 : decode cX0_partBeside 35 = .ok (.aload_n 0, 1) := by decide +kernel
theorem dX0_partBeside_36 : decode cX0_partBeside 36 = .ok (.getfield 9, 3) := by decide +kernel
theorem dX0_partBeside_39 : decode cX0_partBeside 39 = .ok (.iload 4, 2) := by decide +kernel
theorem dX0_partBeside_41 : decode cX0_partBeside 41 = .ok (.iaload, 1) := by decide +kernel
theorem dX0_partBeside_42 : decode cX0_partBeside 42 = .ok (.iconst 2, 1) := by decide +kernel
theorem dX0_partBeside_43 : decode cX0_partBeside 43 = .ok (.imul, 1) := by decide +kernel
theorem dX0_partBeside_44 : decode cX0_partBeside 44 = .ok (.iload_n 3, 1) := by decide +kernel
theorem dX0_partBeside_45 : decode cX0_partBeside 45 = .ok (.if_icmp .ne 6, 3) := by decide +kernel
theorem dX0_partBeside_48 : decode cX0_partBeside 48 = .ok (.iload 4, 2) := by decide +kernel
theorem dX0_partBeside_50 : decode cX0_partBeside 50 = .ok (.ireturn, 1) := by decide +kernel
theorem dX0_partBeside_51 : decode cX0_partBeside 51 = .ok (.iload 4, 2) := by decide +kernel
theorem dX0_partBeside_53 : decode cX0_partBeside 53 = .ok (.iload_n 1, 1) := by decide +kernel
theorem dX0_partBeside_54 : decode cX0_partBeside 54 = .ok (.isub, 1) := by decide +kernel
theorem dX0_partBeside_55 : decode cX0_partBeside 55 = .ok (.iload_n 1, 1) := by decide +kernel
theorem dX0_partBeside_56 : decode cX0_partBeside 56 = .ok (.iand, 1) := by decide +kernel
theorem dX0_partBeside_57 : decode cX0_partBeside 57 = .ok (.istore 4, 2) := by decide +kernel
theorem dX0_partBeside_59 : decode cX0_partBeside 59 = .ok (.iload 4, 2) := by decide +kernel
theorem dX0_partBeside_61 : decode cX0_partBeside 61 = .ok (.ifCond .ne 5, 3) := by decide +kernel
theorem dX0_partBeside_64 : decode cX0_partBeside 64 = .ok (.iconst (-1), 1) := by decide +kernel
theorem dX0_partBeside_65 : decode cX0_partBeside 65 = .ok (.ireturn, 1) := by decide +kernel
theorem dX0_partBeside_66 : decode cX0_partBeside 66 = .ok (.iinc 5 1, 3) := by decide +kernel
theorem dX0_partBeside_69 : decode cX0_partBeside 69 = .ok (.goto (-42), 3) := by decide +kernel
theorem dX0_partBeside_72 : decode cX0_partBeside 72 = .ok (.iconst (-1), 1) := by decide +kernel
theorem dX0_partBeside_73 : decode cX0_partBeside 73 = .ok (.ireturn, 1) := by decide +kernel
theorem dX1_init_0 : decode cX1_init 0 = .ok (.aload_n 0, 1) := by decide +kernel
theorem dX1_init_1 : decode cX1_init 1 = .ok (.invokespecial 3, 3) := by decide +kernel
theorem dX1_init_4 : decode cX1_init 4 = .ok (.aload_n 0, 1) := by decide +kernel
theorem dX1_init_5 : decode cX1_init 5 = .ok (.bipush 10, 2) := by decide +kernel
theorem dX1_init_7 : decode cX1_init 7 = .ok (.newarray .int, 2) := by decide +kernel
theorem dX1_init_9 : decode cX1_init 9 = .ok (.putfield 9, 3) := by decide +kernel
theorem dX1_init_12 : decode cX1_init 12 = .ok (.aload_n 0, 1) := by decide +kernel
theorem dX1_init_13 : decode cX1_init 13 = .ok (.sipush 1024, 3) := by decide +kernel
theorem dX1_init_16 : decode cX1_init 16 = .ok (.newarray .int, 2) := by decide +kernel
theorem dX1_init_18 : decode cX1_init 18 = .ok (.putfield 15, 3) := by decide +kernel
theorem dX1_init_21 : decode cX1_init 21 = .ok (.aload_n 0, 1) := by decide +kernel
theorem dX1_init_22 : decode cX1_init 22 = .ok (.sipush 1024, 3) := by decide +kernel
theorem dX1_init_25 : decode cX1_init 25 = .ok (.newarray .int, 2) := by decide +kernel
theorem dX1_init_27 : decode cX1_init 27 = .ok (.putfield 18, 3) := by decide +kernel
theorem dX1_init_30 : decode cX1_init 30 = .ok (.aload_n 0, 1) := by decide +kernel
theorem dX1_init_31 : decode cX1_init 31 = .ok (.sipush 1024, 3) := by decide +kernel
theorem dX1_init_34 : decode cX1_init 34 = .ok (.newarray .int, 2) := by decide +kernel
theorem dX1_init_36 : decode cX1_init 36 = .ok (.putfield 21, 3) := by decide +kernel
theorem dX1_init_39 : decode cX1_init 39 = .ok (.aload_n 0, 1) := by decide +kernel
theorem dX1_init_40 : decode cX1_init 40 = .ok (.sipush 1024, 3) := by decide +kernel
theorem dX1_init_43 : decode cX1_init 43 = .ok (.newarray .int, 2) := by decide +kernel
theorem dX1_init_45 : decode cX1_init 45 = .ok (.putfield 24, 3) := by decide +kernel
theorem dX1_init_48 : decode cX1_init 48 = .ok (.return_, 1) := by decide +kernel
theorem dX1_prepare_0 : decode cX1_prepare 0 = .ok (.aload_n 0, 1) := by decide +kernel
theorem dX1_prepare_1 : decode cX1_prepare 1 = .ok (.getfield 15, 3) := by decide +kernel
theorem dX1_prepare_4 : decode cX1_prepare 4 = .ok (.iconst 0, 1) := by decide +kernel
theorem dX1_prepare_5 : decode cX1_prepare 5 = .ok (.aload_n 2, 1) := by decide +kernel
theorem dX1_prepare_6 : decode cX1_prepare 6 = .ok (.getfield 27, 3) := by decide +kernel
theorem dX1_prepare_9 : decode cX1_prepare 9 = .ok (.iastore, 1) := by decide +kernel
theorem dX1_prepare_10 : decode cX1_prepare 10 = .ok (.aload_n 0, 1) := by decide +kernel
theorem dX1_prepare_11 : decode cX1_prepare 11 = .ok (.getfield 18, 3) := by decide +kernel
theorem dX1_prepare_14 : decode cX1_prepare 14 = .ok (.iconst 0, 1) := by decide +kernel
theorem dX1_prepare_15 : decode cX1_prepare 15 = .ok (.aload_n 2, 1) := by decide +kernel
theorem dX1_prepare_16 : decode cX1_prepare 16 = .ok (.getfield 32, 3) := by decide +kernel
theorem dX1_prepare_19 : decode cX1_prepare 19 = .ok (.iastore, 1) := by decide +kernel
theorem dX1_prepare_20 : decode cX1_prepare 20 = .ok (.aload_n 0, 1) := by decide +kernel
theorem dX1_prepare_21 : decode cX1_prepare 21 = .ok (.iconst 0, 1) := by decide +kernel
theorem dX1_prepare_22 : decode cX1_prepare 22 = .ok (.putfield 34, 3) := by decide +kernel
theorem dX1_prepare_25 : decode cX1_prepare 25 = .ok (.iconst 0, 1) := by decide +kernel
theorem dX1_prepare_26 : decode cX1_prepare 26 = .ok (.istore 5, 2) := by decide +kernel
theorem dX1_prepare_28 : decode cX1_prepare 28 = .ok (.iload 5, 2) := by decide +kernel
theorem dX1_prepare_30 : decode cX1_prepare 30 = .ok (.aload_n 1, 1) := by decide +kernel
theorem dX1_prepare_31 : decode cX1_prepare 31 = .ok (.getfield 37, 3) := by decide +kernel
theorem dX1_prepare_34 : decode cX1_prepare 34 = .ok (.if_icmp .ge 79, 3) := by decide +kernel
theorem dX1_prepare_37 : decode cX1_prepare 37 = .ok (.aload_n 0, 1) := by decide +kernel
theorem dX1_prepare_38 : decode cX1_prepare 38 = .ok (.getfield 34, 3) := by decide +kernel
theorem dX1_prepare_41 : decode cX1_prepare 41 = .ok (.bipush 10, 2) := by decide +kernel
theorem dX1_prepare_43 : decode cX1_prepare 43 = .ok (.if_icmp .ge 70, 3) := by decide +kernel
theorem dX1_prepare_46 : decode cX1_prepare 46 = .ok (.iload_n 3, 1) := by decide +kernel
theorem dX1_prepare_47 : decode cX1_prepare 47 = .ok (.iload 5, 2) := by decide +kernel
theorem dX1_prepare_49 : decode cX1_prepare 49 = .ok (.ishr, 1) := by decide +kernel
theorem dX1_prepare_50 : decode cX1_prepare 50 = .ok (.iconst 1, 1) := by decide +kernel
theorem dX1_prepare_51 : decode cX1_prepare 51 = .ok (.iand, 1) := by decide +kernel
theorem dX1_prepare_52 : decode cX1_prepare 52 = .ok (.iconst 1, 1) := by decide +kernel
theorem dX1_prepare_53 : decode cX1_prepare 53 = .ok (.if_icmp .ne 54, 3) := by decide +kernel
theorem dX1_prepare_56 : decode cX1_prepare 56 = .ok (.iload 4, 2) := by decide +kernel
theorem dX1_prepare_58 : decode cX1_prepare 58 = .ok (.iload 5, 2) := by decide +kernel
theorem dX1_prepare_60 : decode cX1_prepare 60 = .ok (.ishr, 1) := by decide +kernel
theorem dX1_prepare_61 : decode cX1_prepare 61 = .ok (.iconst 1, 1) := by decide +kernel
theorem dX1_prepare_62 : decode cX1_prepare 62 = .ok (.iand, 1) := by decide +kernel
theorem dX1_prepare_63 : decode cX1_prepare 63 = .ok (.istore 6, 2) := by decide +kernel
theorem dX1_prepare_65 : decode cX1_prepare 65 = .ok (.aload_n 0, 1) := by decide +kernel
theorem dX1_prepare_66 : decode cX1_prepare 66 = .ok (.getfield 9, 3) := by decide +kernel
theorem dX1_prepare_69 : decode cX1_prepare 69 = .ok (.aload_n 0, 1) := by decide +kernel
theorem dX1_prepare_70 : decode cX1_prepare 70 = .ok (.getfield 34, 3) := by decide +kernel
theorem dX1_prepare_73 : decode cX1_prepare 73 = .ok (.iload 5, 2) := by decide +kernel
theorem dX1_prepare_75 : decode cX1_prepare 75 = .ok (.iastore, 1) := by decide +kernel
theorem dX1_prepare_76 : decode cX1_prepare 76 = .ok (.aload_n 0, 1) := by decide +kernel
theorem dX1_prepare_77 : decode cX1_prepare 77 = .ok (.iconst 1, 1) := by decide +kernel
theorem dX1_prepare_78 : decode cX1_prepare 78 = .ok (.aload_n 0, 1) := by decide +kernel
theorem dX1_prepare_79 : decode cX1_prepare 79 = .ok (.getfield 34, 3) := by decide +kernel
theorem dX1_prepare_82 : decode cX1_prepare 82 = .ok (.ishl, 1) := by decide +kernel
theorem dX1_prepare_83 : decode cX1_prepare 83 = .ok (.iload 6, 2) := by decide +kernel
theorem dX1_prepare_85 : decode cX1_prepare 85 = .ok (.aload_n 2, 1) := by decide +kernel
theorem dX1_prepare_86 : decode cX1_prepare 86 = .ok (.aload_n 1, 1) := by decide +kernel
theorem dX1_prepare_87 : decode cX1_prepare 87 = .ok (.iload 5, 2) := by decide +kernel
theorem dX1_prepare_89 : decode cX1_prepare 89 = .ok (.iload 6, 2) := by decide +kernel
theorem dX1_prepare_91 : decode cX1_prepare 91 = .ok (.invokevirtual 42, 3) := by decide +kernel
theorem dX1_prepare_94 : decode cX1_prepare 94 = .ok (.invokevirtual 46, 3) := by decide +kernel
theorem dX1_prepare_97 : decode cX1_prepare 97 = .ok (.aload_n 0, 1) := by decide +kernel
theorem dX1_prepare_98 : decode cX1_prepare 98 = .ok (.dup, 1) := by decide +kernel
theorem dX1_prepare_99 : decode cX1_prepare 99 = .ok (.getfield 34, 3) := by decide +kernel
theorem dX1_prepare_102 : decode cX1_prepare 102 = .ok (.iconst 1, 1) := by decide +kernel
theorem dX1_prepare_103 : decode cX1_prepare 103 = .ok (.iadd, 1) := by decide +kernel
theorem dX1_prepare_104 : decode cX1_prepare 104 = .ok (.putfield 34, 3) := by decide +kernel
theorem dX1_prepare_107 : decode cX1_prepare 107 = .ok (.iinc 5 1, 3) := by decide +kernel
theorem dX1_prepare_110 : decode cX1_prepare 110 = .ok (.goto (-82), 3) := by decide +kernel
theorem dX1_prepare_113 : decode cX1_prepare 113 = .ok (.iconst 1, 1) := by decide +kernel
theorem dX1_prepare_114 : decode cX1_prepare 114 = .ok (.istore 5, 2) := by decide +kernel
theorem dX1_prepare_116 : decode cX1_prepare 116 = .ok (.iload 5, 2) := by decide +kernel
theorem dX1_prepare_118 : decode cX1_prepare 118 = .ok (.iconst 1, 1) := by decide +kernel
theorem dX1_prepare_119 : decode cX1_prepare 119 = .ok (.aload_n 0, 1) := by decide +kernel
theorem dX1_prepare_120 : decode cX1_prepare 120 = .ok (.getfield 34, 3) := by decide +kernel
theorem dX1_prepare_123 : decode cX1_prepare 123 = .ok (.ishl, 1) := by decide +kernel
theorem dX1_prepare_124 : decode cX1_prepare 124 = .ok (.if_icmp .ge 58, 3) := by decide +kernel
theorem dX1_prepare_127 : decode cX1_prepare 127 = .ok (.aload_n 2, 1) := by decide +kernel
theorem dX1_prepare_128 : decode cX1_prepare 128 = .ok (.aload_n 1, 1) := by decide +kernel
theorem dX1_prepare_129 : decode cX1_prepare 129 = .ok (.aload_n 0, 1) := by decide +kernel
theorem dX1_prepare_130 : decode cX1_prepare 130 = .ok (.getfield 15, 3) := by decide +kernel
theorem dX1_prepare_133 : decode cX1_prepare 133 = .ok (.iload 5, 2) := by decide +kernel
theorem dX1_prepare_135 : decode cX1_prepare 135 = .ok (.iaload, 1) := by decide +kernel
theorem dX1_prepare_136 : decode cX1_prepare 136 = .ok (.aload_n 0, 1) := by decide +kernel
theorem dX1_prepare_137 : decode cX1_prepare 137 = .ok (.getfield 18, 3) := by decide +kernel
theorem dX1_prepare_140 : decode cX1_prepare 140 = .ok (.iload 5, 2) := by decide +kernel
theorem dX1_prepare_142 : decode cX1_prepare 142 = .ok (.iaload, 1) := by decide +kernel
theorem dX1_prepare_143 : decode cX1_prepare 143 = .ok (.invokevirtual 50, 3) := by decide +kernel
theorem dX1_prepare_146 : decode cX1_prepare 146 = .ok (.aload_n 0, 1) := by decide +kernel
theorem dX1_prepare_147 : decode cX1_prepare 147 = .ok (.getfield 21, 3) := by decide +kernel
theorem dX1_prepare_150 : decode cX1_prepare 150 = .ok (.iload 5, 2) := by decide +kernel
theorem dX1_prepare_152 : decode cX1_prepare 152 = .ok (.aload_n 2, 1) := by decide +kernel
theorem dX1_prepare_153 : decode cX1_prepare 153 = .ok (.aload_n 1, 1) := by decide +kernel
theorem dX1_prepare_154 : decode cX1_prepare 154 = .ok (.getfield 54, 3) := by decide +kernel
theorem dX1_prepare_157 : decode cX1_prepare 157 = .ok (.invokevirtual 58, 3) := by decide +kernel
theorem dX1_prepare_160 : decode cX1_prepare 160 = .ok (.ifCond .eq 13, 3) := by decide +kernel
theorem dX1_prepare_163 : decode cX1_prepare 163 = .ok (.aload_n 2, 1) := by decide +kernel
theorem dX1_prepare_164 : decode cX1_prepare 164 = .ok (.getfield 62, 3) := by decide +kernel
theorem dX1_prepare_167 : decode cX1_prepare 167 = .ok (.invokestatic 65, 3) := by decide +kernel
theorem dX1_prepare_170 : decode cX1_prepare 170 = .ok (.goto 5, 3) := by decide +kernel
theorem dX1_prepare_173 : decode cX1_prepare 173 = .ok (.ldc 71, 2) := by decide +kernel
theorem dX1_prepare_175 : decode cX1_prepare 175 = .ok (.iastore, 1) := by decide +kernel
theorem dX1_prepare_176 : decode cX1_prepare 176 = .ok (.iinc 5 1, 3) := by decide +kernel
theorem dX1_prepare_179 : decode cX1_prepare 179 = .ok (.goto (-63), 3) := by decide +kernel
theorem dX1_prepare_182 : decode cX1_prepare 182 = .ok (.return_, 1) := by decide +kernel
theorem dX1_addToParts_0 : decode cX1_addToParts 0 = .ok (.iconst 0, 1) := by decide +kernel
theorem dX1_addToParts_1 : decode cX1_addToParts 1 = .ok (.istore 4, 2) := by decide +kernel
theorem dX1_addToParts_3 : decode cX1_addToParts 3 = .ok (.iload 4, 2) := by decide +kernel
theorem dX1_addToParts_5 : decode cX1_addToParts 5 = .ok (.iload_n 1, 1) := by decide +kernel
theorem dX1_addToParts_6 : decode cX1_addToParts 6 = .ok (.if_icmp .ge 62, 3) := by decide +kernel
theorem dX1_addToParts_9 : decode cX1_addToParts 9 = .ok (.aload_n 0, 1) := by decide +kernel
theorem dX1_addToParts_10 : decode cX1_addToParts 10 = .ok (.getfield 15, 3) := by decide +kernel
theorem dX1_addToParts_13 : decode cX1_addToParts 13 = .ok (.iload_n 1, 1) := by decide +kernel
theorem dX1_addToParts_14 : decode cX1_addToParts 14 = .ok (.iload 4, 2) := by decide +kernel
theorem dX1_addToParts_16 : decode cX1_addToParts 16 = .ok (.iadd, 1) := by decide +kernel
theorem dX1_addToParts_17 : decode cX1_addToParts 17 = .ok (.aload_n 0, 1) := by decide +kernel
theorem dX1_addToParts_18 : decode cX1_addToParts 18 = .ok (.getfield 15, 3) := by decide +kernel
theorem dX1_addToParts_21 : decode cX1_addToParts 21 = .ok (.iload 4, 2) := by decide +kernel
theorem dX1_addToParts_23 : decode cX1_addToParts 23 = .ok (.iaload, 1) := by decide +kernel
theorem dX1_addToParts_24 : decode cX1_addToParts 24 = .ok (.iload_n 2, 1) := by decide +kernel
theorem dX1_addToParts_25 : decode cX1_addToParts 25 = .ok (.ifCond .ne 7, 3) := by decide +kernel
theorem dX1_addToParts_28 : decode cX1_addToParts 28 = .ok (.iload_n 3, 1) := by decide +kernel
theorem dX1_addToParts_29 : decode cX1_addToParts 29 = .ok (.goto 4, 3) := by decide +kernel
theorem dX1_addToParts_32 : decode cX1_addToParts 32 = .ok (.iconst 0, 1) := by decide +kernel
theorem dX1_addToParts_33 : decode cX1_addToParts 33 = .ok (.iadd, 1) := by decide +kernel
theorem dX1_addToParts_34 : decode cX1_addToParts 34 = .ok (.iastore, 1) := by decide +kernel
theorem dX1_addToParts_35 : decode cX1_addToParts 35 = .ok (.aload_n 0, 1) := by decide +kernel
theorem dX1_addToParts_36 : decode cX1_addToParts 36 = .ok (.getfield 18, 3) := by decide +kernel
theorem dX1_addToParts_39 : decode cX1_addToParts 39 = .ok (.iload_n 1, 1) := by decide +kernel
theorem dX1_addToParts_40 : decode cX1_addToParts 40 = .ok (.iload 4, 2) := by decide +kernel
theorem dX1_addToParts_42 : decode cX1_addToParts 42 = .ok (.iadd, 1) := by decide +kernel
theorem dX1_addToParts_43 : decode cX1_addToParts 43 = .ok (.aload_n 0, 1) := by decide +kernel
theorem dX1_addToParts_44 : decode cX1_addToParts 44 = .ok (.getfield 18, 3) := by decide +kernel
theorem dX1_addToParts_47 : decode cX1_addToParts 47 = .ok (.iload 4, 2) := by decide +kernel
theorem dX1_addToParts_49 : decode cX1_addToParts 49 = .ok (.iaload, 1) := by decide +kernel
theorem dX1_addToParts_50 : decode cX1_addToParts 50 = .ok (.iload_n 2, 1) := by decide +kernel
theorem dX1_addToParts_51 : decode cX1_addToParts 51 = .ok (.iconst 1, 1) := by decide +kernel
theorem dX1_addToParts_52 : decode cX1_addToParts 52 = .ok (.if_icmp .ne 7, 3) := by decide +kernel
theorem dX1_addToParts_55 : decode cX1_addToParts 55 = .ok (.iload_n 3, 1) := by decide +kernel
theorem dX1_addToParts_56 : decode cX1_addToParts 56 = .ok (.goto 4, 3) := by decide +kernel
theorem dX1_addToParts_59 : decode cX1_addToParts 59 = .ok (.iconst 0, 1) := by decide +kernel
theorem dX1_addToParts_60 : decode cX1_addToParts 60 = .ok (.iadd, 1) := by decide +kernel
theorem dX1_addToParts_61 : decode cX1_addToParts 61 = .ok (.iastore, 1) := by decide +kernel
theorem dX1_addToParts_62 : decode cX1_addToParts 62 = .ok (.iinc 4 1, 3) := by decide +kernel
theorem dX1_addToParts_65 : decode cX1_addToParts 65 = .ok (.goto (-62), 3) := by decide +kernel
theorem dX1_addToParts_68 : decode cX1_addToParts 68 = .ok (.return_, 1) := by decide +kernel
theorem dX1_count_0 : decode cX1_count 0 = .ok (.aload_n 0, 1) := by decide +kernel
theorem dX1_count_1 : decode cX1_count 1 = .ok (.getfield 24, 3) := by decide +kernel
theorem dX1_count_4 : decode cX1_count 4 = .ok (.iconst 0, 1) := by decide +kernel
theorem dX1_count_5 : decode cX1_count 5 = .ok (.iconst 1, 1) := by decide +kernel
theorem dX1_count_6 : decode cX1_count 6 = .ok (.iastore, 1) := by decide +kernel
theorem dX1_count_7 : decode cX1_count 7 = .ok (.iconst 1, 1) := by decide +kernel
theorem dX1_count_8 : decode cX1_count 8 = .ok (.aload_n 0, 1) := by decide +kernel
theorem dX1_count_9 : decode cX1_count 9 = .ok (.getfield 34, 3) := by decide +kernel
theorem dX1_count_12 : decode cX1_count 12 = .ok (.ishl, 1) := by decide +kernel
theorem dX1_count_13 : decode cX1_count 13 = .ok (.iconst 1, 1) := by decide +kernel
theorem dX1_count_14 : decode cX1_count 14 = .ok (.isub, 1) := by decide +kernel
theorem dX1_count_15 : decode cX1_count 15 = .ok (.istore_n 1, 1) := by decide +kernel
theorem dX1_count_16 : decode cX1_count 16 = .ok (.iconst 1, 1) := by decide +kernel
theorem dX1_count_17 : decode cX1_count 17 = .ok (.istore_n 2, 1) := by decide +kernel
theorem dX1_count_18 : decode cX1_count 18 = .ok (.iload_n 2, 1) := by decide +kernel
theorem dX1_count_19 : decode cX1_count 19 = .ok (.iload_n 1, 1) := by decide +kernel
theorem dX1_count_20 : decode cX1_count 20 = .ok (.if_icmp .gt 75, 3) := by decide +kernel
theorem dX1_count_23 : decode cX1_count 23 = .ok (.iconst 0, 1) := by decide +kernel
theorem dX1_count_24 : decode cX1_count 24 = .ok (.istore_n 3, 1) := by decide +kernel
theorem dX1_count_25 : decode cX1_count 25 = .ok (.iconst 0, 1) := by decide +kernel
theorem dX1_count_26 : decode cX1_count 26 = .ok (.istore 4, 2) := by decide +kernel
theorem dX1_count_28 : decode cX1_count 28 = .ok (.iload 4, 2) := by decide +kernel
theorem dX1_count_30 : decode cX1_count 30 = .ok (.aload_n 0, 1) := by decide +kernel
theorem dX1_count_31 : decode cX1_count 31 = .ok (.getfield 34, 3) := by decide +kernel
theorem dX1_count_34 : decode cX1_count 34 = .ok (.if_icmp .ge 48, 3) := by decide +kernel
theorem dX1_count_37 : decode cX1_count 37 = .ok (.aload_n 0, 1) := by decide +kernel
theorem dX1_count_38 : decode cX1_count 38 = .ok (.getfield 21, 3) := by decide +kernel
theorem dX1_count_41 : decode cX1_count 41 = .ok (.iload_n 2, 1) := by decide +kernel
theorem dX1_count_42 : decode cX1_count 42 = .ok (.iaload, 1) := by decide +kernel
theorem dX1_count_43 : decode cX1_count 43 = .ok (.ldc 71, 2) := by decide +kernel
theorem dX1_count_45 : decode cX1_count 45 = .ok (.if_icmp .eq 37, 3) := by decide +kernel
theorem dX1_count_48 : decode cX1_count 48 = .ok (.iload_n 3, 1) := by decide +kernel
theorem dX1_count_49 : decode cX1_count 49 = .ok (.iload_n 2, 1) := by decide +kernel
theorem dX1_count_50 : decode cX1_count 50 = .ok (.iload 4, 2) := by decide +kernel
theorem dX1_count_52 : decode cX1_count 52 = .ok (.ishr, 1) := by decide +kernel
theorem dX1_count_53 : decode cX1_count 53 = .ok (.iconst 1, 1) := by decide +kernel
theorem dX1_count_54 : decode cX1_count 54 = .ok (.iand, 1) := by decide +kernel
theorem dX1_count_55 : decode cX1_count 55 = .ok (.iconst 1, 1) := by decide +kernel
theorem dX1_count_56 : decode cX1_count 56 = .ok (.if_icmp .ne 17, 3) := by decide +kernel
theorem dX1_count_59 : decode cX1_count 59 = .ok (.aload_n 0, 1) := by decide +kernel
theorem dX1_count_60 : decode cX1_count 60 = .ok (.getfield 24, 3) := by decide +kernel
theorem dX1_count_63 : decode cX1_count 63 = .ok (.iload_n 2, 1) := by decide +kernel
theorem dX1_count_64 : decode cX1_count 64 = .ok (.iconst 1, 1) := by decide +kernel
theorem dX1_count_65 : decode cX1_count 65 = .ok (.iload 4, 2) := by decide +kernel
theorem dX1_count_67 : decode cX1_count 67 = .ok (.ishl, 1) := by decide +kernel
theorem dX1_count_68 : decode cX1_count 68 = .ok (.isub, 1) := by decide +kernel
theorem dX1_count_69 : decode cX1_count 69 = .ok (.iaload, 1) := by decide +kernel
theorem dX1_count_70 : decode cX1_count 70 = .ok (.goto 4, 3) := by decide +kernel
theorem dX1_count_73 : decode cX1_count 73 = .ok (.iconst 0, 1) := by decide +kernel
theorem dX1_count_74 : decode cX1_count 74 = .ok (.iadd, 1) := by decide +kernel
theorem dX1_count_75 : decode cX1_count 75 = .ok (.istore_n 3, 1) := by decide +kernel
theorem dX1_count_76 : decode cX1_count 76 = .ok (.iinc 4 1, 3) := by decide +kernel
theorem dX1_count_79 : decode cX1_count 79 = .ok (.goto (-51), 3) := by decide +kernel
theorem dX1_count_82 : decode cX1_count 82 = .ok (.aload_n 0, 1) := by decide +kernel
theorem dX1_count_83 : decode cX1_count 83 = .ok (.getfield 24, 3) := by decide +kernel
theorem dX1_count_86 : decode cX1_count 86 = .ok (.iload_n 2, 1) := by decide +kernel
theorem dX1_count_87 : decode cX1_count 87 = .ok (.iload_n 3, 1) := by decide +kernel
theorem dX1_count_88 : decode cX1_count 88 = .ok (.iastore, 1) := by decide +kernel
theorem dX1_count_89 : decode cX1_count 89 = .ok (.iinc 2 1, 3) := by decide +kernel
theorem dX1_count_92 : decode cX1_count 92 = .ok (.goto (-74), 3) := by decide +kernel
theorem dX1_count_95 : decode cX1_count 95 = .ok (.aload_n 0, 1) := by decide +kernel
theorem dX1_count_96 : decode cX1_count 96 = .ok (.getfield 24, 3) := by decide +kernel
theorem dX1_count_99 : decode cX1_count 99 = .ok (.iload_n 1, 1) := by decide +kernel
theorem dX1_count_100 : decode cX1_count 100 = .ok (.iaload, 1) := by decide +kernel
theorem dX1_count_101 : decode cX1_count 101 = .ok (.ireturn, 1) := by decide +kernel
theorem dX1_leastTurn_0 : decode cX1_leastTurn 0 = .ok (.iconst 1, 1) := by decide +kernel
theorem dX1_leastTurn_1 : decode cX1_leastTurn 1 = .ok (.aload_n 0, 1) := by decide +kernel
theorem dX1_leastTurn_2 : decode cX1_leastTurn 2 = .ok (.getfield 34, 3) := by decide +kernel
theorem dX1_leastTurn_5 : decode cX1_leastTurn 5 = .ok (.ishl, 1) := by decide +kernel
theorem dX1_leastTurn_6 : decode cX1_leastTurn 6 = .ok (.iconst 1, 1) := by decide +kernel
theorem dX1_leastTurn_7 : decode cX1_leastTurn 7 = .ok (.isub, 1) := by decide +kernel
theorem dX1_leastTurn_8 : decode cX1_leastTurn 8 = .ok (.istore_n 1, 1) := by decide +kernel
theorem dX1_leastTurn_9 : decode cX1_leastTurn 9 = .ok (.aload_n 0, 1) := by decide +kernel
theorem dX1_leastTurn_10 : decode cX1_leastTurn 10 = .ok (.getfield 24, 3) := by decide +kernel
theorem dX1_leastTurn_13 : decode cX1_leastTurn 13 = .ok (.iload_n 1, 1) := by decide +kernel
theorem dX1_leastTurn_14 : decode cX1_leastTurn 14 = .ok (.iconst 0, 1) := by decide +kernel
theorem dX1_leastTurn_15 : decode cX1_leastTurn 15 = .ok (.iastore, 1) := by decide +kernel
theorem dX1_leastTurn_16 : decode cX1_leastTurn 16 = .ok (.iload_n 1, 1) := by decide +kernel
theorem dX1_leastTurn_17 : decode cX1_leastTurn 17 = .ok (.iconst 1, 1) := by decide +kernel
theorem dX1_leastTurn_18 : decode cX1_leastTurn 18 = .ok (.isub, 1) := by decide +kernel
theorem dX1_leastTurn_19 : decode cX1_leastTurn 19 = .ok (.istore_n 2, 1) := by decide +kernel
theorem dX1_leastTurn_20 : decode cX1_leastTurn 20 = .ok (.iload_n 2, 1) := by decide +kernel
theorem dX1_leastTurn_21 : decode cX1_leastTurn 21 = .ok (.ifCond .lt 61, 3) := by decide +kernel
theorem dX1_leastTurn_24 : decode cX1_leastTurn 24 = .ok (.ldc 71, 2) := by decide +kernel
theorem dX1_leastTurn_26 : decode cX1_leastTurn 26 = .ok (.istore_n 3, 1) := by decide +kernel
theorem dX1_leastTurn_27 : decode cX1_leastTurn 27 = .ok (.iconst 0, 1) := by decide +kernel
theorem dX1_leastTurn_28 : decode cX1_leastTurn 28 = .ok (.istore 4, 2) := by decide +kernel
theorem dX1_leastTurn_30 : decode cX1_leastTurn 30 = .ok (.iload 4, 2) := by decide +kernel
theorem dX1_leastTurn_32 : decode cX1_leastTurn 32 = .ok (.aload_n 0, 1) := by decide +kernel
theorem dX1_leastTurn_33 : decode cX1_leastTurn 33 = .ok (.getfield 34, 3) := by decide +kernel
theorem dX1_leastTurn_36 : decode cX1_leastTurn 36 = .ok (.if_icmp .ge 33, 3) := by decide +kernel
theorem dX1_leastTurn_39 : decode cX1_leastTurn 39 = .ok (.iload_n 2, 1) := by decide +kernel
theorem dX1_leastTurn_40 : decode cX1_leastTurn 40 = .ok (.iload 4, 2) := by decide +kernel
theorem dX1_leastTurn_42 : decode cX1_leastTurn 42 = .ok (.ishr, 1) := by decide +kernel
theorem dX1_leastTurn_43 : decode cX1_leastTurn 43 = .ok (.iconst 1, 1) := by decide +kernel
theorem dX1_leastTurn_44 : decode cX1_leastTurn 44 = .ok (.iand, 1) := by decide +kernel
theorem dX1_leastTurn_45 : decode cX1_leastTurn 45 = .ok (.ifCond .ne 18, 3) := by decide +kernel
theorem dX1_leastTurn_48 : decode cX1_leastTurn 48 = .ok (.iload_n 3, 1) := by decide +kernel
theorem dX1_leastTurn_49 : decode cX1_leastTurn 49 = .ok (.aload_n 0, 1) := by decide +kernel
theorem dX1_leastTurn_50 : decode cX1_leastTurn 50 = .ok (.iload_n 2, 1) := by decide +kernel
theorem dX1_leastTurn_51 : decode cX1_leastTurn 51 = .ok (.iconst 1, 1) := by decide +kernel
theorem dX1_leastTurn_52 : decode cX1_leastTurn 52 = .ok (.iload 4, 2) := by decide +kernel
theorem dX1_leastTurn_54 : decode cX1_leastTurn 54 = .ok (.ishl, 1) := by decide +kernel
theorem dX1_leastTurn_55 : decode cX1_leastTurn 55 = .ok (.iadd, 1) := by decide +kernel
theorem dX1_leastTurn_56 : decode cX1_leastTurn 56 = .ok (.invokevirtual 72, 3) := by decide +kernel
theorem dX1_leastTurn_59 : decode cX1_leastTurn 59 = .ok (.invokestatic 75, 3) := by decide +kernel
theorem dX1_leastTurn_62 : decode cX1_leastTurn 62 = .ok (.istore_n 3, 1) := by decide +kernel
theorem dX1_leastTurn_63 : decode cX1_leastTurn 63 = .ok (.iinc 4 1, 3) := by decide +kernel
theorem dX1_leastTurn_66 : decode cX1_leastTurn 66 = .ok (.goto (-36), 3) := by decide +kernel
theorem dX1_leastTurn_69 : decode cX1_leastTurn 69 = .ok (.aload_n 0, 1) := by decide +kernel
theorem dX1_leastTurn_70 : decode cX1_leastTurn 70 = .ok (.getfield 24, 3) := by decide +kernel
theorem dX1_leastTurn_73 : decode cX1_leastTurn 73 = .ok (.iload_n 2, 1) := by decide +kernel
theorem dX1_leastTurn_74 : decode cX1_leastTurn 74 = .ok (.iload_n 3, 1) := by decide +kernel
theorem dX1_leastTurn_75 : decode cX1_leastTurn 75 = .ok (.iastore, 1) := by decide +kernel
theorem dX1_leastTurn_76 : decode cX1_leastTurn 76 = .ok (.iinc 2 (-1), 3) := by decide +kernel
theorem dX1_leastTurn_79 : decode cX1_leastTurn 79 = .ok (.goto (-59), 3) := by decide +kernel
theorem dX1_leastTurn_82 : decode cX1_leastTurn 82 = .ok (.aload_n 0, 1) := by decide +kernel
theorem dX1_leastTurn_83 : decode cX1_leastTurn 83 = .ok (.getfield 24, 3) := by decide +kernel
theorem dX1_leastTurn_86 : decode cX1_leastTurn 86 = .ok (.iconst 0, 1) := by decide +kernel
theorem dX1_leastTurn_87 : decode cX1_leastTurn 87 = .ok (.iaload, 1) := by decide +kernel
theorem dX1_leastTurn_88 : decode cX1_leastTurn 88 = .ok (.ldc 71, 2) := by decide +kernel
theorem dX1_leastTurn_90 : decode cX1_leastTurn 90 = .ok (.if_icmp .ne 7, 3) := by decide +kernel
theorem dX1_leastTurn_93 : decode cX1_leastTurn 93 = .ok (.iconst (-1), 1) := by decide +kernel
theorem dX1_leastTurn_94 : decode cX1_leastTurn 94 = .ok (.goto 9, 3) := by decide +kernel
theorem dX1_leastTurn_97 : decode cX1_leastTurn 97 = .ok (.aload_n 0, 1) := by decide +kernel
theorem dX1_leastTurn_98 : decode cX1_leastTurn 98 = .ok (.getfield 24, 3) := by decide +kernel
theorem dX1_leastTurn_101 : decode cX1_leastTurn 101 = .ok (.iconst 0, 1) := by decide +kernel
theorem dX1_leastTurn_102 : decode cX1_leastTurn 102 = .ok (.iaload, 1) := by decide +kernel
theorem dX1_leastTurn_103 : decode cX1_leastTurn 103 = .ok (.ireturn, 1) := by decide +kernel
theorem dX1_turnFrom_0 : decode cX1_turnFrom 0 = .ok (.aload_n 0, 1) := by decide +kernel
theorem dX1_turnFrom_1 : decode cX1_turnFrom 1 = .ok (.getfield 21, 3) := by decide +kernel
theorem dX1_turnFrom_4 : decode cX1_turnFrom 4 = .ok (.iload_n 1, 1) := by decide +kernel
theorem dX1_turnFrom_5 : decode cX1_turnFrom 5 = .ok (.iaload, 1) := by decide +kernel
theorem dX1_turnFrom_6 : decode cX1_turnFrom 6 = .ok (.aload_n 0, 1) := by decide +kernel
theorem dX1_turnFrom_7 : decode cX1_turnFrom 7 = .ok (.getfield 24, 3) := by decide +kernel
theorem dX1_turnFrom_10 : decode cX1_turnFrom 10 = .ok (.iload_n 1, 1) := by decide +kernel
theorem dX1_turnFrom_11 : decode cX1_turnFrom 11 = .ok (.iaload, 1) := by decide +kernel
theorem dX1_turnFrom_12 : decode cX1_turnFrom 12 = .ok (.invokestatic 79, 3) := by decide +kernel
theorem dX1_turnFrom_15 : decode cX1_turnFrom 15 = .ok (.ireturn, 1) := by decide +kernel
theorem dX1_gentleThing_0 : decode cX1_gentleThing 0 = .ok (.iconst 0, 1) := by decide +kernel
theorem dX1_gentleThing_1 : decode cX1_gentleThing 1 = .ok (.istore_n 3, 1) := by decide +kernel
theorem dX1_gentleThing_2 : decode cX1_gentleThing 2 = .ok (.iconst (-1), 1) := by decide +kernel
theorem dX1_gentleThing_3 : decode cX1_gentleThing 3 = .ok (.istore 4, 2) := by decide +kernel
theorem dX1_gentleThing_5 : decode cX1_gentleThing 5 = .ok (.iconst 0, 1) := by decide +kernel
theorem dX1_gentleThing_6 : decode cX1_gentleThing 6 = .ok (.istore 5, 2) := by decide +kernel
theorem dX1_gentleThing_8 : decode cX1_gentleThing 8 = .ok (.iload 5, 2) := by decide +kernel
theorem dX1_gentleThing_10 : decode cX1_gentleThing 10 = .ok (.iload_n 1, 1) := by decide +kernel
theorem dX1_gentleThing_11 : decode cX1_gentleThing 11 = .ok (.if_icmp .gt 41, 3) := by decide +kernel
theorem dX1_gentleThing_14 : decode cX1_gentleThing 14 = .ok (.aload_n 0, 1) := by decide +kernel
theorem dX1_gentleThing_15 : decode cX1_gentleThing 15 = .ok (.iload_n 3, 1) := by decide +kernel
theorem dX1_gentleThing_16 : decode cX1_gentleThing 16 = .ok (.iload_n 2, 1) := by decide +kernel
theorem dX1_gentleThing_17 : decode cX1_gentleThing 17 = .ok (.invokevirtual 82, 3) := by decide +kernel
theorem dX1_gentleThing_20 : decode cX1_gentleThing 20 = .ok (.istore 6, 2) := by decide +kernel
theorem dX1_gentleThing_22 : decode cX1_gentleThing 22 = .ok (.iload 6, 2) := by decide +kernel
theorem dX1_gentleThing_24 : decode cX1_gentleThing 24 = .ok (.iconst (-1), 1) := by decide +kernel
theorem dX1_gentleThing_25 : decode cX1_gentleThing 25 = .ok (.if_icmp .ne 5, 3) := by decide +kernel
theorem dX1_gentleThing_28 : decode cX1_gentleThing 28 = .ok (.iconst (-1), 1) := by decide +kernel
theorem dX1_gentleThing_29 : decode cX1_gentleThing 29 = .ok (.ireturn, 1) := by decide +kernel
theorem dX1_gentleThing_30 : decode cX1_gentleThing 30 = .ok (.aload_n 0, 1) := by decide +kernel
theorem dX1_gentleThing_31 : decode cX1_gentleThing 31 = .ok (.getfield 9, 3) := by decide +kernel
theorem dX1_gentleThing_34 : decode cX1_gentleThing 34 = .ok (.iload 6, 2) := by decide +kernel
theorem dX1_gentleThing_36 : decode cX1_gentleThing 36 = .ok (.iaload, 1) := by decide +kernel
theorem dX1_gentleThing_37 : decode cX1_gentleThing 37 = .ok (.istore 4, 2) := by decide +kernel
theorem dX1_gentleThing_39 : decode cX1_gentleThing 39 = .ok (.iload_n 3, 1) := by decide +kernel
theorem dX1_gentleThing_40 : decode cX1_gentleThing 40 = .ok (.iconst 1, 1) := by decide +kernel
theorem dX1_gentleThing_41 : decode cX1_gentleThing 41 = .ok (.iload 6, 2) := by decide +kernel
theorem dX1_gentleThing_43 : decode cX1_gentleThing 43 = .ok (.ishl, 1) := by decide +kernel
theorem dX1_gentleThing_44 : decode cX1_gentleThing 44 = .ok (.iadd, 1) := by decide +kernel
theorem dX1_gentleThing_45 : decode cX1_gentleThing 45 = .ok (.istore_n 3, 1) := by decide +kernel
theorem dX1_gentleThing_46 : decode cX1_gentleThing 46 = .ok (.iinc 5 1, 3) := by decide +kernel
theorem dX1_gentleThing_49 : decode cX1_gentleThing 49 = .ok (.goto (-41), 3) := by decide +kernel
theorem dX1_gentleThing_52 : decode cX1_gentleThing 52 = .ok (.iload 4, 2) := by decide +kernel
theorem dX1_gentleThing_54 : decode cX1_gentleThing 54 = .ok (.ireturn, 1) := by decide +kernel
theorem dX1_nextMember_0 : decode cX1_nextMember 0 = .ok (.iconst 0, 1) := by decide +kernel
theorem dX1_nextMember_1 : decode cX1_nextMember 1 = .ok (.istore_n 3, 1) := by decide +kernel
theorem dX1_nextMember_2 : decode cX1_nextMember 2 = .ok (.iload_n 3, 1) := by decide +kernel
theorem dX1_nextMember_3 : decode cX1_nextMember 3 = .ok (.aload_n 0, 1) := by decide +kernel
theorem dX1_nextMember_4 : decode cX1_nextMember 4 = .ok (.getfield 34, 3) := by decide +kernel
theorem dX1_nextMember_7 : decode cX1_nextMember 7 = .ok (.if_icmp .ge 32, 3) := by decide +kernel
theorem dX1_nextMember_10 : decode cX1_nextMember 10 = .ok (.iload_n 1, 1) := by decide +kernel
theorem dX1_nextMember_11 : decode cX1_nextMember 11 = .ok (.iload_n 3, 1) := by decide +kernel
theorem dX1_nextMember_12 : decode cX1_nextMember 12 = .ok (.ishr, 1) := by decide +kernel
theorem dX1_nextMember_13 : decode cX1_nextMember 13 = .ok (.iconst 1, 1) := by decide +kernel
theorem dX1_nextMember_14 : decode cX1_nextMember 14 = .ok (.iand, 1) := by decide +kernel
theorem dX1_nextMember_15 : decode cX1_nextMember 15 = .ok (.ifCond .ne 18, 3) := by decide +kernel
theorem dX1_nextMember_18 : decode cX1_nextMember 18 = .ok (.aload_n 0, 1) := by decide +kernel
theorem dX1_nextMember_19 : decode cX1_nextMember 19 = .ok (.iload_n 1, 1) := by decide +kernel
theorem dX1_nextMember_20 : decode cX1_nextMember 20 = .ok (.iconst 1, 1) := by decide +kernel
theorem dX1_nextMember_21 : decode cX1_nextMember 21 = .ok (.iload_n 3, 1) := by decide +kernel
theorem dX1_nextMember_22 : decode cX1_nextMember 22 = .ok (.ishl, 1) := by decide +kernel
theorem dX1_nextMember_23 : decode cX1_nextMember 23 = .ok (.iadd, 1) := by decide +kernel
theorem dX1_nextMember_24 : decode cX1_nextMember 24 = .ok (.invokevirtual 72, 3) := by decide +kernel
theorem dX1_nextMember_27 : decode cX1_nextMember 27 = .ok (.iload_n 2, 1) := by decide +kernel
theorem dX1_nextMember_28 : decode cX1_nextMember 28 = .ok (.if_icmp .gt 5, 3) := by decide +kernel
theorem dX1_nextMember_31 : decode cX1_nextMember 31 = .ok (.iload_n 3, 1) := by decide +kernel
theorem dX1_nextMember_32 : decode cX1_nextMember 32 = .ok (.ireturn, 1) := by decide +kernel
theorem dX1_nextMember_33 : decode cX1_nextMember 33 = .ok (.iinc 3 1, 3) := by decide +kernel
theorem dX1_nextMember_36 : decode cX1_nextMember 36 = .ok (.goto (-34), 3) := by decide +kernel
theorem dX1_nextMember_39 : decode cX1_nextMember 39 = .ok (.iconst (-1), 1) := by decide +kernel
theorem dX1_nextMember_40 : decode cX1_nextMember 40 = .ok (.ireturn, 1) := by decide +kernel
theorem dX2_init_0 : decode cX2_init 0 = .ok (.aload_n 0, 1) := by decide +kernel
theorem dX2_init_1 : decode cX2_init 1 = .ok (.invokespecial 3, 3) := by decide +kernel
theorem dX2_init_4 : decode cX2_init 4 = .ok (.aload_n 0, 1) := by decide +kernel
theorem dX2_init_5 : decode cX2_init 5 = .ok (.bipush 29, 2) := by decide +kernel
theorem dX2_init_7 : decode cX2_init 7 = .ok (.newarray .int, 2) := by decide +kernel
theorem dX2_init_9 : decode cX2_init 9 = .ok (.putfield 11, 3) := by decide +kernel
theorem dX2_init_12 : decode cX2_init 12 = .ok (.aload_n 0, 1) := by decide +kernel
theorem dX2_init_13 : decode cX2_init 13 = .ok (.iconst (-1), 1) := by decide +kernel
theorem dX2_init_14 : decode cX2_init 14 = .ok (.putfield 15, 3) := by decide +kernel
theorem dX2_init_17 : decode cX2_init 17 = .ok (.aload_n 0, 1) := by decide +kernel
theorem dX2_init_18 : decode cX2_init 18 = .ok (.iconst (-1), 1) := by decide +kernel
theorem dX2_init_19 : decode cX2_init 19 = .ok (.putfield 19, 3) := by decide +kernel
theorem dX2_init_22 : decode cX2_init 22 = .ok (.aload_n 0, 1) := by decide +kernel
theorem dX2_init_23 : decode cX2_init 23 = .ok (.aload_n 1, 1) := by decide +kernel
theorem dX2_init_24 : decode cX2_init 24 = .ok (.putfield 22, 3) := by decide +kernel
theorem dX2_init_27 : decode cX2_init 27 = .ok (.return_, 1) := by decide +kernel
theorem dX2_read_0 : decode cX2_read 0 = .ok (.aload_n 0, 1) := by decide +kernel
theorem dX2_read_1 : decode cX2_read 1 = .ok (.aload_n 1, 1) := by decide +kernel
theorem dX2_read_2 : decode cX2_read 2 = .ok (.putfield 26, 3) := by decide +kernel
theorem dX2_read_5 : decode cX2_read 5 = .ok (.aload_n 0, 1) := by decide +kernel
theorem dX2_read_6 : decode cX2_read 6 = .ok (.getfield 26, 3) := by decide +kernel
theorem dX2_read_9 : decode cX2_read 9 = .ok (.invokevirtual 30, 3) := by decide +kernel
theorem dX2_read_12 : decode cX2_read 12 = .ok (.aload_n 0, 1) := by decide +kernel
theorem dX2_read_13 : decode cX2_read 13 = .ok (.iconst 0, 1) := by decide +kernel
theorem dX2_read_14 : decode cX2_read 14 = .ok (.putfield 15, 3) := by decide +kernel
theorem dX2_read_17 : decode cX2_read 17 = .ok (.aload_n 0, 1) := by decide +kernel
theorem dX2_read_18 : decode cX2_read 18 = .ok (.iconst (-1), 1) := by decide +kernel
theorem dX2_read_19 : decode cX2_read 19 = .ok (.putfield 19, 3) := by decide +kernel
theorem dX2_read_22 : decode cX2_read 22 = .ok (.aload_n 0, 1) := by decide +kernel
theorem dX2_read_23 : decode cX2_read 23 = .ok (.getfield 22, 3) := by decide +kernel
theorem dX2_read_26 : decode cX2_read 26 = .ok (.invokevirtual 35, 3) := by decide +kernel
theorem dX2_read_29 : decode cX2_read 29 = .ok (.iconst 0, 1) := by decide +kernel
theorem dX2_read_30 : decode cX2_read 30 = .ok (.istore_n 2, 1) := by decide +kernel
theorem dX2_read_31 : decode cX2_read 31 = .ok (.iload_n 2, 1) := by decide +kernel
theorem dX2_read_32 : decode cX2_read 32 = .ok (.bipush 24, 2) := by decide +kernel
theorem dX2_read_34 : decode cX2_read 34 = .ok (.if_icmp .gt 82, 3) := by decide +kernel
theorem dX2_read_37 : decode cX2_read 37 = .ok (.aload_n 0, 1) := by decide +kernel
theorem dX2_read_38 : decode cX2_read 38 = .ok (.getfield 15, 3) := by decide +kernel
theorem dX2_read_41 : decode cX2_read 41 = .ok (.ifCond .ne 75, 3) := by decide +kernel
theorem dX2_read_44 : decode cX2_read 44 = .ok (.aload_n 0, 1) := by decide +kernel
theorem dX2_read_45 : decode cX2_read 45 = .ok (.getfield 22, 3) := by decide +kernel
theorem dX2_read_48 : decode cX2_read 48 = .ok (.getfield 40, 3) := by decide +kernel
theorem dX2_read_51 : decode cX2_read 51 = .ok (.bipush 24, 2) := by decide +kernel
theorem dX2_read_53 : decode cX2_read 53 = .ok (.if_icmp .eq 63, 3) := by decide +kernel
theorem dX2_read_56 : decode cX2_read 56 = .ok (.aload_n 0, 1) := by decide +kernel
theorem dX2_read_57 : decode cX2_read 57 = .ok (.getfield 22, 3) := by decide +kernel
theorem dX2_read_60 : decode cX2_read 60 = .ok (.getfield 40, 3) := by decide +kernel
theorem dX2_read_63 : decode cX2_read 63 = .ok (.istore_n 3, 1) := by decide +kernel
theorem dX2_read_64 : decode cX2_read 64 = .ok (.aload_n 0, 1) := by decide +kernel
theorem dX2_read_65 : decode cX2_read 65 = .ok (.iload_n 3, 1) := by decide +kernel
theorem dX2_read_66 : decode cX2_read 66 = .ok (.invokevirtual 43, 3) := by decide +kernel
theorem dX2_read_69 : decode cX2_read 69 = .ok (.istore 4, 2) := by decide +kernel
theorem dX2_read_71 : decode cX2_read 71 = .ok (.iload 4, 2) := by decide +kernel
theorem dX2_read_73 : decode cX2_read 73 = .ok (.ifCond .eq 12, 3) := by decide +kernel
theorem dX2_read_76 : decode cX2_read 76 = .ok (.aload_n 0, 1) := by decide +kernel
theorem dX2_read_77 : decode cX2_read 77 = .ok (.iload 4, 2) := by decide +kernel
theorem dX2_read_79 : decode cX2_read 79 = .ok (.invokevirtual 47, 3) := by decide +kernel
theorem dX2_read_82 : decode cX2_read 82 = .ok (.goto 28, 3) := by decide +kernel
theorem dX2_read_85 : decode cX2_read 85 = .ok (.iload_n 3, 1) := by decide +kernel
theorem dX2_read_86 : decode cX2_read 86 = .ok (.bipush 19, 2) := by decide +kernel
theorem dX2_read_88 : decode cX2_read 88 = .ok (.if_icmp .eq 9, 3) := by decide +kernel
theorem dX2_read_91 : decode cX2_read 91 = .ok (.iload_n 3, 1) := by decide +kernel
theorem dX2_read_92 : decode cX2_read 92 = .ok (.bipush 20, 2) := by decide +kernel
theorem dX2_read_94 : decode cX2_read 94 = .ok (.if_icmp .ne 11, 3) := by decide +kernel
theorem dX2_read_97 : decode cX2_read 97 = .ok (.aload_n 0, 1) := by decide +kernel
theorem dX2_read_98 : decode cX2_read 98 = .ok (.iload_n 3, 1) := by decide +kernel
theorem dX2_read_99 : decode cX2_read 99 = .ok (.invokevirtual 51, 3) := by decide +kernel
theorem dX2_read_102 : decode cX2_read 102 = .ok (.goto 8, 3) := by decide +kernel
theorem dX2_read_105 : decode cX2_read 105 = .ok (.aload_n 0, 1) := by decide +kernel
theorem dX2_read_106 : decode cX2_read 106 = .ok (.iload_n 3, 1) := by decide +kernel
theorem dX2_read_107 : decode cX2_read 107 = .ok (.invokevirtual 54, 3) := by decide +kernel
theorem dX2_read_110 : decode cX2_read 110 = .ok (.iinc 2 1, 3) := by decide +kernel
theorem dX2_read_113 : decode cX2_read 113 = .ok (.goto (-82), 3) := by decide +kernel
theorem dX2_read_116 : decode cX2_read 116 = .ok (.aload_n 0, 1) := by decide +kernel
theorem dX2_read_117 : decode cX2_read 117 = .ok (.getfield 15, 3) := by decide +kernel
theorem dX2_read_120 : decode cX2_read 120 = .ok (.ifCond .ne 7, 3) := by decide +kernel
theorem dX2_read_123 : decode cX2_read 123 = .ok (.iconst 1, 1) := by decide +kernel
theorem dX2_read_124 : decode cX2_read 124 = .ok (.goto 4, 3) := by decide +kernel
theorem dX2_read_127 : decode cX2_read 127 = .ok (.iconst 0, 1) := by decide +kernel
theorem dX2_read_128 : decode cX2_read 128 = .ok (.ireturn, 1) := by decide +kernel
theorem dX2_fail_0 : decode cX2_fail 0 = .ok (.aload_n 0, 1) := by decide +kernel
theorem dX2_fail_1 : decode cX2_fail 1 = .ok (.getfield 15, 3) := by decide +kernel
theorem dX2_fail_4 : decode cX2_fail 4 = .ok (.ifCond .ne 19, 3) := by decide +kernel
theorem dX2_fail_7 : decode cX2_fail 7 = .ok (.aload_n 0, 1) := by decide +kernel
theorem dX2_fail_8 : decode cX2_fail 8 = .ok (.iload_n 1, 1) := by decide +kernel
theorem dX2_fail_9 : decode cX2_fail 9 = .ok (.putfield 15, 3) := by decide +kernel
theorem dX2_fail_12 : decode cX2_fail 12 = .ok (.aload_n 0, 1) := by decide +kernel
theorem dX2_fail_13 : decode cX2_fail 13 = .ok (.aload_n 0, 1) := by decide +kernel
theorem dX2_fail_14 : decode cX2_fail 14 = .ok (.getfield 22, 3) := by decide +kernel
theorem dX2_fail_17 : decode cX2_fail 17 = .ok (.getfield 57, 3) := by decide +kernel
theorem dX2_fail_20 : decode cX2_fail 20 = .ok (.putfield 19, 3) := by decide +kernel
theorem dX2_fail_23 : decode cX2_fail 23 = .ok (.return_, 1) := by decide +kernel
theorem dX2_headFault_0 : decode cX2_headFault 0 = .ok (.iload_n 1, 1) := by decide +kernel
theorem dX2_headFault_1 : decode cX2_headFault 1 = .ok (.bipush 19, 2) := by decide +kernel
theorem dX2_headFault_3 : decode cX2_headFault 3 = .ok (.if_icmp .lt 9, 3) := by decide +kernel
theorem dX2_headFault_6 : decode cX2_headFault 6 = .ok (.iload_n 1, 1) := by decide +kernel
theorem dX2_headFault_7 : decode cX2_headFault 7 = .ok (.bipush 23, 2) := by decide +kernel
theorem dX2_headFault_9 : decode cX2_headFault 9 = .ok (.if_icmp .le 5, 3) := by decide +kernel
theorem dX2_headFault_12 : decode cX2_headFault 12 = .ok (.iconst 1, 1) := by decide +kernel
theorem dX2_headFault_13 : decode cX2_headFault 13 = .ok (.ireturn, 1) := by decide +kernel
theorem dX2_headFault_14 : decode cX2_headFault 14 = .ok (.iload_n 1, 1) := by decide +kernel
theorem dX2_headFault_15 : decode cX2_headFault 15 = .ok (.bipush 19, 2) := by decide +kernel
theorem dX2_headFault_17 : decode cX2_headFault 17 = .ok (.if_icmp .ne 14, 3) := by decide +kernel
theorem dX2_headFault_20 : decode cX2_headFault 20 = .ok (.aload_n 0, 1) := by decide +kernel
theorem dX2_headFault_21 : decode cX2_headFault 21 = .ok (.getfield 26, 3) := by decide +kernel
theorem dX2_headFault_24 : decode cX2_headFault 24 = .ok (.getfield 60, 3) := by decide +kernel
theorem dX2_headFault_27 : decode cX2_headFault 27 = .ok (.iconst (-1), 1) := by decide +kernel
theorem dX2_headFault_28 : decode cX2_headFault 28 = .ok (.if_icmp .ne 20, 3) := by decide +kernel
theorem dX2_headFault_31 : decode cX2_headFault 31 = .ok (.iload_n 1, 1) := by decide +kernel
theorem dX2_headFault_32 : decode cX2_headFault 32 = .ok (.bipush 20, 2) := by decide +kernel
theorem dX2_headFault_34 : decode cX2_headFault 34 = .ok (.if_icmp .ne 16, 3) := by decide +kernel
theorem dX2_headFault_37 : decode cX2_headFault 37 = .ok (.aload_n 0, 1) := by decide +kernel
theorem dX2_headFault_38 : decode cX2_headFault 38 = .ok (.getfield 26, 3) := by decide +kernel
theorem dX2_headFault_41 : decode cX2_headFault 41 = .ok (.getfield 63, 3) := by decide +kernel
theorem dX2_headFault_44 : decode cX2_headFault 44 = .ok (.iconst (-1), 1) := by decide +kernel
theorem dX2_headFault_45 : decode cX2_headFault 45 = .ok (.if_icmp .eq 5, 3) := by decide +kernel
theorem dX2_headFault_48 : decode cX2_headFault 48 = .ok (.iconst 4, 1) := by decide +kernel
theorem dX2_headFault_49 : decode cX2_headFault 49 = .ok (.ireturn, 1) := by decide +kernel
theorem dX2_headFault_50 : decode cX2_headFault 50 = .ok (.aload_n 0, 1) := by decide +kernel
theorem dX2_headFault_51 : decode cX2_headFault 51 = .ok (.getfield 26, 3) := by decide +kernel
theorem dX2_headFault_54 : decode cX2_headFault 54 = .ok (.getfield 66, 3) := by decide +kernel
theorem dX2_headFault_57 : decode cX2_headFault 57 = .ok (.bipush 24, 2) := by decide +kernel
theorem dX2_headFault_59 : decode cX2_headFault 59 = .ok (.if_icmp .ne 8, 3) := by decide +kernel
theorem dX2_headFault_62 : decode cX2_headFault 62 = .ok (.bipush 6, 2) := by decide +kernel
theorem dX2_headFault_64 : decode cX2_headFault 64 = .ok (.goto 4, 3) := by decide +kernel
theorem dX2_headFault_67 : decode cX2_headFault 67 = .ok (.iconst 0, 1) := by decide +kernel
theorem dX2_headFault_68 : decode cX2_headFault 68 = .ok (.ireturn, 1) := by decide +kernel
theorem dX2_readStep_0 : decode cX2_readStep 0 = .ok (.aload_n 0, 1) := by decide +kernel
theorem dX2_readStep_1 : decode cX2_readStep 1 = .ok (.getfield 22, 3) := by decide +kernel
theorem dX2_readStep_4 : decode cX2_readStep 4 = .ok (.invokevirtual 69, 3) := by decide +kernel
theorem dX2_readStep_7 : decode cX2_readStep 7 = .ok (.aload_n 0, 1) := by decide +kernel
theorem dX2_readStep_8 : decode cX2_readStep 8 = .ok (.iload_n 1, 1) := by decide +kernel
theorem dX2_readStep_9 : decode cX2_readStep 9 = .ok (.bipush 23, 2) := by decide +kernel
theorem dX2_readStep_11 : decode cX2_readStep 11 = .ok (.if_icmp .ne 8, 3) := by decide +kernel
theorem dX2_readStep_14 : decode cX2_readStep 14 = .ok (.bipush 99, 2) := by decide +kernel
theorem dX2_readStep_16 : decode cX2_readStep 16 = .ok (.goto 5, 3) := by decide +kernel
theorem dX2_readStep_19 : decode cX2_readStep 19 = .ok (.bipush 11, 2) := by decide +kernel
theorem dX2_readStep_21 : decode cX2_readStep 21 = .ok (.invokevirtual 72, 3) := by decide +kernel
theorem dX2_readStep_24 : decode cX2_readStep 24 = .ok (.istore_n 2, 1) := by decide +kernel
theorem dX2_readStep_25 : decode cX2_readStep 25 = .ok (.iconst 0, 1) := by decide +kernel
theorem dX2_readStep_26 : decode cX2_readStep 26 = .ok (.istore_n 3, 1) := by decide +kernel
theorem dX2_readStep_27 : decode cX2_readStep 27 = .ok (.iload_n 1, 1) := by decide +kernel
theorem dX2_readStep_28 : decode cX2_readStep 28 = .ok (.bipush 21, 2) := by decide +kernel
theorem dX2_readStep_30 : decode cX2_readStep 30 = .ok (.if_icmp .ne 15, 3) := by decide +kernel
theorem dX2_readStep_33 : decode cX2_readStep 33 = .ok (.aload_n 0, 1) := by decide +kernel
theorem dX2_readStep_34 : decode cX2_readStep 34 = .ok (.bipush 18, 2) := by decide +kernel
theorem dX2_readStep_36 : decode cX2_readStep 36 = .ok (.invokevirtual 75, 3) := by decide +kernel
theorem dX2_readStep_39 : decode cX2_readStep 39 = .ok (.aload_n 0, 1) := by decide +kernel
theorem dX2_readStep_40 : decode cX2_readStep 40 = .ok (.iconst 1, 1) := by decide +kernel
theorem dX2_readStep_41 : decode cX2_readStep 41 = .ok (.invokevirtual 72, 3) := by decide +kernel
theorem dX2_readStep_44 : decode cX2_readStep 44 = .ok (.istore_n 3, 1) := by decide +kernel
theorem dX2_readStep_45 : decode cX2_readStep 45 = .ok (.aload_n 0, 1) := by decide +kernel
theorem dX2_readStep_46 : decode cX2_readStep 46 = .ok (.bipush 16, 2) := by decide +kernel
theorem dX2_readStep_48 : decode cX2_readStep 48 = .ok (.invokevirtual 75, 3) := by decide +kernel
theorem dX2_readStep_51 : decode cX2_readStep 51 = .ok (.aload_n 0, 1) := by decide +kernel
theorem dX2_readStep_52 : decode cX2_readStep 52 = .ok (.getfield 26, 3) := by decide +kernel
theorem dX2_readStep_55 : decode cX2_readStep 55 = .ok (.iload_n 1, 1) := by decide +kernel
theorem dX2_readStep_56 : decode cX2_readStep 56 = .ok (.iload_n 2, 1) := by decide +kernel
theorem dX2_readStep_57 : decode cX2_readStep 57 = .ok (.iload_n 3, 1) := by decide +kernel
theorem dX2_readStep_58 : decode cX2_readStep 58 = .ok (.invokevirtual 78, 3) := by decide +kernel
theorem dX2_readStep_61 : decode cX2_readStep 61 = .ok (.return_, 1) := by decide +kernel
theorem dX2_takeNumber_0 : decode cX2_takeNumber 0 = .ok (.aload_n 0, 1) := by decide +kernel
theorem dX2_takeNumber_1 : decode cX2_takeNumber 1 = .ok (.getfield 22, 3) := by decide +kernel
theorem dX2_takeNumber_4 : decode cX2_takeNumber 4 = .ok (.getfield 40, 3) := by decide +kernel
theorem dX2_takeNumber_7 : decode cX2_takeNumber 7 = .ok (.bipush 17, 2) := by decide +kernel
theorem dX2_takeNumber_9 : decode cX2_takeNumber 9 = .ok (.if_icmp .eq 11, 3) := by decide +kernel
theorem dX2_takeNumber_12 : decode cX2_takeNumber 12 = .ok (.aload_n 0, 1) := by decide +kernel
theorem dX2_takeNumber_13 : decode cX2_takeNumber 13 = .ok (.iconst 1, 1) := by decide +kernel
theorem dX2_takeNumber_14 : decode cX2_takeNumber 14 = .ok (.invokevirtual 47, 3) := by decide +kernel
theorem dX2_takeNumber_17 : decode cX2_takeNumber 17 = .ok (.goto 19, 3) := by decide +kernel
theorem dX2_takeNumber_20 : decode cX2_takeNumber 20 = .ok (.aload_n 0, 1) := by decide +kernel
theorem dX2_takeNumber_21 : decode cX2_takeNumber 21 = .ok (.getfield 22, 3) := by decide +kernel
theorem dX2_takeNumber_24 : decode cX2_takeNumber 24 = .ok (.getfield 82, 3) := by decide +kernel
theorem dX2_takeNumber_27 : decode cX2_takeNumber 27 = .ok (.iload_n 1, 1) := by decide +kernel
theorem dX2_takeNumber_28 : decode cX2_takeNumber 28 = .ok (.if_icmp .le 8, 3) := by decide +kernel
theorem dX2_takeNumber_31 : decode cX2_takeNumber 31 = .ok (.aload_n 0, 1) := by decide +kernel
theorem dX2_takeNumber_32 : decode cX2_takeNumber 32 = .ok (.iconst 2, 1) := by decide +kernel
theorem dX2_takeNumber_33 : decode cX2_takeNumber 33 = .ok (.invokevirtual 47, 3) := by decide +kernel
theorem dX2_takeNumber_36 : decode cX2_takeNumber 36 = .ok (.aload_n 0, 1) := by decide +kernel
theorem dX2_takeNumber_37 : decode cX2_takeNumber 37 = .ok (.getfield 22, 3) := by decide +kernel
theorem dX2_takeNumber_40 : decode cX2_takeNumber 40 = .ok (.getfield 82, 3) := by decide +kernel
theorem dX2_takeNumber_43 : decode cX2_takeNumber 43 = .ok (.istore_n 2, 1) := by decide +kernel
theorem dX2_takeNumber_44 : decode cX2_takeNumber 44 = .ok (.aload_n 0, 1) := by decide +kernel
theorem dX2_takeNumber_45 : decode cX2_takeNumber 45 = .ok (.getfield 15, 3) := by decide +kernel
theorem dX2_takeNumber_48 : decode cX2_takeNumber 48 = .ok (.ifCond .ne 10, 3) := by decide +kernel
theorem dX2_takeNumber_51 : decode cX2_takeNumber 51 = .ok (.aload_n 0, 1) := by decide +kernel
theorem dX2_takeNumber_52 : decode cX2_takeNumber 52 = .ok (.getfield 22, 3) := by decide +kernel
theorem dX2_takeNumber_55 : decode cX2_takeNumber 55 = .ok (.invokevirtual 69, 3) := by decide +kernel
theorem dX2_takeNumber_58 : decode cX2_takeNumber 58 = .ok (.iload_n 2, 1) := by decide +kernel
theorem dX2_takeNumber_59 : decode cX2_takeNumber 59 = .ok (.ireturn, 1) := by decide +kernel
theorem dX2_takeToken_0 : decode cX2_takeToken 0 = .ok (.aload_n 0, 1) := by decide +kernel
theorem dX2_takeToken_1 : decode cX2_takeToken 1 = .ok (.getfield 22, 3) := by decide +kernel
theorem dX2_takeToken_4 : decode cX2_takeToken 4 = .ok (.getfield 40, 3) := by decide +kernel
theorem dX2_takeToken_7 : decode cX2_takeToken 7 = .ok (.iload_n 1, 1) := by decide +kernel
theorem dX2_takeToken_8 : decode cX2_takeToken 8 = .ok (.if_icmp .eq 8, 3) := by decide +kernel
theorem dX2_takeToken_11 : decode cX2_takeToken 11 = .ok (.aload_n 0, 1) := by decide +kernel
theorem dX2_takeToken_12 : decode cX2_takeToken 12 = .ok (.iconst 1, 1) := by decide +kernel
theorem dX2_takeToken_13 : decode cX2_takeToken 13 = .ok (.invokevirtual 47, 3) := by decide +kernel
theorem dX2_takeToken_16 : decode cX2_takeToken 16 = .ok (.aload_n 0, 1) := by decide +kernel
theorem dX2_takeToken_17 : decode cX2_takeToken 17 = .ok (.getfield 15, 3) := by decide +kernel
theorem dX2_takeToken_20 : decode cX2_takeToken 20 = .ok (.ifCond .ne 10, 3) := by decide +kernel
theorem dX2_takeToken_23 : decode cX2_takeToken 23 = .ok (.aload_n 0, 1) := by decide +kernel
theorem dX2_takeToken_24 : decode cX2_takeToken 24 = .ok (.getfield 22, 3) := by decide +kernel
theorem dX2_takeToken_27 : decode cX2_takeToken 27 = .ok (.invokevirtual 69, 3) := by decide +kernel
theorem dX2_takeToken_30 : decode cX2_takeToken 30 = .ok (.return_, 1) := by decide +kernel
theorem dX2_readLaw_0 : decode cX2_readLaw 0 = .ok (.aload_n 0, 1) := by decide +kernel
theorem dX2_readLaw_1 : decode cX2_readLaw 1 = .ok (.getfield 26, 3) := by decide +kernel
theorem dX2_readLaw_4 : decode cX2_readLaw 4 = .ok (.getfield 85, 3) := by decide +kernel
theorem dX2_readLaw_7 : decode cX2_readLaw 7 = .ok (.istore_n 2, 1) := by decide +kernel
theorem dX2_readLaw_8 : decode cX2_readLaw 8 = .ok (.aload_n 0, 1) := by decide +kernel
theorem dX2_readLaw_9 : decode cX2_readLaw 9 = .ok (.iload_n 1, 1) := by decide +kernel
theorem dX2_readLaw_10 : decode cX2_readLaw 10 = .ok (.bipush 20, 2) := by decide +kernel
theorem dX2_readLaw_12 : decode cX2_readLaw 12 = .ok (.if_icmp .ne 7, 3) := by decide +kernel
theorem dX2_readLaw_15 : decode cX2_readLaw 15 = .ok (.iconst 1, 1) := by decide +kernel
theorem dX2_readLaw_16 : decode cX2_readLaw 16 = .ok (.goto 4, 3) := by decide +kernel
theorem dX2_readLaw_19 : decode cX2_readLaw 19 = .ok (.iconst 0, 1) := by decide +kernel
theorem dX2_readLaw_20 : decode cX2_readLaw 20 = .ok (.putfield 88, 3) := by decide +kernel
theorem dX2_readLaw_23 : decode cX2_readLaw 23 = .ok (.aload_n 0, 1) := by decide +kernel
theorem dX2_readLaw_24 : decode cX2_readLaw 24 = .ok (.iconst 0, 1) := by decide +kernel
theorem dX2_readLaw_25 : decode cX2_readLaw 25 = .ok (.putfield 92, 3) := by decide +kernel
theorem dX2_readLaw_28 : decode cX2_readLaw 28 = .ok (.aload_n 0, 1) := by decide +kernel
theorem dX2_readLaw_29 : decode cX2_readLaw 29 = .ok (.iconst 0, 1) := by decide +kernel
theorem dX2_readLaw_30 : decode cX2_readLaw 30 = .ok (.putfield 95, 3) := by decide +kernel
theorem dX2_readLaw_33 : decode cX2_readLaw 33 = .ok (.aload_n 0, 1) := by decide +kernel
theorem dX2_readLaw_34 : decode cX2_readLaw 34 = .ok (.iconst 0, 1) := by decide +kernel
theorem dX2_readLaw_35 : decode cX2_readLaw 35 = .ok (.putfield 98, 3) := by decide +kernel
theorem dX2_readLaw_38 : decode cX2_readLaw 38 = .ok (.aload_n 0, 1) := by decide +kernel
theorem dX2_readLaw_39 : decode cX2_readLaw 39 = .ok (.iconst 1, 1) := by decide +kernel
theorem dX2_readLaw_40 : decode cX2_readLaw 40 = .ok (.putfield 101, 3) := by decide +kernel
theorem dX2_readLaw_43 : decode cX2_readLaw 43 = .ok (.aload_n 0, 1) := by decide +kernel
theorem dX2_readLaw_44 : decode cX2_readLaw 44 = .ok (.aload_n 0, 1) := by decide +kernel
theorem dX2_readLaw_45 : decode cX2_readLaw 45 = .ok (.getfield 88, 3) := by decide +kernel
theorem dX2_readLaw_48 : decode cX2_readLaw 48 = .ok (.putfield 104, 3) := by decide +kernel
theorem dX2_readLaw_51 : decode cX2_readLaw 51 = .ok (.aload_n 0, 1) := by decide +kernel
theorem dX2_readLaw_52 : decode cX2_readLaw 52 = .ok (.iconst 0, 1) := by decide +kernel
theorem dX2_readLaw_53 : decode cX2_readLaw 53 = .ok (.putfield 107, 3) := by decide +kernel
theorem dX2_readLaw_56 : decode cX2_readLaw 56 = .ok (.aload_n 0, 1) := by decide +kernel
theorem dX2_readLaw_57 : decode cX2_readLaw 57 = .ok (.iconst 0, 1) := by decide +kernel
theorem dX2_readLaw_58 : decode cX2_readLaw 58 = .ok (.putfield 110, 3) := by decide +kernel
theorem dX2_readLaw_61 : decode cX2_readLaw 61 = .ok (.iconst 0, 1) := by decide +kernel
theorem dX2_readLaw_62 : decode cX2_readLaw 62 = .ok (.istore_n 3, 1) := by decide +kernel
theorem dX2_readLaw_63 : decode cX2_readLaw 63 = .ok (.iload_n 3, 1) := by decide +kernel
theorem dX2_readLaw_64 : decode cX2_readLaw 64 = .ok (.sipush 300, 3) := by decide +kernel
theorem dX2_readLaw_67 : decode cX2_readLaw 67 = .ok (.if_icmp .gt 48, 3) := by decide +kernel
theorem dX2_readLaw_70 : decode cX2_readLaw 70 = .ok (.aload_n 0, 1) := by decide +kernel
theorem dX2_readLaw_71 : decode cX2_readLaw 71 = .ok (.getfield 15, 3) := by decide +kernel
theorem dX2_readLaw_74 : decode cX2_readLaw 74 = .ok (.ifCond .ne 41, 3) := by decide +kernel
theorem dX2_readLaw_77 : decode cX2_readLaw 77 = .ok (.aload_n 0, 1) := by decide +kernel
theorem dX2_readLaw_78 : decode cX2_readLaw 78 = .ok (.getfield 110, 3) := by decide +kernel
theorem dX2_readLaw_81 : decode cX2_readLaw 81 = .ok (.ifCond .ne 34, 3) := by decide +kernel
theorem dX2_readLaw_84 : decode cX2_readLaw 84 = .ok (.aload_n 0, 1) := by decide +kernel
theorem dX2_readLaw_85 : decode cX2_readLaw 85 = .ok (.getfield 22, 3) := by decide +kernel
theorem dX2_readLaw_88 : decode cX2_readLaw 88 = .ok (.invokevirtual 69, 3) := by decide +kernel
theorem dX2_readLaw_91 : decode cX2_readLaw 91 = .ok (.aload_n 0, 1) := by decide +kernel
theorem dX2_readLaw_92 : decode cX2_readLaw 92 = .ok (.getfield 101, 3) := by decide +kernel
theorem dX2_readLaw_95 : decode cX2_readLaw 95 = .ok (.ifCond .eq 10, 3) := by decide +kernel
theorem dX2_readLaw_98 : decode cX2_readLaw 98 = .ok (.aload_n 0, 1) := by decide +kernel
theorem dX2_readLaw_99 : decode cX2_readLaw 99 = .ok (.invokevirtual 113, 3) := by decide +kernel
theorem dX2_readLaw_102 : decode cX2_readLaw 102 = .ok (.goto 7, 3) := by decide +kernel
theorem dX2_readLaw_105 : decode cX2_readLaw 105 = .ok (.aload_n 0, 1) := by decide +kernel
theorem dX2_readLaw_106 : decode cX2_readLaw 106 = .ok (.invokevirtual 116, 3) := by decide +kernel
theorem dX2_readLaw_109 : decode cX2_readLaw 109 = .ok (.iinc 3 1, 3) := by decide +kernel
theorem dX2_readLaw_112 : decode cX2_readLaw 112 = .ok (.goto (-49), 3) := by decide +kernel
theorem dX2_readLaw_115 : decode cX2_readLaw 115 = .ok (.aload_n 0, 1) := by decide +kernel
theorem dX2_readLaw_116 : decode cX2_readLaw 116 = .ok (.bipush 16, 2) := by decide +kernel
theorem dX2_readLaw_118 : decode cX2_readLaw 118 = .ok (.invokevirtual 75, 3) := by decide +kernel
theorem dX2_readLaw_121 : decode cX2_readLaw 121 = .ok (.aload_n 0, 1) := by decide +kernel
theorem dX2_readLaw_122 : decode cX2_readLaw 122 = .ok (.getfield 26, 3) := by decide +kernel
theorem dX2_readLaw_125 : decode cX2_readLaw 125 = .ok (.iload_n 1, 1) := by decide +kernel
theorem dX2_readLaw_126 : decode cX2_readLaw 126 = .ok (.iconst 0, 1) := by decide +kernel
theorem dX2_readLaw_127 : decode cX2_readLaw 127 = .ok (.iconst 0, 1) := by decide +kernel
theorem dX2_readLaw_128 : decode cX2_readLaw 128 = .ok (.invokevirtual 78, 3) := by decide +kernel
theorem dX2_readLaw_131 : decode cX2_readLaw 131 = .ok (.aload_n 0, 1) := by decide +kernel
theorem dX2_readLaw_132 : decode cX2_readLaw 132 = .ok (.getfield 88, 3) := by decide +kernel
theorem dX2_readLaw_135 : decode cX2_readLaw 135 = .ok (.ifCond .eq 28, 3) := by decide +kernel
theorem dX2_readLaw_138 : decode cX2_readLaw 138 = .ok (.aload_n 0, 1) := by decide +kernel
theorem dX2_readLaw_139 : decode cX2_readLaw 139 = .ok (.getfield 26, 3) := by decide +kernel
theorem dX2_readLaw_142 : decode cX2_readLaw 142 = .ok (.iload_n 2, 1) := by decide +kernel
theorem dX2_readLaw_143 : decode cX2_readLaw 143 = .ok (.putfield 63, 3) := by decide +kernel
theorem dX2_readLaw_146 : decode cX2_readLaw 146 = .ok (.aload_n 0, 1) := by decide +kernel
theorem dX2_readLaw_147 : decode cX2_readLaw 147 = .ok (.getfield 26, 3) := by decide +kernel
theorem dX2_readLaw_150 : decode cX2_readLaw 150 = .ok (.aload_n 0, 1) := by decide +kernel
theorem dX2_readLaw_151 : decode cX2_readLaw 151 = .ok (.getfield 26, 3) := by decide +kernel
theorem dX2_readLaw_154 : decode cX2_readLaw 154 = .ok (.getfield 85, 3) := by decide +kernel
theorem dX2_readLaw_157 : decode cX2_readLaw 157 = .ok (.putfield 119, 3) := by decide +kernel
theorem dX2_readLaw_160 : decode cX2_readLaw 160 = .ok (.goto 25, 3) := by decide +kernel
theorem dX2_readLaw_163 : decode cX2_readLaw 163 = .ok (.aload_n 0, 1) := by decide +kernel
theorem dX2_readLaw_164 : decode cX2_readLaw 164 = .ok (.getfield 26, 3) := by decide +kernel
theorem dX2_readLaw_167 : decode cX2_readLaw 167 = .ok (.iload_n 2, 1) := by decide +kernel
theorem dX2_readLaw_168 : decode cX2_readLaw 168 = .ok (.putfield 60, 3) := by decide +kernel
theorem dX2_readLaw_171 : decode cX2_readLaw 171 = .ok (.aload_n 0, 1) := by decide +kernel
theorem dX2_readLaw_172 : decode cX2_readLaw 172 = .ok (.getfield 26, 3) := by decide +kernel
theorem dX2_readLaw_175 : decode cX2_readLaw 175 = .ok (.aload_n 0, 1) := by decide +kernel
theorem dX2_readLaw_176 : decode cX2_readLaw 176 = .ok (.getfield 26, 3) := by decide +kernel
theorem dX2_readLaw_179 : decode cX2_readLaw 179 = .ok (.getfield 85, 3) := by decide +kernel
theorem dX2_readLaw_182 : decode cX2_readLaw 182 = .ok (.putfield 122, 3) := by decide +kernel
theorem dX2_readLaw_185 : decode cX2_readLaw 185 = .ok (.return_, 1) := by decide +kernel
theorem dX2_readOperand_0 : decode cX2_readOperand 0 = .ok (.aload_n 0, 1) := by decide +kernel
theorem dX2_readOperand_1 : decode cX2_readOperand 1 = .ok (.getfield 22, 3) := by decide +kernel
theorem dX2_readOperand_4 : decode cX2_readOperand 4 = .ok (.getfield 40, 3) := by decide +kernel
theorem dX2_readOperand_7 : decode cX2_readOperand 7 = .ok (.istore_n 1, 1) := by decide +kernel
theorem dX2_readOperand_8 : decode cX2_readOperand 8 = .ok (.iload_n 1, 1) := by decide +kernel
theorem dX2_readOperand_9 : decode cX2_readOperand 9 = .ok (.ifCond .eq 21, 3) := by decide +kernel
theorem dX2_readOperand_12 : decode cX2_readOperand 12 = .ok (.iload_n 1, 1) := by decide +kernel
theorem dX2_readOperand_13 : decode cX2_readOperand 13 = .ok (.bipush 11, 2) := by decide +kernel
theorem dX2_readOperand_15 : decode cX2_readOperand 15 = .ok (.if_icmp .eq 15, 3) := by decide +kernel
theorem dX2_readOperand_18 : decode cX2_readOperand 18 = .ok (.iload_n 1, 1) := by decide +kernel
theorem dX2_readOperand_19 : decode cX2_readOperand 19 = .ok (.iconst 3, 1) := by decide +kernel
theorem dX2_readOperand_20 : decode cX2_readOperand 20 = .ok (.if_icmp .ne 27, 3) := by decide +kernel
theorem dX2_readOperand_23 : decode cX2_readOperand 23 = .ok (.aload_n 0, 1) := by decide +kernel
theorem dX2_readOperand_24 : decode cX2_readOperand 24 = .ok (.getfield 104, 3) := by decide +kernel
theorem dX2_readOperand_27 : decode cX2_readOperand 27 = .ok (.ifCond .eq 20, 3) := by decide +kernel
theorem dX2_readOperand_30 : decode cX2_readOperand 30 = .ok (.aload_n 0, 1) := by decide +kernel
theorem dX2_readOperand_31 : decode cX2_readOperand 31 = .ok (.iload_n 1, 1) := by decide +kernel
theorem dX2_readOperand_32 : decode cX2_readOperand 32 = .ok (.bipush 11, 2) := by decide +kernel
theorem dX2_readOperand_34 : decode cX2_readOperand 34 = .ok (.if_icmp .ne 8, 3) := by decide +kernel
theorem dX2_readOperand_37 : decode cX2_readOperand 37 = .ok (.bipush 14, 2) := by decide +kernel
theorem dX2_readOperand_39 : decode cX2_readOperand 39 = .ok (.goto 4, 3) := by decide +kernel
theorem dX2_readOperand_42 : decode cX2_readOperand 42 = .ok (.iload_n 1, 1) := by decide +kernel
theorem dX2_readOperand_43 : decode cX2_readOperand 43 = .ok (.invokevirtual 125, 3) := by decide +kernel
theorem dX2_readOperand_46 : decode cX2_readOperand 46 = .ok (.return_, 1) := by decide +kernel
theorem dX2_readOperand_47 : decode cX2_readOperand 47 = .ok (.aload_n 0, 1) := by decide +kernel
theorem dX2_readOperand_48 : decode cX2_readOperand 48 = .ok (.iload_n 1, 1) := by decide +kernel
theorem dX2_readOperand_49 : decode cX2_readOperand 49 = .ok (.invokevirtual 128, 3) := by decide +kernel
theorem dX2_readOperand_52 : decode cX2_readOperand 52 = .ok (.istore_n 2, 1) := by decide +kernel
theorem dX2_readOperand_53 : decode cX2_readOperand 53 = .ok (.iload_n 2, 1) := by decide +kernel
theorem dX2_readOperand_54 : decode cX2_readOperand 54 = .ok (.ifCond .eq 11, 3) := by decide +kernel
theorem dX2_readOperand_57 : decode cX2_readOperand 57 = .ok (.aload_n 0, 1) := by decide +kernel
theorem dX2_readOperand_58 : decode cX2_readOperand 58 = .ok (.iload_n 2, 1) := by decide +kernel
theorem dX2_readOperand_59 : decode cX2_readOperand 59 = .ok (.invokevirtual 47, 3) := by decide +kernel
theorem dX2_readOperand_62 : decode cX2_readOperand 62 = .ok (.goto 31, 3) := by decide +kernel
theorem dX2_readOperand_65 : decode cX2_readOperand 65 = .ok (.aload_n 0, 1) := by decide +kernel
theorem dX2_readOperand_66 : decode cX2_readOperand 66 = .ok (.iload_n 1, 1) := by decide +kernel
theorem dX2_readOperand_67 : decode cX2_readOperand 67 = .ok (.bipush 17, 2) := by decide +kernel
theorem dX2_readOperand_69 : decode cX2_readOperand 69 = .ok (.if_icmp .ne 13, 3) := by decide +kernel
theorem dX2_readOperand_72 : decode cX2_readOperand 72 = .ok (.aload_n 0, 1) := by decide +kernel
theorem dX2_readOperand_73 : decode cX2_readOperand 73 = .ok (.getfield 22, 3) := by decide +kernel
theorem dX2_readOperand_76 : decode cX2_readOperand 76 = .ok (.getfield 82, 3) := by decide +kernel
theorem dX2_readOperand_79 : decode cX2_readOperand 79 = .ok (.goto 11, 3) := by decide +kernel
theorem dX2_readOperand_82 : decode cX2_readOperand 82 = .ok (.sipush 10000, 3) := by decide +kernel
theorem dX2_readOperand_85 : decode cX2_readOperand 85 = .ok (.iload_n 1, 1) := by decide +kernel
theorem dX2_readOperand_86 : decode cX2_readOperand 86 = .ok (.iadd, 1) := by decide +kernel
theorem dX2_readOperand_87 : decode cX2_readOperand 87 = .ok (.bipush 26, 2) := by decide +kernel
theorem dX2_readOperand_89 : decode cX2_readOperand 89 = .ok (.isub, 1) := by decide +kernel
theorem dX2_readOperand_90 : decode cX2_readOperand 90 = .ok (.invokevirtual 131, 3) := by decide +kernel
theorem dX2_readOperand_93 : decode cX2_readOperand 93 = .ok (.return_, 1) := by decide +kernel
theorem dX2_operandFault_0 : decode cX2_operandFault 0 = .ok (.iload_n 1, 1) := by decide +kernel
theorem dX2_operandFault_1 : decode cX2_operandFault 1 = .ok (.bipush 17, 2) := by decide +kernel
theorem dX2_operandFault_3 : decode cX2_operandFault 3 = .ok (.if_icmp .ne 22, 3) := by decide +kernel
theorem dX2_operandFault_6 : decode cX2_operandFault 6 = .ok (.aload_n 0, 1) := by decide +kernel
theorem dX2_operandFault_7 : decode cX2_operandFault 7 = .ok (.getfield 22, 3) := by decide +kernel
theorem dX2_operandFault_10 : decode cX2_operandFault 10 = .ok (.getfield 82, 3) := by decide +kernel
theorem dX2_operandFault_13 : decode cX2_operandFault 13 = .ok (.sipush 9999, 3) := by decide +kernel
theorem dX2_operandFault_16 : decode cX2_operandFault 16 = .ok (.if_icmp .le 7, 3) := by decide +kernel
theorem dX2_operandFault_19 : decode cX2_operandFault 19 = .ok (.iconst 2, 1) := by decide +kernel
theorem dX2_operandFault_20 : decode cX2_operandFault 20 = .ok (.goto 4, 3) := by decide +kernel
theorem dX2_operandFault_23 : decode cX2_operandFault 23 = .ok (.iconst 0, 1) := by decide +kernel
theorem dX2_operandFault_24 : decode cX2_operandFault 24 = .ok (.ireturn, 1) := by decide +kernel
theorem dX2_operandFault_25 : decode cX2_operandFault 25 = .ok (.iload_n 1, 1) := by decide +kernel
theorem dX2_operandFault_26 : decode cX2_operandFault 26 = .ok (.bipush 26, 2) := by decide +kernel
theorem dX2_operandFault_28 : decode cX2_operandFault 28 = .ok (.if_icmp .ge 5, 3) := by decide +kernel
theorem dX2_operandFault_31 : decode cX2_operandFault 31 = .ok (.iconst 1, 1) := by decide +kernel
theorem dX2_operandFault_32 : decode cX2_operandFault 32 = .ok (.ireturn, 1) := by decide +kernel
theorem dX2_operandFault_33 : decode cX2_operandFault 33 = .ok (.iload_n 1, 1) := by decide +kernel
theorem dX2_operandFault_34 : decode cX2_operandFault 34 = .ok (.bipush 26, 2) := by decide +kernel
theorem dX2_operandFault_36 : decode cX2_operandFault 36 = .ok (.isub, 1) := by decide +kernel
theorem dX2_operandFault_37 : decode cX2_operandFault 37 = .ok (.istore_n 2, 1) := by decide +kernel
theorem dX2_operandFault_38 : decode cX2_operandFault 38 = .ok (.iload_n 2, 1) := by decide +kernel
theorem dX2_operandFault_39 : decode cX2_operandFault 39 = .ok (.iconst 3, 1) := by decide +kernel
theorem dX2_operandFault_40 : decode cX2_operandFault 40 = .ok (.if_icmp .lt 21, 3) := by decide +kernel
theorem dX2_operandFault_43 : decode cX2_operandFault 43 = .ok (.iload_n 2, 1) := by decide +kernel
theorem dX2_operandFault_44 : decode cX2_operandFault 44 = .ok (.bipush 7, 2) := by decide +kernel
theorem dX2_operandFault_46 : decode cX2_operandFault 46 = .ok (.if_icmp .lt 7, 3) := by decide +kernel
theorem dX2_operandFault_49 : decode cX2_operandFault 49 = .ok (.iconst 1, 1) := by decide +kernel
theorem dX2_operandFault_50 : decode cX2_operandFault 50 = .ok (.goto 4, 3) := by decide +kernel
theorem dX2_operandFault_53 : decode cX2_operandFault 53 = .ok (.iconst 0, 1) := by decide +kernel
theorem dX2_operandFault_54 : decode cX2_operandFault 54 = .ok (.aload_n 0, 1) := by decide +kernel
theorem dX2_operandFault_55 : decode cX2_operandFault 55 = .ok (.getfield 88, 3) := by decide +kernel
theorem dX2_operandFault_58 : decode cX2_operandFault 58 = .ok (.if_icmp .ne 7, 3) := by decide +kernel
theorem dX2_operandFault_61 : decode cX2_operandFault 61 = .ok (.iconst 1, 1) := by decide +kernel
theorem dX2_operandFault_62 : decode cX2_operandFault 62 = .ok (.goto 4, 3) := by decide +kernel
theorem dX2_operandFault_65 : decode cX2_operandFault 65 = .ok (.iconst 0, 1) := by decide +kernel
theorem dX2_operandFault_66 : decode cX2_operandFault 66 = .ok (.istore_n 3, 1) := by decide +kernel
theorem dX2_operandFault_67 : decode cX2_operandFault 67 = .ok (.iload_n 3, 1) := by decide +kernel
theorem dX2_operandFault_68 : decode cX2_operandFault 68 = .ok (.ifCond .eq 7, 3) := by decide +kernel
theorem dX2_operandFault_71 : decode cX2_operandFault 71 = .ok (.iconst 0, 1) := by decide +kernel
theorem dX2_operandFault_72 : decode cX2_operandFault 72 = .ok (.goto 4, 3) := by decide +kernel
theorem dX2_operandFault_75 : decode cX2_operandFault 75 = .ok (.iconst 5, 1) := by decide +kernel
theorem dX2_operandFault_76 : decode cX2_operandFault 76 = .ok (.ireturn, 1) := by decide +kernel
theorem dX2_openOne_0 : decode cX2_openOne 0 = .ok (.aload_n 0, 1) := by decide +kernel
theorem dX2_openOne_1 : decode cX2_openOne 1 = .ok (.getfield 95, 3) := by decide +kernel
theorem dX2_openOne_4 : decode cX2_openOne 4 = .ok (.bipush 8, 2) := by decide +kernel
theorem dX2_openOne_6 : decode cX2_openOne 6 = .ok (.if_icmp .lt 9, 3) := by decide +kernel
theorem dX2_openOne_9 : decode cX2_openOne 9 = .ok (.aload_n 0, 1) := by decide +kernel
theorem dX2_openOne_10 : decode cX2_openOne 10 = .ok (.iconst 3, 1) := by decide +kernel
theorem dX2_openOne_11 : decode cX2_openOne 11 = .ok (.invokevirtual 47, 3) := by decide +kernel
theorem dX2_openOne_14 : decode cX2_openOne 14 = .ok (.return_, 1) := by decide +kernel
theorem dX2_openOne_15 : decode cX2_openOne 15 = .ok (.aload_n 0, 1) := by decide +kernel
theorem dX2_openOne_16 : decode cX2_openOne 16 = .ok (.dup, 1) := by decide +kernel
theorem dX2_openOne_17 : decode cX2_openOne 17 = .ok (.getfield 95, 3) := by decide +kernel
theorem dX2_openOne_20 : decode cX2_openOne 20 = .ok (.iconst 1, 1) := by decide +kernel
theorem dX2_openOne_21 : decode cX2_openOne 21 = .ok (.iadd, 1) := by decide +kernel
theorem dX2_openOne_22 : decode cX2_openOne 22 = .ok (.putfield 95, 3) := by decide +kernel
theorem dX2_openOne_25 : decode cX2_openOne 25 = .ok (.aload_n 0, 1) := by decide +kernel
theorem dX2_openOne_26 : decode cX2_openOne 26 = .ok (.dup, 1) := by decide +kernel
theorem dX2_openOne_27 : decode cX2_openOne 27 = .ok (.getfield 98, 3) := by decide +kernel
theorem dX2_openOne_30 : decode cX2_openOne 30 = .ok (.iload_n 1, 1) := by decide +kernel
theorem dX2_openOne_31 : decode cX2_openOne 31 = .ok (.ifCond .ne 7, 3) := by decide +kernel
theorem dX2_openOne_34 : decode cX2_openOne 34 = .ok (.iconst 1, 1) := by decide +kernel
theorem dX2_openOne_35 : decode cX2_openOne 35 = .ok (.goto 4, 3) := by decide +kernel
theorem dX2_openOne_38 : decode cX2_openOne 38 = .ok (.iconst 0, 1) := by decide +kernel
theorem dX2_openOne_39 : decode cX2_openOne 39 = .ok (.iadd, 1) := by decide +kernel
theorem dX2_openOne_40 : decode cX2_openOne 40 = .ok (.putfield 98, 3) := by decide +kernel
theorem dX2_openOne_43 : decode cX2_openOne 43 = .ok (.aload_n 0, 1) := by decide +kernel
theorem dX2_openOne_44 : decode cX2_openOne 44 = .ok (.iload_n 1, 1) := by decide +kernel
theorem dX2_openOne_45 : decode cX2_openOne 45 = .ok (.iconst 3, 1) := by decide +kernel
theorem dX2_openOne_46 : decode cX2_openOne 46 = .ok (.if_icmp .ne 7, 3) := by decide +kernel
theorem dX2_openOne_49 : decode cX2_openOne 49 = .ok (.iconst 1, 1) := by decide +kernel
theorem dX2_openOne_50 : decode cX2_openOne 50 = .ok (.goto 4, 3) := by decide +kernel
theorem dX2_openOne_53 : decode cX2_openOne 53 = .ok (.iconst 0, 1) := by decide +kernel
theorem dX2_openOne_54 : decode cX2_openOne 54 = .ok (.putfield 104, 3) := by decide +kernel
theorem dX2_openOne_57 : decode cX2_openOne 57 = .ok (.aload_n 0, 1) := by decide +kernel
theorem dX2_openOne_58 : decode cX2_openOne 58 = .ok (.iload_n 1, 1) := by decide +kernel
theorem dX2_openOne_59 : decode cX2_openOne 59 = .ok (.invokevirtual 134, 3) := by decide +kernel
theorem dX2_openOne_62 : decode cX2_openOne 62 = .ok (.return_, 1) := by decide +kernel
theorem dX2_takeOperand_0 : decode cX2_takeOperand 0 = .ok (.aload_n 0, 1) := by decide +kernel
theorem dX2_takeOperand_1 : decode cX2_takeOperand 1 = .ok (.getfield 26, 3) := by decide +kernel
theorem dX2_takeOperand_4 : decode cX2_takeOperand 4 = .ok (.iload_n 1, 1) := by decide +kernel
theorem dX2_takeOperand_5 : decode cX2_takeOperand 5 = .ok (.invokevirtual 137, 3) := by decide +kernel
theorem dX2_takeOperand_8 : decode cX2_takeOperand 8 = .ok (.aload_n 0, 1) := by decide +kernel
theorem dX2_takeOperand_9 : decode cX2_takeOperand 9 = .ok (.iconst 0, 1) := by decide +kernel
theorem dX2_takeOperand_10 : decode cX2_takeOperand 10 = .ok (.putfield 104, 3) := by decide +kernel
theorem dX2_takeOperand_13 : decode cX2_takeOperand 13 = .ok (.aload_n 0, 1) := by decide +kernel
theorem dX2_takeOperand_14 : decode cX2_takeOperand 14 = .ok (.iconst 0, 1) := by decide +kernel
theorem dX2_takeOperand_15 : decode cX2_takeOperand 15 = .ok (.putfield 101, 3) := by decide +kernel
theorem dX2_takeOperand_18 : decode cX2_takeOperand 18 = .ok (.return_, 1) := by decide +kernel
theorem dX2_readOperation_0 : decode cX2_readOperation 0 = .ok (.aload_n 0, 1) := by decide +kernel
theorem dX2_readOperation_1 : decode cX2_readOperation 1 = .ok (.getfield 22, 3) := by decide +kernel
theorem dX2_readOperation_4 : decode cX2_readOperation 4 = .ok (.getfield 40, 3) := by decide +kernel
theorem dX2_readOperation_7 : decode cX2_readOperation 7 = .ok (.istore_n 1, 1) := by decide +kernel
theorem dX2_readOperation_8 : decode cX2_readOperation 8 = .ok (.iload_n 1, 1) := by decide +kernel
theorem dX2_readOperation_9 : decode cX2_readOperation 9 = .ok (.bipush 10, 2) := by decide +kernel
theorem dX2_readOperation_11 : decode cX2_readOperation 11 = .ok (.if_icmp .lt 17, 3) := by decide +kernel
theorem dX2_readOperation_14 : decode cX2_readOperation 14 = .ok (.iload_n 1, 1) := by decide +kernel
theorem dX2_readOperation_15 : decode cX2_readOperation 15 = .ok (.bipush 13, 2) := by decide +kernel
theorem dX2_readOperation_17 : decode cX2_readOperation 17 = .ok (.if_icmp .gt 11, 3) := by decide +kernel
theorem dX2_readOperation_20 : decode cX2_readOperation 20 = .ok (.aload_n 0, 1) := by decide +kernel
theorem dX2_readOperation_21 : decode cX2_readOperation 21 = .ok (.iload_n 1, 1) := by decide +kernel
theorem dX2_readOperation_22 : decode cX2_readOperation 22 = .ok (.invokevirtual 140, 3) := by decide +kernel
theorem dX2_readOperation_25 : decode cX2_readOperation 25 = .ok (.goto 152, 3) := by decide +kernel
theorem dX2_readOperation_28 : decode cX2_readOperation 28 = .ok (.iload_n 1, 1) := by decide +kernel
theorem dX2_readOperation_29 : decode cX2_readOperation 29 = .ok (.bipush 15, 2) := by decide +kernel
theorem dX2_readOperation_31 : decode cX2_readOperation 31 = .ok (.if_icmp .ne 17, 3) := by decide +kernel
theorem dX2_readOperation_34 : decode cX2_readOperation 34 = .ok (.aload_n 0, 1) := by decide +kernel
theorem dX2_readOperation_35 : decode cX2_readOperation 35 = .ok (.getfield 98, 3) := by decide +kernel
theorem dX2_readOperation_38 : decode cX2_readOperation 38 = .ok (.ifCond .le 10, 3) := by decide +kernel
theorem dX2_readOperation_41 : decode cX2_readOperation 41 = .ok (.aload_n 0, 1) := by decide +kernel
theorem dX2_readOperation_42 : decode cX2_readOperation 42 = .ok (.invokevirtual 143, 3) := by decide +kernel
theorem dX2_readOperation_45 : decode cX2_readOperation 45 = .ok (.goto 132, 3) := by decide +kernel
theorem dX2_readOperation_48 : decode cX2_readOperation 48 = .ok (.iload_n 1, 1) := by decide +kernel
theorem dX2_readOperation_49 : decode cX2_readOperation 49 = .ok (.iconst 4, 1) := by decide +kernel
theorem dX2_readOperation_50 : decode cX2_readOperation 50 = .ok (.if_icmp .lt 43, 3) := by decide +kernel
theorem dX2_readOperation_53 : decode cX2_readOperation 53 = .ok (.iload_n 1, 1) := by decide +kernel
theorem dX2_readOperation_54 : decode cX2_readOperation 54 = .ok (.bipush 9, 2) := by decide +kernel
theorem dX2_readOperation_56 : decode cX2_readOperation 56 = .ok (.if_icmp .gt 37, 3) := by decide +kernel
theorem dX2_readOperation_59 : decode cX2_readOperation 59 = .ok (.aload_n 0, 1) := by decide +kernel
theorem dX2_readOperation_60 : decode cX2_readOperation 60 = .ok (.getfield 88, 3) := by decide +kernel
theorem dX2_readOperation_63 : decode cX2_readOperation 63 = .ok (.ifCond .eq 30, 3) := by decide +kernel
theorem dX2_readOperation_66 : decode cX2_readOperation 66 = .ok (.aload_n 0, 1) := by decide +kernel
theorem dX2_readOperation_67 : decode cX2_readOperation 67 = .ok (.getfield 98, 3) := by decide +kernel
theorem dX2_readOperation_70 : decode cX2_readOperation 70 = .ok (.ifCond .ne 23, 3) := by decide +kernel
theorem dX2_readOperation_73 : decode cX2_readOperation 73 = .ok (.aload_n 0, 1) := by decide +kernel
theorem dX2_readOperation_74 : decode cX2_readOperation 74 = .ok (.getfield 107, 3) := by decide +kernel
theorem dX2_readOperation_77 : decode cX2_readOperation 77 = .ok (.ifCond .ne 16, 3) := by decide +kernel
theorem dX2_readOperation_80 : decode cX2_readOperation 80 = .ok (.aload_n 0, 1) := by decide +kernel
theorem dX2_readOperation_81 : decode cX2_readOperation 81 = .ok (.iload_n 1, 1) := by decide +kernel
theorem dX2_readOperation_82 : decode cX2_readOperation 82 = .ok (.invokevirtual 140, 3) := by decide +kernel
theorem dX2_readOperation_85 : decode cX2_readOperation 85 = .ok (.aload_n 0, 1) := by decide +kernel
theorem dX2_readOperation_86 : decode cX2_readOperation 86 = .ok (.iconst 1, 1) := by decide +kernel
theorem dX2_readOperation_87 : decode cX2_readOperation 87 = .ok (.putfield 107, 3) := by decide +kernel
theorem dX2_readOperation_90 : decode cX2_readOperation 90 = .ok (.goto 87, 3) := by decide +kernel
theorem dX2_readOperation_93 : decode cX2_readOperation 93 = .ok (.iload_n 1, 1) := by decide +kernel
theorem dX2_readOperation_94 : decode cX2_readOperation 94 = .ok (.iconst 2, 1) := by decide +kernel
theorem dX2_readOperation_95 : decode cX2_readOperation 95 = .ok (.if_icmp .eq 8, 3) := by decide +kernel
theorem dX2_readOperation_98 : decode cX2_readOperation 98 = .ok (.iload_n 1, 1) := by decide +kernel
theorem dX2_readOperation_99 : decode cX2_readOperation 99 = .ok (.iconst 1, 1) := by decide +kernel
theorem dX2_readOperation_100 : decode cX2_readOperation 100 = .ok (.if_icmp .ne 35, 3) := by decide +kernel
theorem dX2_readOperation_103 : decode cX2_readOperation 103 = .ok (.aload_n 0, 1) := by decide +kernel
theorem dX2_readOperation_104 : decode cX2_readOperation 104 = .ok (.getfield 98, 3) := by decide +kernel
theorem dX2_readOperation_107 : decode cX2_readOperation 107 = .ok (.ifCond .ne 28, 3) := by decide +kernel
theorem dX2_readOperation_110 : decode cX2_readOperation 110 = .ok (.aload_n 0, 1) := by decide +kernel
theorem dX2_readOperation_111 : decode cX2_readOperation 111 = .ok (.getfield 107, 3) := by decide +kernel
theorem dX2_readOperation_114 : decode cX2_readOperation 114 = .ok (.ifCond .eq 21, 3) := by decide +kernel
theorem dX2_readOperation_117 : decode cX2_readOperation 117 = .ok (.aload_n 0, 1) := by decide +kernel
theorem dX2_readOperation_118 : decode cX2_readOperation 118 = .ok (.iload_n 1, 1) := by decide +kernel
theorem dX2_readOperation_119 : decode cX2_readOperation 119 = .ok (.invokevirtual 140, 3) := by decide +kernel
theorem dX2_readOperation_122 : decode cX2_readOperation 122 = .ok (.aload_n 0, 1) := by decide +kernel
theorem dX2_readOperation_123 : decode cX2_readOperation 123 = .ok (.iconst 0, 1) := by decide +kernel
theorem dX2_readOperation_124 : decode cX2_readOperation 124 = .ok (.putfield 107, 3) := by decide +kernel
theorem dX2_readOperation_127 : decode cX2_readOperation 127 = .ok (.aload_n 0, 1) := by decide +kernel
theorem dX2_readOperation_128 : decode cX2_readOperation 128 = .ok (.iconst 1, 1) := by decide +kernel
theorem dX2_readOperation_129 : decode cX2_readOperation 129 = .ok (.putfield 104, 3) := by decide +kernel
theorem dX2_readOperation_132 : decode cX2_readOperation 132 = .ok (.goto 45, 3) := by decide +kernel
theorem dX2_readOperation_135 : decode cX2_readOperation 135 = .ok (.iload_n 1, 1) := by decide +kernel
theorem dX2_readOperation_136 : decode cX2_readOperation 136 = .ok (.bipush 16, 2) := by decide +kernel
theorem dX2_readOperation_138 : decode cX2_readOperation 138 = .ok (.if_icmp .ne 34, 3) := by decide +kernel
theorem dX2_readOperation_141 : decode cX2_readOperation 141 = .ok (.aload_n 0, 1) := by decide +kernel
theorem dX2_readOperation_142 : decode cX2_readOperation 142 = .ok (.getfield 98, 3) := by decide +kernel
theorem dX2_readOperation_145 : decode cX2_readOperation 145 = .ok (.ifCond .ne 27, 3) := by decide +kernel
theorem dX2_readOperation_148 : decode cX2_readOperation 148 = .ok (.aload_n 0, 1) := by decide +kernel
theorem dX2_readOperation_149 : decode cX2_readOperation 149 = .ok (.getfield 107, 3) := by decide +kernel
theorem dX2_readOperation_152 : decode cX2_readOperation 152 = .ok (.aload_n 0, 1) := by decide +kernel
theorem dX2_readOperation_153 : decode cX2_readOperation 153 = .ok (.getfield 88, 3) := by decide +kernel
theorem dX2_readOperation_156 : decode cX2_readOperation 156 = .ok (.if_icmp .ne 16, 3) := by decide +kernel
theorem dX2_readOperation_159 : decode cX2_readOperation 159 = .ok (.aload_n 0, 1) := by decide +kernel
theorem dX2_readOperation_160 : decode cX2_readOperation 160 = .ok (.iconst 1, 1) := by decide +kernel
theorem dX2_readOperation_161 : decode cX2_readOperation 161 = .ok (.invokevirtual 146, 3) := by decide +kernel
theorem dX2_readOperation_164 : decode cX2_readOperation 164 = .ok (.aload_n 0, 1) := by decide +kernel
theorem dX2_readOperation_165 : decode cX2_readOperation 165 = .ok (.iconst 1, 1) := by decide +kernel
theorem dX2_readOperation_166 : decode cX2_readOperation 166 = .ok (.putfield 110, 3) := by decide +kernel
theorem dX2_readOperation_169 : decode cX2_readOperation 169 = .ok (.goto 8, 3) := by decide +kernel
theorem dX2_readOperation_172 : decode cX2_readOperation 172 = .ok (.aload_n 0, 1) := by decide +kernel
theorem dX2_readOperation_173 : decode cX2_readOperation 173 = .ok (.iconst 1, 1) := by decide +kernel
theorem dX2_readOperation_174 : decode cX2_readOperation 174 = .ok (.invokevirtual 47, 3) := by decide +kernel
theorem dX2_readOperation_177 : decode cX2_readOperation 177 = .ok (.return_, 1) := by decide +kernel
theorem dX2_joinBy_0 : decode cX2_joinBy 0 = .ok (.aload_n 0, 1) := by decide +kernel
theorem dX2_joinBy_1 : decode cX2_joinBy 1 = .ok (.getstatic 149, 3) := by decide +kernel
theorem dX2_joinBy_4 : decode cX2_joinBy 4 = .ok (.iload_n 1, 1) := by decide +kernel
theorem dX2_joinBy_5 : decode cX2_joinBy 5 = .ok (.iaload, 1) := by decide +kernel
theorem dX2_joinBy_6 : decode cX2_joinBy 6 = .ok (.invokevirtual 146, 3) := by decide +kernel
theorem dX2_joinBy_9 : decode cX2_joinBy 9 = .ok (.aload_n 0, 1) := by decide +kernel
theorem dX2_joinBy_10 : decode cX2_joinBy 10 = .ok (.iload_n 1, 1) := by decide +kernel
theorem dX2_joinBy_11 : decode cX2_joinBy 11 = .ok (.invokevirtual 134, 3) := by decide +kernel
theorem dX2_joinBy_14 : decode cX2_joinBy 14 = .ok (.aload_n 0, 1) := by decide +kernel
theorem dX2_joinBy_15 : decode cX2_joinBy 15 = .ok (.iconst 1, 1) := by decide +kernel
theorem dX2_joinBy_16 : decode cX2_joinBy 16 = .ok (.putfield 101, 3) := by decide +kernel
theorem dX2_joinBy_19 : decode cX2_joinBy 19 = .ok (.return_, 1) := by decide +kernel
theorem dX2_closeBracket_0 : decode cX2_closeBracket 0 = .ok (.aload_n 0, 1) := by decide +kernel
theorem dX2_closeBracket_1 : decode cX2_closeBracket 1 = .ok (.iconst 1, 1) := by decide +kernel
theorem dX2_closeBracket_2 : decode cX2_closeBracket 2 = .ok (.invokevirtual 146, 3) := by decide +kernel
theorem dX2_closeBracket_5 : decode cX2_closeBracket 5 = .ok (.aload_n 0, 1) := by decide +kernel
theorem dX2_closeBracket_6 : decode cX2_closeBracket 6 = .ok (.dup, 1) := by decide +kernel
theorem dX2_closeBracket_7 : decode cX2_closeBracket 7 = .ok (.getfield 92, 3) := by decide +kernel
theorem dX2_closeBracket_10 : decode cX2_closeBracket 10 = .ok (.aload_n 0, 1) := by decide +kernel
theorem dX2_closeBracket_11 : decode cX2_closeBracket 11 = .ok (.getfield 92, 3) := by decide +kernel
theorem dX2_closeBracket_14 : decode cX2_closeBracket 14 = .ok (.ifCond .le 7, 3) := by decide +kernel
theorem dX2_closeBracket_17 : decode cX2_closeBracket 17 = .ok (.iconst 1, 1) := by decide +kernel
theorem dX2_closeBracket_18 : decode cX2_closeBracket 18 = .ok (.goto 4, 3) := by decide +kernel
theorem dX2_closeBracket_21 : decode cX2_closeBracket 21 = .ok (.iconst 0, 1) := by decide +kernel
theorem dX2_closeBracket_22 : decode cX2_closeBracket 22 = .ok (.isub, 1) := by decide +kernel
theorem dX2_closeBracket_23 : decode cX2_closeBracket 23 = .ok (.putfield 92, 3) := by decide +kernel
theorem dX2_closeBracket_26 : decode cX2_closeBracket 26 = .ok (.aload_n 0, 1) := by decide +kernel
theorem dX2_closeBracket_27 : decode cX2_closeBracket 27 = .ok (.dup, 1) := by decide +kernel
theorem dX2_closeBracket_28 : decode cX2_closeBracket 28 = .ok (.getfield 98, 3) := by decide +kernel
theorem dX2_closeBracket_31 : decode cX2_closeBracket 31 = .ok (.iconst 1, 1) := by decide +kernel
theorem dX2_closeBracket_32 : decode cX2_closeBracket 32 = .ok (.isub, 1) := by decide +kernel
theorem dX2_closeBracket_33 : decode cX2_closeBracket 33 = .ok (.putfield 98, 3) := by decide +kernel
theorem dX2_closeBracket_36 : decode cX2_closeBracket 36 = .ok (.aload_n 0, 1) := by decide +kernel
theorem dX2_closeBracket_37 : decode cX2_closeBracket 37 = .ok (.dup, 1) := by decide +kernel
theorem dX2_closeBracket_38 : decode cX2_closeBracket 38 = .ok (.getfield 95, 3) := by decide +kernel
theorem dX2_closeBracket_41 : decode cX2_closeBracket 41 = .ok (.iconst 1, 1) := by decide +kernel
theorem dX2_closeBracket_42 : decode cX2_closeBracket 42 = .ok (.isub, 1) := by decide +kernel
theorem dX2_closeBracket_43 : decode cX2_closeBracket 43 = .ok (.putfield 95, 3) := by decide +kernel
theorem dX2_closeBracket_46 : decode cX2_closeBracket 46 = .ok (.return_, 1) := by decide +kernel
theorem dX2_keepWaiting_0 : decode cX2_keepWaiting 0 = .ok (.aload_n 0, 1) := by decide +kernel
theorem dX2_keepWaiting_1 : decode cX2_keepWaiting 1 = .ok (.getfield 92, 3) := by decide +kernel
theorem dX2_keepWaiting_4 : decode cX2_keepWaiting 4 = .ok (.aload_n 0, 1) := by decide +kernel
theorem dX2_keepWaiting_5 : decode cX2_keepWaiting 5 = .ok (.getfield 11, 3) := by decide +kernel
theorem dX2_keepWaiting_8 : decode cX2_keepWaiting 8 = .ok (.arraylength, 1) := by decide +kernel
theorem dX2_keepWaiting_9 : decode cX2_keepWaiting 9 = .ok (.if_icmp .ge 23, 3) := by decide +kernel
theorem dX2_keepWaiting_12 : decode cX2_keepWaiting 12 = .ok (.aload_n 0, 1) := by decide +kernel
theorem dX2_keepWaiting_13 : decode cX2_keepWaiting 13 = .ok (.getfield 11, 3) := by decide +kernel
theorem dX2_keepWaiting_16 : decode cX2_keepWaiting 16 = .ok (.aload_n 0, 1) := by decide +kernel
theorem dX2_keepWaiting_17 : decode cX2_keepWaiting 17 = .ok (.getfield 92, 3) := by decide +kernel
theorem dX2_keepWaiting_20 : decode cX2_keepWaiting 20 = .ok (.iload_n 1, 1) := by decide +kernel
theorem dX2_keepWaiting_21 : decode cX2_keepWaiting 21 = .ok (.iastore, 1) := by decide +kernel
theorem dX2_keepWaiting_22 : decode cX2_keepWaiting 22 = .ok (.aload_n 0, 1) := by decide +kernel
theorem dX2_keepWaiting_23 : decode cX2_keepWaiting 23 = .ok (.dup, 1) := by decide +kernel
theorem dX2_keepWaiting_24 : decode cX2_keepWaiting 24 = .ok (.getfield 92, 3) := by decide +kernel
theorem dX2_keepWaiting_27 : decode cX2_keepWaiting 27 = .ok (.iconst 1, 1) := by decide +kernel
theorem dX2_keepWaiting_28 : decode cX2_keepWaiting 28 = .ok (.iadd, 1) := by decide +kernel
theorem dX2_keepWaiting_29 : decode cX2_keepWaiting 29 = .ok (.putfield 92, 3) := by decide +kernel
theorem dX2_keepWaiting_32 : decode cX2_keepWaiting 32 = .ok (.return_, 1) := by decide +kernel
theorem dX2_settle_0 : decode cX2_settle 0 = .ok (.aload_n 0, 1) := by decide +kernel
theorem dX2_settle_1 : decode cX2_settle 1 = .ok (.getfield 92, 3) := by decide +kernel
theorem dX2_settle_4 : decode cX2_settle 4 = .ok (.ifCond .le 82, 3) := by decide +kernel
theorem dX2_settle_7 : decode cX2_settle 7 = .ok (.getstatic 149, 3) := by decide +kernel
theorem dX2_settle_10 : decode cX2_settle 10 = .ok (.aload_n 0, 1) := by decide +kernel
theorem dX2_settle_11 : decode cX2_settle 11 = .ok (.getfield 11, 3) := by decide +kernel
theorem dX2_settle_14 : decode cX2_settle 14 = .ok (.aload_n 0, 1) := by decide +kernel
theorem dX2_settle_15 : decode cX2_settle 15 = .ok (.getfield 92, 3) := by decide +kernel
theorem dX2_settle_18 : decode cX2_settle 18 = .ok (.iconst 1, 1) := by decide +kernel
theorem dX2_settle_19 : decode cX2_settle 19 = .ok (.isub, 1) := by decide +kernel
theorem dX2_settle_20 : decode cX2_settle 20 = .ok (.iaload, 1) := by decide +kernel
theorem dX2_settle_21 : decode cX2_settle 21 = .ok (.iaload, 1) := by decide +kernel
theorem dX2_settle_22 : decode cX2_settle 22 = .ok (.iload_n 1, 1) := by decide +kernel
theorem dX2_settle_23 : decode cX2_settle 23 = .ok (.if_icmp .lt 63, 3) := by decide +kernel
theorem dX2_settle_26 : decode cX2_settle 26 = .ok (.aload_n 0, 1) := by decide +kernel
theorem dX2_settle_27 : decode cX2_settle 27 = .ok (.dup, 1) := by decide +kernel
theorem dX2_settle_28 : decode cX2_settle 28 = .ok (.getfield 92, 3) := by decide +kernel
theorem dX2_settle_31 : decode cX2_settle 31 = .ok (.iconst 1, 1) := by decide +kernel
theorem dX2_settle_32 : decode cX2_settle 32 = .ok (.isub, 1) := by decide +kernel
theorem dX2_settle_33 : decode cX2_settle 33 = .ok (.putfield 92, 3) := by decide +kernel
theorem dX2_settle_36 : decode cX2_settle 36 = .ok (.aload_n 0, 1) := by decide +kernel
theorem dX2_settle_37 : decode cX2_settle 37 = .ok (.getfield 11, 3) := by decide +kernel
theorem dX2_settle_40 : decode cX2_settle 40 = .ok (.aload_n 0, 1) := by decide +kernel
theorem dX2_settle_41 : decode cX2_settle 41 = .ok (.getfield 92, 3) := by decide +kernel
theorem dX2_settle_44 : decode cX2_settle 44 = .ok (.iaload, 1) := by decide +kernel
theorem dX2_settle_45 : decode cX2_settle 45 = .ok (.istore_n 2, 1) := by decide +kernel
theorem dX2_settle_46 : decode cX2_settle 46 = .ok (.aload_n 0, 1) := by decide +kernel
theorem dX2_settle_47 : decode cX2_settle 47 = .ok (.getfield 26, 3) := by decide +kernel
theorem dX2_settle_50 : decode cX2_settle 50 = .ok (.sipush 20000, 3) := by decide +kernel
theorem dX2_settle_53 : decode cX2_settle 53 = .ok (.iload_n 2, 1) := by decide +kernel
theorem dX2_settle_54 : decode cX2_settle 54 = .ok (.iadd, 1) := by decide +kernel
theorem dX2_settle_55 : decode cX2_settle 55 = .ok (.invokevirtual 137, 3) := by decide +kernel
theorem dX2_settle_58 : decode cX2_settle 58 = .ok (.aload_n 0, 1) := by decide +kernel
theorem dX2_settle_59 : decode cX2_settle 59 = .ok (.dup, 1) := by decide +kernel
theorem dX2_settle_60 : decode cX2_settle 60 = .ok (.getfield 95, 3) := by decide +kernel
theorem dX2_settle_63 : decode cX2_settle 63 = .ok (.iload_n 2, 1) := by decide +kernel
theorem dX2_settle_64 : decode cX2_settle 64 = .ok (.bipush 14, 2) := by decide +kernel
theorem dX2_settle_66 : decode cX2_settle 66 = .ok (.if_icmp .eq 8, 3) := by decide +kernel
theorem dX2_settle_69 : decode cX2_settle 69 = .ok (.iload_n 2, 1) := by decide +kernel
theorem dX2_settle_70 : decode cX2_settle 70 = .ok (.iconst 3, 1) := by decide +kernel
theorem dX2_settle_71 : decode cX2_settle 71 = .ok (.if_icmp .ne 7, 3) := by decide +kernel
theorem dX2_settle_74 : decode cX2_settle 74 = .ok (.iconst 1, 1) := by decide +kernel
theorem dX2_settle_75 : decode cX2_settle 75 = .ok (.goto 4, 3) := by decide +kernel
theorem dX2_settle_78 : decode cX2_settle 78 = .ok (.iconst 0, 1) := by decide +kernel
theorem dX2_settle_79 : decode cX2_settle 79 = .ok (.isub, 1) := by decide +kernel
theorem dX2_settle_80 : decode cX2_settle 80 = .ok (.putfield 95, 3) := by decide +kernel
theorem dX2_settle_83 : decode cX2_settle 83 = .ok (.goto (-83), 3) := by decide +kernel
theorem dX2_settle_86 : decode cX2_settle 86 = .ok (.return_, 1) := by decide +kernel
theorem dX3_init_0 : decode cX3_init 0 = .ok (.aload_n 0, 1) := by decide +kernel
theorem dX3_init_1 : decode cX3_init 1 = .ok (.invokespecial 3, 3) := by decide +kernel
theorem dX3_init_4 : decode cX3_init 4 = .ok (.return_, 1) := by decide +kernel
theorem dX3_copyFrom_0 : decode cX3_copyFrom 0 = .ok (.aload_n 0, 1) := by decide +kernel
theorem dX3_copyFrom_1 : decode cX3_copyFrom 1 = .ok (.aload_n 1, 1) := by decide +kernel
theorem dX3_copyFrom_2 : decode cX3_copyFrom 2 = .ok (.invokevirtual 9, 3) := by decide +kernel
theorem dX3_copyFrom_5 : decode cX3_copyFrom 5 = .ok (.aload_n 0, 1) := by decide +kernel
theorem dX3_copyFrom_6 : decode cX3_copyFrom 6 = .ok (.aload_n 1, 1) := by decide +kernel
theorem dX3_copyFrom_7 : decode cX3_copyFrom 7 = .ok (.getfield 15, 3) := by decide +kernel
theorem dX3_copyFrom_10 : decode cX3_copyFrom 10 = .ok (.putfield 15, 3) := by decide +kernel
theorem dX3_copyFrom_13 : decode cX3_copyFrom 13 = .ok (.aload_n 0, 1) := by decide +kernel
theorem dX3_copyFrom_14 : decode cX3_copyFrom 14 = .ok (.aload_n 1, 1) := by decide +kernel
theorem dX3_copyFrom_15 : decode cX3_copyFrom 15 = .ok (.getfield 19, 3) := by decide +kernel
theorem dX3_copyFrom_18 : decode cX3_copyFrom 18 = .ok (.putfield 19, 3) := by decide +kernel
theorem dX3_copyFrom_21 : decode cX3_copyFrom 21 = .ok (.aload_n 0, 1) := by decide +kernel
theorem dX3_copyFrom_22 : decode cX3_copyFrom 22 = .ok (.aload_n 1, 1) := by decide +kernel
theorem dX3_copyFrom_23 : decode cX3_copyFrom 23 = .ok (.getfield 22, 3) := by decide +kernel
theorem dX3_copyFrom_26 : decode cX3_copyFrom 26 = .ok (.putfield 22, 3) := by decide +kernel
theorem dX3_copyFrom_29 : decode cX3_copyFrom 29 = .ok (.aload_n 0, 1) := by decide +kernel
theorem dX3_copyFrom_30 : decode cX3_copyFrom 30 = .ok (.aload_n 1, 1) := by decide +kernel
theorem dX3_copyFrom_31 : decode cX3_copyFrom 31 = .ok (.getfield 25, 3) := by decide +kernel
theorem dX3_copyFrom_34 : decode cX3_copyFrom 34 = .ok (.putfield 25, 3) := by decide +kernel
theorem dX3_copyFrom_37 : decode cX3_copyFrom 37 = .ok (.return_, 1) := by decide +kernel
theorem dX3_agrees_0 : decode cX3_agrees 0 = .ok (.aload_n 0, 1) := by decide +kernel
theorem dX3_agrees_1 : decode cX3_agrees 1 = .ok (.getfield 15, 3) := by decide +kernel
theorem dX3_agrees_4 : decode cX3_agrees 4 = .ok (.ifCond .ne 15, 3) := by decide +kernel
theorem dX3_agrees_7 : decode cX3_agrees 7 = .ok (.aload_n 0, 1) := by decide +kernel
theorem dX3_agrees_8 : decode cX3_agrees 8 = .ok (.getfield 22, 3) := by decide +kernel
theorem dX3_agrees_11 : decode cX3_agrees 11 = .ok (.aload_n 0, 1) := by decide +kernel
theorem dX3_agrees_12 : decode cX3_agrees 12 = .ok (.getfield 28, 3) := by decide +kernel
theorem dX3_agrees_15 : decode cX3_agrees 15 = .ok (.iadd, 1) := by decide +kernel
theorem dX3_agrees_16 : decode cX3_agrees 16 = .ok (.goto 7, 3) := by decide +kernel
theorem dX3_agrees_19 : decode cX3_agrees 19 = .ok (.aload_n 0, 1) := by decide +kernel
theorem dX3_agrees_20 : decode cX3_agrees 20 = .ok (.getfield 22, 3) := by decide +kernel
theorem dX3_agrees_23 : decode cX3_agrees 23 = .ok (.istore_n 3, 1) := by decide +kernel
theorem dX3_agrees_24 : decode cX3_agrees 24 = .ok (.aload_n 0, 1) := by decide +kernel
theorem dX3_agrees_25 : decode cX3_agrees 25 = .ok (.getfield 15, 3) := by decide +kernel
theorem dX3_agrees_28 : decode cX3_agrees 28 = .ok (.iconst 1, 1) := by decide +kernel
theorem dX3_agrees_29 : decode cX3_agrees 29 = .ok (.if_icmp .ne 15, 3) := by decide +kernel
theorem dX3_agrees_32 : decode cX3_agrees 32 = .ok (.aload_n 0, 1) := by decide +kernel
theorem dX3_agrees_33 : decode cX3_agrees 33 = .ok (.getfield 25, 3) := by decide +kernel
theorem dX3_agrees_36 : decode cX3_agrees 36 = .ok (.aload_n 0, 1) := by decide +kernel
theorem dX3_agrees_37 : decode cX3_agrees 37 = .ok (.getfield 28, 3) := by decide +kernel
theorem dX3_agrees_40 : decode cX3_agrees 40 = .ok (.iadd, 1) := by decide +kernel
theorem dX3_agrees_41 : decode cX3_agrees 41 = .ok (.goto 7, 3) := by decide +kernel
theorem dX3_agrees_44 : decode cX3_agrees 44 = .ok (.aload_n 0, 1) := by decide +kernel
theorem dX3_agrees_45 : decode cX3_agrees 45 = .ok (.getfield 25, 3) := by decide +kernel
theorem dX3_agrees_48 : decode cX3_agrees 48 = .ok (.istore 4, 2) := by decide +kernel
theorem dX3_agrees_50 : decode cX3_agrees 50 = .ok (.iload_n 1, 1) := by decide +kernel
theorem dX3_agrees_51 : decode cX3_agrees 51 = .ok (.iload_n 3, 1) := by decide +kernel
theorem dX3_agrees_52 : decode cX3_agrees 52 = .ok (.imul, 1) := by decide +kernel
theorem dX3_agrees_53 : decode cX3_agrees 53 = .ok (.iload_n 2, 1) := by decide +kernel
theorem dX3_agrees_54 : decode cX3_agrees 54 = .ok (.iload 4, 2) := by decide +kernel
theorem dX3_agrees_56 : decode cX3_agrees 56 = .ok (.imul, 1) := by decide +kernel
theorem dX3_agrees_57 : decode cX3_agrees 57 = .ok (.isub, 1) := by decide +kernel
theorem dX3_agrees_58 : decode cX3_agrees 58 = .ok (.aload_n 0, 1) := by decide +kernel
theorem dX3_agrees_59 : decode cX3_agrees 59 = .ok (.getfield 31, 3) := by decide +kernel
theorem dX3_agrees_62 : decode cX3_agrees 62 = .ok (.bipush 10, 2) := by decide +kernel
theorem dX3_agrees_64 : decode cX3_agrees 64 = .ok (.imul, 1) := by decide +kernel
theorem dX3_agrees_65 : decode cX3_agrees 65 = .ok (.iadd, 1) := by decide +kernel
theorem dX3_agrees_66 : decode cX3_agrees 66 = .ok (.istore 5, 2) := by decide +kernel
theorem dX3_agrees_68 : decode cX3_agrees 68 = .ok (.iload 5, 2) := by decide +kernel
theorem dX3_agrees_70 : decode cX3_agrees 70 = .ok (.aload_n 0, 1) := by decide +kernel
theorem dX3_agrees_71 : decode cX3_agrees 71 = .ok (.getfield 34, 3) := by decide +kernel
theorem dX3_agrees_74 : decode cX3_agrees 74 = .ok (.invokestatic 37, 3) := by decide +kernel
theorem dX3_agrees_77 : decode cX3_agrees 77 = .ok (.aload_n 0, 1) := by decide +kernel
theorem dX3_agrees_78 : decode cX3_agrees 78 = .ok (.getfield 19, 3) := by decide +kernel
theorem dX3_agrees_81 : decode cX3_agrees 81 = .ok (.if_icmp .ne 7, 3) := by decide +kernel
theorem dX3_agrees_84 : decode cX3_agrees 84 = .ok (.iconst 1, 1) := by decide +kernel
theorem dX3_agrees_85 : decode cX3_agrees 85 = .ok (.goto 4, 3) := by decide +kernel
theorem dX3_agrees_88 : decode cX3_agrees 88 = .ok (.iconst 0, 1) := by decide +kernel
theorem dX3_agrees_89 : decode cX3_agrees 89 = .ok (.ireturn, 1) := by decide +kernel
theorem dX4_init_0 : decode cX4_init 0 = .ok (.aload_n 0, 1) := by decide +kernel
theorem dX4_init_1 : decode cX4_init 1 = .ok (.invokespecial 3, 3) := by decide +kernel
theorem dX4_init_4 : decode cX4_init 4 = .ok (.aload_n 0, 1) := by decide +kernel
theorem dX4_init_5 : decode cX4_init 5 = .ok (.bipush 11, 2) := by decide +kernel
theorem dX4_init_7 : decode cX4_init 7 = .ok (.newarray .int, 2) := by decide +kernel
theorem dX4_init_9 : decode cX4_init 9 = .ok (.putfield 9, 3) := by decide +kernel
theorem dX4_init_12 : decode cX4_init 12 = .ok (.aload_n 0, 1) := by decide +kernel
theorem dX4_init_13 : decode cX4_init 13 = .ok (.bipush 22, 2) := by decide +kernel
theorem dX4_init_15 : decode cX4_init 15 = .ok (.newarray .int, 2) := by decide +kernel
theorem dX4_init_17 : decode cX4_init 17 = .ok (.putfield 15, 3) := by decide +kernel
theorem dX4_init_20 : decode cX4_init 20 = .ok (.return_, 1) := by decide +kernel
theorem dX4_setAir_0 : decode cX4_setAir 0 = .ok (.aload_n 0, 1) := by decide +kernel
theorem dX4_setAir_1 : decode cX4_setAir 1 = .ok (.getfield 9, 3) := by decide +kernel
theorem dX4_setAir_4 : decode cX4_setAir 4 = .ok (.iconst 0, 1) := by decide +kernel
theorem dX4_setAir_5 : decode cX4_setAir 5 = .ok (.iload_n 1, 1) := by decide +kernel
theorem dX4_setAir_6 : decode cX4_setAir 6 = .ok (.iastore, 1) := by decide +kernel
theorem dX4_setAir_7 : decode cX4_setAir 7 = .ok (.aload_n 0, 1) := by decide +kernel
theorem dX4_setAir_8 : decode cX4_setAir 8 = .ok (.getfield 9, 3) := by decide +kernel
theorem dX4_setAir_11 : decode cX4_setAir 11 = .ok (.iconst 1, 1) := by decide +kernel
theorem dX4_setAir_12 : decode cX4_setAir 12 = .ok (.iload_n 2, 1) := by decide +kernel
theorem dX4_setAir_13 : decode cX4_setAir 13 = .ok (.iastore, 1) := by decide +kernel
theorem dX4_setAir_14 : decode cX4_setAir 14 = .ok (.aload_n 0, 1) := by decide +kernel
theorem dX4_setAir_15 : decode cX4_setAir 15 = .ok (.getfield 9, 3) := by decide +kernel
theorem dX4_setAir_18 : decode cX4_setAir 18 = .ok (.iconst 2, 1) := by decide +kernel
theorem dX4_setAir_19 : decode cX4_setAir 19 = .ok (.iload_n 3, 1) := by decide +kernel
theorem dX4_setAir_20 : decode cX4_setAir 20 = .ok (.iastore, 1) := by decide +kernel
theorem dX4_setAir_21 : decode cX4_setAir 21 = .ok (.return_, 1) := by decide +kernel
theorem dX4_weigh_0 : decode cX4_weigh 0 = .ok (.iconst 0, 1) := by decide +kernel
theorem dX4_weigh_1 : decode cX4_weigh 1 = .ok (.istore 4, 2) := by decide +kernel
theorem dX4_weigh_3 : decode cX4_weigh 3 = .ok (.iconst 0, 1) := by decide +kernel
theorem dX4_weigh_4 : decode cX4_weigh 4 = .ok (.istore 5, 2) := by decide +kernel
theorem dX4_weigh_6 : decode cX4_weigh 6 = .ok (.iconst 0, 1) := by decide +kernel
theorem dX4_weigh_7 : decode cX4_weigh 7 = .ok (.istore 6, 2) := by decide +kernel
theorem dX4_weigh_9 : decode cX4_weigh 9 = .ok (.iload 6, 2) := by decide +kernel
theorem dX4_weigh_11 : decode cX4_weigh 11 = .ok (.aload_n 1, 1) := by decide +kernel
theorem dX4_weigh_12 : decode cX4_weigh 12 = .ok (.getfield 18, 3) := by decide +kernel
theorem dX4_weigh_15 : decode cX4_weigh 15 = .ok (.if_icmp .ge 92, 3) := by decide +kernel
theorem dX4_weigh_18 : decode cX4_weigh 18 = .ok (.iload_n 2, 1) := by decide +kernel
theorem dX4_weigh_19 : decode cX4_weigh 19 = .ok (.iload 6, 2) := by decide +kernel
theorem dX4_weigh_21 : decode cX4_weigh 21 = .ok (.ishr, 1) := by decide +kernel
theorem dX4_weigh_22 : decode cX4_weigh 22 = .ok (.iconst 1, 1) := by decide +kernel
theorem dX4_weigh_23 : decode cX4_weigh 23 = .ok (.iand, 1) := by decide +kernel
theorem dX4_weigh_24 : decode cX4_weigh 24 = .ok (.iconst 1, 1) := by decide +kernel
theorem dX4_weigh_25 : decode cX4_weigh 25 = .ok (.if_icmp .ne 36, 3) := by decide +kernel
theorem dX4_weigh_28 : decode cX4_weigh 28 = .ok (.iload 4, 2) := by decide +kernel
theorem dX4_weigh_30 : decode cX4_weigh 30 = .ok (.aload_n 0, 1) := by decide +kernel
theorem dX4_weigh_31 : decode cX4_weigh 31 = .ok (.aload_n 1, 1) := by decide +kernel
theorem dX4_weigh_32 : decode cX4_weigh 32 = .ok (.getfield 24, 3) := by decide +kernel
theorem dX4_weigh_35 : decode cX4_weigh 35 = .ok (.iload 6, 2) := by decide +kernel
theorem dX4_weigh_37 : decode cX4_weigh 37 = .ok (.aload_n 1, 1) := by decide +kernel
theorem dX4_weigh_38 : decode cX4_weigh 38 = .ok (.getfield 28, 3) := by decide +kernel
theorem dX4_weigh_41 : decode cX4_weigh 41 = .ok (.iload 6, 2) := by decide +kernel
theorem dX4_weigh_43 : decode cX4_weigh 43 = .ok (.iaload, 1) := by decide +kernel
theorem dX4_weigh_44 : decode cX4_weigh 44 = .ok (.aload_n 1, 1) := by decide +kernel
theorem dX4_weigh_45 : decode cX4_weigh 45 = .ok (.getfield 31, 3) := by decide +kernel
theorem dX4_weigh_48 : decode cX4_weigh 48 = .ok (.iload 6, 2) := by decide +kernel
theorem dX4_weigh_50 : decode cX4_weigh 50 = .ok (.iaload, 1) := by decide +kernel
theorem dX4_weigh_51 : decode cX4_weigh 51 = .ok (.iconst 0, 1) := by decide +kernel
theorem dX4_weigh_52 : decode cX4_weigh 52 = .ok (.invokevirtual 34, 3) := by decide +kernel
theorem dX4_weigh_55 : decode cX4_weigh 55 = .ok (.iadd, 1) := by decide +kernel
theorem dX4_weigh_56 : decode cX4_weigh 56 = .ok (.istore 4, 2) := by decide +kernel
theorem dX4_weigh_58 : decode cX4_weigh 58 = .ok (.goto 43, 3) := by decide +kernel
theorem dX4_weigh_61 : decode cX4_weigh 61 = .ok (.iload_n 3, 1) := by decide +kernel
theorem dX4_weigh_62 : decode cX4_weigh 62 = .ok (.iload 6, 2) := by decide +kernel
theorem dX4_weigh_64 : decode cX4_weigh 64 = .ok (.ishr, 1) := by decide +kernel
theorem dX4_weigh_65 : decode cX4_weigh 65 = .ok (.iconst 1, 1) := by decide +kernel
theorem dX4_weigh_66 : decode cX4_weigh 66 = .ok (.iand, 1) := by decide +kernel
theorem dX4_weigh_67 : decode cX4_weigh 67 = .ok (.iconst 1, 1) := by decide +kernel
theorem dX4_weigh_68 : decode cX4_weigh 68 = .ok (.if_icmp .ne 33, 3) := by decide +kernel
theorem dX4_weigh_71 : decode cX4_weigh 71 = .ok (.iload 5, 2) := by decide +kernel
theorem dX4_weigh_73 : decode cX4_weigh 73 = .ok (.aload_n 0, 1) := by decide +kernel
theorem dX4_weigh_74 : decode cX4_weigh 74 = .ok (.aload_n 1, 1) := by decide +kernel
theorem dX4_weigh_75 : decode cX4_weigh 75 = .ok (.getfield 24, 3) := by decide +kernel
theorem dX4_weigh_78 : decode cX4_weigh 78 = .ok (.iload 6, 2) := by decide +kernel
theorem dX4_weigh_80 : decode cX4_weigh 80 = .ok (.aload_n 1, 1) := by decide +kernel
theorem dX4_weigh_81 : decode cX4_weigh 81 = .ok (.getfield 28, 3) := by decide +kernel
theorem dX4_weigh_84 : decode cX4_weigh 84 = .ok (.iload 6, 2) := by decide +kernel
theorem dX4_weigh_86 : decode cX4_weigh 86 = .ok (.iaload, 1) := by decide +kernel
theorem dX4_weigh_87 : decode cX4_weigh 87 = .ok (.aload_n 1, 1) := by decide +kernel
theorem dX4_weigh_88 : decode cX4_weigh 88 = .ok (.getfield 31, 3) := by decide +kernel
theorem dX4_weigh_91 : decode cX4_weigh 91 = .ok (.iload 6, 2) := by decide +kernel
theorem dX4_weigh_93 : decode cX4_weigh 93 = .ok (.iaload, 1) := by decide +kernel
theorem dX4_weigh_94 : decode cX4_weigh 94 = .ok (.iconst 1, 1) := by decide +kernel
theorem dX4_weigh_95 : decode cX4_weigh 95 = .ok (.invokevirtual 34, 3) := by decide +kernel
theorem dX4_weigh_98 : decode cX4_weigh 98 = .ok (.iadd, 1) := by decide +kernel
theorem dX4_weigh_99 : decode cX4_weigh 99 = .ok (.istore 5, 2) := by decide +kernel
theorem dX4_weigh_101 : decode cX4_weigh 101 = .ok (.iinc 6 1, 3) := by decide +kernel
theorem dX4_weigh_104 : decode cX4_weigh 104 = .ok (.goto (-95), 3) := by decide +kernel
theorem dX4_weigh_107 : decode cX4_weigh 107 = .ok (.aload_n 0, 1) := by decide +kernel
theorem dX4_weigh_108 : decode cX4_weigh 108 = .ok (.aload_n 1, 1) := by decide +kernel
theorem dX4_weigh_109 : decode cX4_weigh 109 = .ok (.iload 4, 2) := by decide +kernel
theorem dX4_weigh_111 : decode cX4_weigh 111 = .ok (.iload 5, 2) := by decide +kernel
theorem dX4_weigh_113 : decode cX4_weigh 113 = .ok (.invokevirtual 38, 3) := by decide +kernel
theorem dX4_weigh_116 : decode cX4_weigh 116 = .ok (.return_, 1) := by decide +kernel
theorem dX4_hang_0 : decode cX4_hang 0 = .ok (.aload_n 0, 1) := by decide +kernel
theorem dX4_hang_1 : decode cX4_hang 1 = .ok (.iload_n 2, 1) := by decide +kernel
theorem dX4_hang_2 : decode cX4_hang 2 = .ok (.putfield 42, 3) := by decide +kernel
theorem dX4_hang_5 : decode cX4_hang 5 = .ok (.aload_n 0, 1) := by decide +kernel
theorem dX4_hang_6 : decode cX4_hang 6 = .ok (.iload_n 3, 1) := by decide +kernel
theorem dX4_hang_7 : decode cX4_hang 7 = .ok (.putfield 45, 3) := by decide +kernel
theorem dX4_hang_10 : decode cX4_hang 10 = .ok (.aload_n 0, 1) := by decide +kernel
theorem dX4_hang_11 : decode cX4_hang 11 = .ok (.aload_n 1, 1) := by decide +kernel
theorem dX4_hang_12 : decode cX4_hang 12 = .ok (.getfield 48, 3) := by decide +kernel
theorem dX4_hang_15 : decode cX4_hang 15 = .ok (.aload_n 0, 1) := by decide +kernel
theorem dX4_hang_16 : decode cX4_hang 16 = .ok (.getfield 42, 3) := by decide +kernel
theorem dX4_hang_19 : decode cX4_hang 19 = .ok (.imul, 1) := by decide +kernel
theorem dX4_hang_20 : decode cX4_hang 20 = .ok (.aload_n 1, 1) := by decide +kernel
theorem dX4_hang_21 : decode cX4_hang 21 = .ok (.getfield 51, 3) := by decide +kernel
theorem dX4_hang_24 : decode cX4_hang 24 = .ok (.aload_n 0, 1) := by decide +kernel
theorem dX4_hang_25 : decode cX4_hang 25 = .ok (.getfield 45, 3) := by decide +kernel
theorem dX4_hang_28 : decode cX4_hang 28 = .ok (.imul, 1) := by decide +kernel
theorem dX4_hang_29 : decode cX4_hang 29 = .ok (.isub, 1) := by decide +kernel
theorem dX4_hang_30 : decode cX4_hang 30 = .ok (.aload_n 0, 1) := by decide +kernel
theorem dX4_hang_31 : decode cX4_hang 31 = .ok (.getfield 9, 3) := by decide +kernel
theorem dX4_hang_34 : decode cX4_hang 34 = .ok (.iconst 2, 1) := by decide +kernel
theorem dX4_hang_35 : decode cX4_hang 35 = .ok (.iaload, 1) := by decide +kernel
theorem dX4_hang_36 : decode cX4_hang 36 = .ok (.bipush 10, 2) := by decide +kernel
theorem dX4_hang_38 : decode cX4_hang 38 = .ok (.imul, 1) := by decide +kernel
theorem dX4_hang_39 : decode cX4_hang 39 = .ok (.iadd, 1) := by decide +kernel
theorem dX4_hang_40 : decode cX4_hang 40 = .ok (.putfield 54, 3) := by decide +kernel
theorem dX4_hang_43 : decode cX4_hang 43 = .ok (.return_, 1) := by decide +kernel
theorem dX4_borneOf_0 : decode cX4_borneOf 0 = .ok (.aload_n 0, 1) := by decide +kernel
theorem dX4_borneOf_1 : decode cX4_borneOf 1 = .ok (.aload_n 1, 1) := by decide +kernel
theorem dX4_borneOf_2 : decode cX4_borneOf 2 = .ok (.getfield 24, 3) := by decide +kernel
theorem dX4_borneOf_5 : decode cX4_borneOf 5 = .ok (.iload_n 2, 1) := by decide +kernel
theorem dX4_borneOf_6 : decode cX4_borneOf 6 = .ok (.aload_n 1, 1) := by decide +kernel
theorem dX4_borneOf_7 : decode cX4_borneOf 7 = .ok (.getfield 28, 3) := by decide +kernel
theorem dX4_borneOf_10 : decode cX4_borneOf 10 = .ok (.iload_n 2, 1) := by decide +kernel
theorem dX4_borneOf_11 : decode cX4_borneOf 11 = .ok (.iaload, 1) := by decide +kernel
theorem dX4_borneOf_12 : decode cX4_borneOf 12 = .ok (.aload_n 1, 1) := by decide +kernel
theorem dX4_borneOf_13 : decode cX4_borneOf 13 = .ok (.getfield 31, 3) := by decide +kernel
theorem dX4_borneOf_16 : decode cX4_borneOf 16 = .ok (.iload_n 2, 1) := by decide +kernel
theorem dX4_borneOf_17 : decode cX4_borneOf 17 = .ok (.iaload, 1) := by decide +kernel
theorem dX4_borneOf_18 : decode cX4_borneOf 18 = .ok (.iload_n 3, 1) := by decide +kernel
theorem dX4_borneOf_19 : decode cX4_borneOf 19 = .ok (.invokevirtual 34, 3) := by decide +kernel
theorem dX4_borneOf_22 : decode cX4_borneOf 22 = .ok (.ireturn, 1) := by decide +kernel
theorem dX4_borne_0 : decode cX4_borne 0 = .ok (.aload_n 1, 1) := by decide +kernel
theorem dX4_borne_1 : decode cX4_borne 1 = .ok (.ifnull 11, 3) := by decide +kernel
theorem dX4_borne_4 : decode cX4_borne 4 = .ok (.aload_n 1, 1) := by decide +kernel
theorem dX4_borne_5 : decode cX4_borne 5 = .ok (.getfield 57, 3) := by decide +kernel
theorem dX4_borne_8 : decode cX4_borne 8 = .ok (.iconst (-1), 1) := by decide +kernel
theorem dX4_borne_9 : decode cX4_borne 9 = .ok (.if_icmp .ne 5, 3) := by decide +kernel
theorem dX4_borne_12 : decode cX4_borne 12 = .ok (.iload_n 3, 1) := by decide +kernel
theorem dX4_borne_13 : decode cX4_borne 13 = .ok (.ireturn, 1) := by decide +kernel
theorem dX4_borne_14 : decode cX4_borne 14 = .ok (.aload_n 0, 1) := by decide +kernel
theorem dX4_borne_15 : decode cX4_borne 15 = .ok (.getfield 9, 3) := by decide +kernel
theorem dX4_borne_18 : decode cX4_borne 18 = .ok (.iconst 3, 1) := by decide +kernel
theorem dX4_borne_19 : decode cX4_borne 19 = .ok (.iload_n 2, 1) := by decide +kernel
theorem dX4_borne_20 : decode cX4_borne 20 = .ok (.iastore, 1) := by decide +kernel
theorem dX4_borne_21 : decode cX4_borne 21 = .ok (.aload_n 0, 1) := by decide +kernel
theorem dX4_borne_22 : decode cX4_borne 22 = .ok (.getfield 9, 3) := by decide +kernel
theorem dX4_borne_25 : decode cX4_borne 25 = .ok (.iconst 4, 1) := by decide +kernel
theorem dX4_borne_26 : decode cX4_borne 26 = .ok (.iload_n 3, 1) := by decide +kernel
theorem dX4_borne_27 : decode cX4_borne 27 = .ok (.iastore, 1) := by decide +kernel
theorem dX4_borne_28 : decode cX4_borne 28 = .ok (.aload_n 0, 1) := by decide +kernel
theorem dX4_borne_29 : decode cX4_borne 29 = .ok (.getfield 9, 3) := by decide +kernel
theorem dX4_borne_32 : decode cX4_borne 32 = .ok (.iconst 5, 1) := by decide +kernel
theorem dX4_borne_33 : decode cX4_borne 33 = .ok (.iload 4, 2) := by decide +kernel
theorem dX4_borne_35 : decode cX4_borne 35 = .ok (.iastore, 1) := by decide +kernel
theorem dX4_borne_36 : decode cX4_borne 36 = .ok (.aload_n 0, 1) := by decide +kernel
theorem dX4_borne_37 : decode cX4_borne 37 = .ok (.getfield 9, 3) := by decide +kernel
theorem dX4_borne_40 : decode cX4_borne 40 = .ok (.bipush 6, 2) := by decide +kernel
theorem dX4_borne_42 : decode cX4_borne 42 = .ok (.iload 5, 2) := by decide +kernel
theorem dX4_borne_44 : decode cX4_borne 44 = .ok (.iastore, 1) := by decide +kernel
theorem dX4_borne_45 : decode cX4_borne 45 = .ok (.aload_n 0, 1) := by decide +kernel
theorem dX4_borne_46 : decode cX4_borne 46 = .ok (.aload_n 1, 1) := by decide +kernel
theorem dX4_borne_47 : decode cX4_borne 47 = .ok (.getfield 62, 3) := by decide +kernel
theorem dX4_borne_50 : decode cX4_borne 50 = .ok (.aload_n 1, 1) := by decide +kernel
theorem dX4_borne_51 : decode cX4_borne 51 = .ok (.getfield 57, 3) := by decide +kernel
theorem dX4_borne_54 : decode cX4_borne 54 = .ok (.aload_n 1, 1) := by decide +kernel
theorem dX4_borne_55 : decode cX4_borne 55 = .ok (.getfield 65, 3) := by decide +kernel
theorem dX4_borne_58 : decode cX4_borne 58 = .ok (.invokevirtual 68, 3) := by decide +kernel
theorem dX4_borne_61 : decode cX4_borne 61 = .ok (.istore 6, 2) := by decide +kernel
theorem dX4_borne_63 : decode cX4_borne 63 = .ok (.iload 6, 2) := by decide +kernel
theorem dX4_borne_65 : decode cX4_borne 65 = .ok (.ifCond .ge 7, 3) := by decide +kernel
theorem dX4_borne_68 : decode cX4_borne 68 = .ok (.iconst 0, 1) := by decide +kernel
theorem dX4_borne_69 : decode cX4_borne 69 = .ok (.goto 19, 3) := by decide +kernel
theorem dX4_borne_72 : decode cX4_borne 72 = .ok (.iload 6, 2) := by decide +kernel
theorem dX4_borne_74 : decode cX4_borne 74 = .ok (.sipush 9999, 3) := by decide +kernel
theorem dX4_borne_77 : decode cX4_borne 77 = .ok (.if_icmp .le 9, 3) := by decide +kernel
theorem dX4_borne_80 : decode cX4_borne 80 = .ok (.sipush 9999, 3) := by decide +kernel
theorem dX4_borne_83 : decode cX4_borne 83 = .ok (.goto 5, 3) := by decide +kernel
theorem dX4_borne_86 : decode cX4_borne 86 = .ok (.iload 6, 2) := by decide +kernel
theorem dX4_borne_88 : decode cX4_borne 88 = .ok (.ireturn, 1) := by decide +kernel
theorem dX4_isSafe_0 : decode cX4_isSafe 0 = .ok (.aload_n 1, 1) := by decide +kernel
theorem dX4_isSafe_1 : decode cX4_isSafe 1 = .ok (.ifnull 11, 3) := by decide +kernel
theorem dX4_isSafe_4 : decode cX4_isSafe 4 = .ok (.aload_n 1, 1) := by decide +kernel
theorem dX4_isSafe_5 : decode cX4_isSafe 5 = .ok (.getfield 72, 3) := by decide +kernel
theorem dX4_isSafe_8 : decode cX4_isSafe 8 = .ok (.iconst (-1), 1) := by decide +kernel
theorem dX4_isSafe_9 : decode cX4_isSafe 9 = .ok (.if_icmp .ne 5, 3) := by decide +kernel
theorem dX4_isSafe_12 : decode cX4_isSafe 12 = .ok (.iconst 1, 1) := by decide +kernel
theorem dX4_isSafe_13 : decode cX4_isSafe 13 = .ok (.ireturn, 1) := by decide +kernel
theorem dX4_isSafe_14 : decode cX4_isSafe 14 = .ok (.aload_n 0, 1) := by decide +kernel
theorem dX4_isSafe_15 : decode cX4_isSafe 15 = .ok (.getfield 9, 3) := by decide +kernel
theorem dX4_isSafe_18 : decode cX4_isSafe 18 = .ok (.bipush 7, 2) := by decide +kernel
theorem dX4_isSafe_20 : decode cX4_isSafe 20 = .ok (.aload_n 0, 1) := by decide +kernel
theorem dX4_isSafe_21 : decode cX4_isSafe 21 = .ok (.getfield 42, 3) := by decide +kernel
theorem dX4_isSafe_24 : decode cX4_isSafe 24 = .ok (.iastore, 1) := by decide +kernel
theorem dX4_isSafe_25 : decode cX4_isSafe 25 = .ok (.aload_n 0, 1) := by decide +kernel
theorem dX4_isSafe_26 : decode cX4_isSafe 26 = .ok (.getfield 9, 3) := by decide +kernel
theorem dX4_isSafe_29 : decode cX4_isSafe 29 = .ok (.bipush 8, 2) := by decide +kernel
theorem dX4_isSafe_31 : decode cX4_isSafe 31 = .ok (.aload_n 0, 1) := by decide +kernel
theorem dX4_isSafe_32 : decode cX4_isSafe 32 = .ok (.getfield 45, 3) := by decide +kernel
theorem dX4_isSafe_35 : decode cX4_isSafe 35 = .ok (.iastore, 1) := by decide +kernel
theorem dX4_isSafe_36 : decode cX4_isSafe 36 = .ok (.aload_n 0, 1) := by decide +kernel
theorem dX4_isSafe_37 : decode cX4_isSafe 37 = .ok (.getfield 9, 3) := by decide +kernel
theorem dX4_isSafe_40 : decode cX4_isSafe 40 = .ok (.bipush 9, 2) := by decide +kernel
theorem dX4_isSafe_42 : decode cX4_isSafe 42 = .ok (.aload_n 0, 1) := by decide +kernel
theorem dX4_isSafe_43 : decode cX4_isSafe 43 = .ok (.getfield 54, 3) := by decide +kernel
theorem dX4_isSafe_46 : decode cX4_isSafe 46 = .ok (.i2l, 1) := by decide +kernel
theorem dX4_isSafe_47 : decode cX4_isSafe 47 = .ok (.invokestatic 75, 3) := by decide +kernel
theorem dX4_isSafe_50 : decode cX4_isSafe 50 = .ok (.iastore, 1) := by decide +kernel
theorem dX4_isSafe_51 : decode cX4_isSafe 51 = .ok (.aload_n 0, 1) := by decide +kernel
theorem dX4_isSafe_52 : decode cX4_isSafe 52 = .ok (.getfield 9, 3) := by decide +kernel
theorem dX4_isSafe_55 : decode cX4_isSafe 55 = .ok (.bipush 10, 2) := by decide +kernel
theorem dX4_isSafe_57 : decode cX4_isSafe 57 = .ok (.aload_n 0, 1) := by decide +kernel
theorem dX4_isSafe_58 : decode cX4_isSafe 58 = .ok (.getfield 54, 3) := by decide +kernel
theorem dX4_isSafe_61 : decode cX4_isSafe 61 = .ok (.invokestatic 79, 3) := by decide +kernel
theorem dX4_isSafe_64 : decode cX4_isSafe 64 = .ok (.i2l, 1) := by decide +kernel
theorem dX4_isSafe_65 : decode cX4_isSafe 65 = .ok (.invokestatic 75, 3) := by decide +kernel
theorem dX4_isSafe_68 : decode cX4_isSafe 68 = .ok (.iastore, 1) := by decide +kernel
theorem dX4_isSafe_69 : decode cX4_isSafe 69 = .ok (.aload_n 0, 1) := by decide +kernel
theorem dX4_isSafe_70 : decode cX4_isSafe 70 = .ok (.aload_n 1, 1) := by decide +kernel
theorem dX4_isSafe_71 : decode cX4_isSafe 71 = .ok (.getfield 62, 3) := by decide +kernel
theorem dX4_isSafe_74 : decode cX4_isSafe 74 = .ok (.aload_n 1, 1) := by decide +kernel
theorem dX4_isSafe_75 : decode cX4_isSafe 75 = .ok (.getfield 72, 3) := by decide +kernel
theorem dX4_isSafe_78 : decode cX4_isSafe 78 = .ok (.aload_n 1, 1) := by decide +kernel
theorem dX4_isSafe_79 : decode cX4_isSafe 79 = .ok (.getfield 85, 3) := by decide +kernel
theorem dX4_isSafe_82 : decode cX4_isSafe 82 = .ok (.invokevirtual 68, 3) := by decide +kernel
theorem dX4_isSafe_85 : decode cX4_isSafe 85 = .ok (.ifCond .eq 7, 3) := by decide +kernel
theorem dX4_isSafe_88 : decode cX4_isSafe 88 = .ok (.iconst 1, 1) := by decide +kernel
theorem dX4_isSafe_89 : decode cX4_isSafe 89 = .ok (.goto 4, 3) := by decide +kernel
theorem dX4_isSafe_92 : decode cX4_isSafe 92 = .ok (.iconst 0, 1) := by decide +kernel
theorem dX4_isSafe_93 : decode cX4_isSafe 93 = .ok (.ireturn, 1) := by decide +kernel
theorem dX4_valueOf_0 : decode cX4_valueOf 0 = .ok (.iconst (-1), 1) := by decide +kernel
theorem dX4_valueOf_1 : decode cX4_valueOf 1 = .ok (.istore 4, 2) := by decide +kernel
theorem dX4_valueOf_3 : decode cX4_valueOf 3 = .ok (.iload_n 2, 1) := by decide +kernel
theorem dX4_valueOf_4 : decode cX4_valueOf 4 = .ok (.istore 5, 2) := by decide +kernel
theorem dX4_valueOf_6 : decode cX4_valueOf 6 = .ok (.iload 5, 2) := by decide +kernel
theorem dX4_valueOf_8 : decode cX4_valueOf 8 = .ok (.iload_n 3, 1) := by decide +kernel
theorem dX4_valueOf_9 : decode cX4_valueOf 9 = .ok (.if_icmp .ge 182, 3) := by decide +kernel
theorem dX4_valueOf_12 : decode cX4_valueOf 12 = .ok (.aload_n 1, 1) := by decide +kernel
theorem dX4_valueOf_13 : decode cX4_valueOf 13 = .ok (.iload 5, 2) := by decide +kernel
theorem dX4_valueOf_15 : decode cX4_valueOf 15 = .ok (.iaload, 1) := by decide +kernel
theorem dX4_valueOf_16 : decode cX4_valueOf 16 = .ok (.istore 6, 2) := by decide +kernel
theorem dX4_valueOf_18 : decode cX4_valueOf 18 = .ok (.iload 6, 2) := by decide +kernel
theorem dX4_valueOf_20 : decode cX4_valueOf 20 = .ok (.sipush 20000, 3) := by decide +kernel
theorem dX4_valueOf_23 : decode cX4_valueOf 23 = .ok (.isub, 1) := by decide +kernel
theorem dX4_valueOf_24 : decode cX4_valueOf 24 = .ok (.istore 7, 2) := by decide +kernel
theorem dX4_valueOf_26 : decode cX4_valueOf 26 = .ok (.iload 6, 2) := by decide +kernel
theorem dX4_valueOf_28 : decode cX4_valueOf 28 = .ok (.sipush 20000, 3) := by decide +kernel
theorem dX4_valueOf_31 : decode cX4_valueOf 31 = .ok (.if_icmp .ge 52, 3) := by decide +kernel
theorem dX4_valueOf_34 : decode cX4_valueOf 34 = .ok (.iload 4, 2) := by decide +kernel
theorem dX4_valueOf_36 : decode cX4_valueOf 36 = .ok (.iconst 1, 1) := by decide +kernel
theorem dX4_valueOf_37 : decode cX4_valueOf 37 = .ok (.iadd, 1) := by decide +kernel
theorem dX4_valueOf_38 : decode cX4_valueOf 38 = .ok (.aload_n 0, 1) := by decide +kernel
theorem dX4_valueOf_39 : decode cX4_valueOf 39 = .ok (.getfield 15, 3) := by decide +kernel
theorem dX4_valueOf_42 : decode cX4_valueOf 42 = .ok (.arraylength, 1) := by decide +kernel
theorem dX4_valueOf_43 : decode cX4_valueOf 43 = .ok (.if_icmp .ge 40, 3) := by decide +kernel
theorem dX4_valueOf_46 : decode cX4_valueOf 46 = .ok (.iinc 4 1, 3) := by decide +kernel
theorem dX4_valueOf_49 : decode cX4_valueOf 49 = .ok (.aload_n 0, 1) := by decide +kernel
theorem dX4_valueOf_50 : decode cX4_valueOf 50 = .ok (.getfield 15, 3) := by decide +kernel
theorem dX4_valueOf_53 : decode cX4_valueOf 53 = .ok (.iload 4, 2) := by decide +kernel
theorem dX4_valueOf_55 : decode cX4_valueOf 55 = .ok (.iload 6, 2) := by decide +kernel
theorem dX4_valueOf_57 : decode cX4_valueOf 57 = .ok (.sipush 10000, 3) := by decide +kernel
theorem dX4_valueOf_60 : decode cX4_valueOf 60 = .ok (.if_icmp .ge 8, 3) := by decide +kernel
theorem dX4_valueOf_63 : decode cX4_valueOf 63 = .ok (.iload 6, 2) := by decide +kernel
theorem dX4_valueOf_65 : decode cX4_valueOf 65 = .ok (.goto 14, 3) := by decide +kernel
theorem dX4_valueOf_68 : decode cX4_valueOf 68 = .ok (.aload_n 0, 1) := by decide +kernel
theorem dX4_valueOf_69 : decode cX4_valueOf 69 = .ok (.getfield 9, 3) := by decide +kernel
theorem dX4_valueOf_72 : decode cX4_valueOf 72 = .ok (.iload 6, 2) := by decide +kernel
theorem dX4_valueOf_74 : decode cX4_valueOf 74 = .ok (.sipush 10000, 3) := by decide +kernel
theorem dX4_valueOf_77 : decode cX4_valueOf 77 = .ok (.isub, 1) := by decide +kernel
theorem dX4_valueOf_78 : decode cX4_valueOf 78 = .ok (.iaload, 1) := by decide +kernel
theorem dX4_valueOf_79 : decode cX4_valueOf 79 = .ok (.iastore, 1) := by decide +kernel
theorem dX4_valueOf_80 : decode cX4_valueOf 80 = .ok (.goto 105, 3) := by decide +kernel
theorem dX4_valueOf_83 : decode cX4_valueOf 83 = .ok (.iload 7, 2) := by decide +kernel
theorem dX4_valueOf_85 : decode cX4_valueOf 85 = .ok (.bipush 14, 2) := by decide +kernel
theorem dX4_valueOf_87 : decode cX4_valueOf 87 = .ok (.if_icmp .ne 26, 3) := by decide +kernel
theorem dX4_valueOf_90 : decode cX4_valueOf 90 = .ok (.iload 4, 2) := by decide +kernel
theorem dX4_valueOf_92 : decode cX4_valueOf 92 = .ok (.ifCond .lt 21, 3) := by decide +kernel
theorem dX4_valueOf_95 : decode cX4_valueOf 95 = .ok (.aload_n 0, 1) := by decide +kernel
theorem dX4_valueOf_96 : decode cX4_valueOf 96 = .ok (.getfield 15, 3) := by decide +kernel
theorem dX4_valueOf_99 : decode cX4_valueOf 99 = .ok (.iload 4, 2) := by decide +kernel
theorem dX4_valueOf_101 : decode cX4_valueOf 101 = .ok (.aload_n 0, 1) := by decide +kernel
theorem dX4_valueOf_102 : decode cX4_valueOf 102 = .ok (.getfield 15, 3) := by decide +kernel
theorem dX4_valueOf_105 : decode cX4_valueOf 105 = .ok (.iload 4, 2) := by decide +kernel
theorem dX4_valueOf_107 : decode cX4_valueOf 107 = .ok (.iaload, 1) := by decide +kernel
theorem dX4_valueOf_108 : decode cX4_valueOf 108 = .ok (.ineg, 1) := by decide +kernel
theorem dX4_valueOf_109 : decode cX4_valueOf 109 = .ok (.iastore, 1) := by decide +kernel
theorem dX4_valueOf_110 : decode cX4_valueOf 110 = .ok (.goto 75, 3) := by decide +kernel
theorem dX4_valueOf_113 : decode cX4_valueOf 113 = .ok (.iload 7, 2) := by decide +kernel
theorem dX4_valueOf_115 : decode cX4_valueOf 115 = .ok (.iconst 3, 1) := by decide +kernel
theorem dX4_valueOf_116 : decode cX4_valueOf 116 = .ok (.if_icmp .ne 27, 3) := by decide +kernel
theorem dX4_valueOf_119 : decode cX4_valueOf 119 = .ok (.iload 4, 2) := by decide +kernel
theorem dX4_valueOf_121 : decode cX4_valueOf 121 = .ok (.ifCond .lt 22, 3) := by decide +kernel
theorem dX4_valueOf_124 : decode cX4_valueOf 124 = .ok (.aload_n 0, 1) := by decide +kernel
theorem dX4_valueOf_125 : decode cX4_valueOf 125 = .ok (.getfield 15, 3) := by decide +kernel
theorem dX4_valueOf_128 : decode cX4_valueOf 128 = .ok (.iload 4, 2) := by decide +kernel
