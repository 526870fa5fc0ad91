theorem d_By_append_33 : decode prog_2_method_4_code 33 = .ok (.getfield 15, 3) := by decide +kernel
theorem d_By_append_36 : decode prog_2_method_4_code 36 = .ok (.iconst 1, 1) := by decide +kernel
theorem d_By_append_37 : decode prog_2_method_4_code 37 = .ok (.iadd, 1) := by decide +kernel
theorem d_By_append_38 : decode prog_2_method_4_code 38 = .ok (.putfield 15, 3) := by decide +kernel
theorem d_By_append_41 : decode prog_2_method_4_code 41 = .ok (.iconst 1, 1) := by decide +kernel
theorem d_By_append_42 : decode prog_2_method_4_code 42 = .ok (.ireturn, 1) := by decide +kernel
theorem d_By_shorten_0 : decode prog_2_method_5_code 0 = .ok (.aload_n 0, 1) := by decide +kernel
theorem d_By_shorten_1 : decode prog_2_method_5_code 1 = .ok (.getfield 15, 3) := by decide +kernel
theorem d_By_shorten_4 : decode prog_2_method_5_code 4 = .ok (.istore_n 2, 1) := by decide +kernel
theorem d_By_shorten_5 : decode prog_2_method_5_code 5 = .ok (.aload_n 0, 1) := by decide +kernel
theorem d_By_shorten_6 : decode prog_2_method_5_code 6 = .ok (.iconst 0, 1) := by decide +kernel
theorem d_By_shorten_7 : decode prog_2_method_5_code 7 = .ok (.iload_n 1, 1) := by decide +kernel
theorem d_By_shorten_8 : decode prog_2_method_5_code 8 = .ok (.iload_n 2, 1) := by decide +kernel
theorem d_By_shorten_9 : decode prog_2_method_5_code 9 = .ok (.invokestatic 26, 3) := by decide +kernel
theorem d_By_shorten_12 : decode prog_2_method_5_code 12 = .ok (.invokestatic 32, 3) := by decide +kernel
theorem d_By_shorten_15 : decode prog_2_method_5_code 15 = .ok (.putfield 15, 3) := by decide +kernel
theorem d_By_shorten_18 : decode prog_2_method_5_code 18 = .ok (.iload_n 2, 1) := by decide +kernel
theorem d_By_shorten_19 : decode prog_2_method_5_code 19 = .ok (.aload_n 0, 1) := by decide +kernel
theorem d_By_shorten_20 : decode prog_2_method_5_code 20 = .ok (.getfield 15, 3) := by decide +kernel
theorem d_By_shorten_23 : decode prog_2_method_5_code 23 = .ok (.isub, 1) := by decide +kernel
theorem d_By_shorten_24 : decode prog_2_method_5_code 24 = .ok (.ireturn, 1) := by decide +kernel
theorem d_By_copy_0 : decode prog_2_method_6_code 0 = .ok (.aload_n 0, 1) := by decide +kernel
theorem d_By_copy_1 : decode prog_2_method_6_code 1 = .ok (.iconst 0, 1) := by decide +kernel
theorem d_By_copy_2 : decode prog_2_method_6_code 2 = .ok (.iload_n 2, 1) := by decide +kernel
theorem d_By_copy_3 : decode prog_2_method_6_code 3 = .ok (.aload_n 1, 1) := by decide +kernel
theorem d_By_copy_4 : decode prog_2_method_6_code 4 = .ok (.arraylength, 1) := by decide +kernel
theorem d_By_copy_5 : decode prog_2_method_6_code 5 = .ok (.aload_n 0, 1) := by decide +kernel
theorem d_By_copy_6 : decode prog_2_method_6_code 6 = .ok (.getfield 9, 3) := by decide +kernel
theorem d_By_copy_9 : decode prog_2_method_6_code 9 = .ok (.arraylength, 1) := by decide +kernel
theorem d_By_copy_10 : decode prog_2_method_6_code 10 = .ok (.invokestatic 26, 3) := by decide +kernel
theorem d_By_copy_13 : decode prog_2_method_6_code 13 = .ok (.invokestatic 26, 3) := by decide +kernel
theorem d_By_copy_16 : decode prog_2_method_6_code 16 = .ok (.invokestatic 32, 3) := by decide +kernel
theorem d_By_copy_19 : decode prog_2_method_6_code 19 = .ok (.putfield 15, 3) := by decide +kernel
theorem d_By_copy_22 : decode prog_2_method_6_code 22 = .ok (.aload_n 1, 1) := by decide +kernel
theorem d_By_copy_23 : decode prog_2_method_6_code 23 = .ok (.iconst 0, 1) := by decide +kernel
theorem d_By_copy_24 : decode prog_2_method_6_code 24 = .ok (.aload_n 0, 1) := by decide +kernel
theorem d_By_copy_25 : decode prog_2_method_6_code 25 = .ok (.getfield 9, 3) := by decide +kernel
theorem d_By_copy_28 : decode prog_2_method_6_code 28 = .ok (.iconst 0, 1) := by decide +kernel
theorem d_By_copy_29 : decode prog_2_method_6_code 29 = .ok (.aload_n 0, 1) := by decide +kernel
theorem d_By_copy_30 : decode prog_2_method_6_code 30 = .ok (.getfield 15, 3) := by decide +kernel
theorem d_By_copy_33 : decode prog_2_method_6_code 33 = .ok (.invokestatic 35, 3) := by decide +kernel
theorem d_By_copy_36 : decode prog_2_method_6_code 36 = .ok (.return_, 1) := by decide +kernel
theorem d_Ch_init_0 : decode prog_3_method_1_code 0 = .ok (.aload_n 0, 1) := by decide +kernel
theorem d_Ch_init_1 : decode prog_3_method_1_code 1 = .ok (.invokespecial 3, 3) := by decide +kernel
theorem d_Ch_init_4 : decode prog_3_method_1_code 4 = .ok (.aload_n 0, 1) := by decide +kernel
theorem d_Ch_init_5 : decode prog_3_method_1_code 5 = .ok (.sipush 3820, 3) := by decide +kernel
theorem d_Ch_init_8 : decode prog_3_method_1_code 8 = .ok (.newarray .int, 2) := by decide +kernel
theorem d_Ch_init_10 : decode prog_3_method_1_code 10 = .ok (.putfield 9, 3) := by decide +kernel
theorem d_Ch_init_13 : decode prog_3_method_1_code 13 = .ok (.return_, 1) := by decide +kernel
theorem d_Ch_forget_0 : decode prog_3_method_2_code 0 = .ok (.aload_n 0, 1) := by decide +kernel
theorem d_Ch_forget_1 : decode prog_3_method_2_code 1 = .ok (.getfield 9, 3) := by decide +kernel
theorem d_Ch_forget_4 : decode prog_3_method_2_code 4 = .ok (.sipush 1024, 3) := by decide +kernel
theorem d_Ch_forget_7 : decode prog_3_method_2_code 7 = .ok (.invokestatic 15, 3) := by decide +kernel
theorem d_Ch_forget_10 : decode prog_3_method_2_code 10 = .ok (.return_, 1) := by decide +kernel
theorem d_Ch_boundIn_0 : decode prog_3_method_3_code 0 = .ok (.lload_n 1, 1) := by decide +kernel
theorem d_Ch_boundIn_1 : decode prog_3_method_3_code 1 = .ok (.bipush 11, 2) := by decide +kernel
theorem d_Ch_boundIn_3 : decode prog_3_method_3_code 3 = .ok (.lshr, 1) := by decide +kernel
theorem d_Ch_boundIn_4 : decode prog_3_method_3_code 4 = .ok (.aload_n 0, 1) := by decide +kernel
theorem d_Ch_boundIn_5 : decode prog_3_method_3_code 5 = .ok (.getfield 9, 3) := by decide +kernel
theorem d_Ch_boundIn_8 : decode prog_3_method_3_code 8 = .ok (.iload_n 3, 1) := by decide +kernel
theorem d_Ch_boundIn_9 : decode prog_3_method_3_code 9 = .ok (.iaload, 1) := by decide +kernel
theorem d_Ch_boundIn_10 : decode prog_3_method_3_code 10 = .ok (.i2l, 1) := by decide +kernel
theorem d_Ch_boundIn_11 : decode prog_3_method_3_code 11 = .ok (.lmul, 1) := by decide +kernel
theorem d_Ch_boundIn_12 : decode prog_3_method_3_code 12 = .ok (.lreturn, 1) := by decide +kernel
theorem d_Ch_learn_0 : decode prog_3_method_4_code 0 = .ok (.aload_n 0, 1) := by decide +kernel
theorem d_Ch_learn_1 : decode prog_3_method_4_code 1 = .ok (.getfield 9, 3) := by decide +kernel
theorem d_Ch_learn_4 : decode prog_3_method_4_code 4 = .ok (.iload_n 1, 1) := by decide +kernel
theorem d_Ch_learn_5 : decode prog_3_method_4_code 5 = .ok (.iaload, 1) := by decide +kernel
theorem d_Ch_learn_6 : decode prog_3_method_4_code 6 = .ok (.istore_n 3, 1) := by decide +kernel
theorem d_Ch_learn_7 : decode prog_3_method_4_code 7 = .ok (.aload_n 0, 1) := by decide +kernel
theorem d_Ch_learn_8 : decode prog_3_method_4_code 8 = .ok (.getfield 9, 3) := by decide +kernel
theorem d_Ch_learn_11 : decode prog_3_method_4_code 11 = .ok (.iload_n 1, 1) := by decide +kernel
theorem d_Ch_learn_12 : decode prog_3_method_4_code 12 = .ok (.iload_n 2, 1) := by decide +kernel
theorem d_Ch_learn_13 : decode prog_3_method_4_code 13 = .ok (.ifCond .ne 15, 3) := by decide +kernel
theorem d_Ch_learn_16 : decode prog_3_method_4_code 16 = .ok (.iload_n 3, 1) := by decide +kernel
theorem d_Ch_learn_17 : decode prog_3_method_4_code 17 = .ok (.sipush 2048, 3) := by decide +kernel
theorem d_Ch_learn_20 : decode prog_3_method_4_code 20 = .ok (.iload_n 3, 1) := by decide +kernel
theorem d_Ch_learn_21 : decode prog_3_method_4_code 21 = .ok (.isub, 1) := by decide +kernel
theorem d_Ch_learn_22 : decode prog_3_method_4_code 22 = .ok (.iconst 5, 1) := by decide +kernel
theorem d_Ch_learn_23 : decode prog_3_method_4_code 23 = .ok (.ishr, 1) := by decide +kernel
theorem d_Ch_learn_24 : decode prog_3_method_4_code 24 = .ok (.iadd, 1) := by decide +kernel
theorem d_Ch_learn_25 : decode prog_3_method_4_code 25 = .ok (.goto 8, 3) := by decide +kernel
theorem d_Ch_learn_28 : decode prog_3_method_4_code 28 = .ok (.iload_n 3, 1) := by decide +kernel
theorem d_Ch_learn_29 : decode prog_3_method_4_code 29 = .ok (.iload_n 3, 1) := by decide +kernel
theorem d_Ch_learn_30 : decode prog_3_method_4_code 30 = .ok (.iconst 5, 1) := by decide +kernel
theorem d_Ch_learn_31 : decode prog_3_method_4_code 31 = .ok (.ishr, 1) := by decide +kernel
theorem d_Ch_learn_32 : decode prog_3_method_4_code 32 = .ok (.isub, 1) := by decide +kernel
theorem d_Ch_learn_33 : decode prog_3_method_4_code 33 = .ok (.iastore, 1) := by decide +kernel
theorem d_Ch_learn_34 : decode prog_3_method_4_code 34 = .ok (.return_, 1) := by decide +kernel
theorem d_Co_init_0 : decode prog_4_method_1_code 0 = .ok (.aload_n 0, 1) := by decide +kernel
theorem d_Co_init_1 : decode prog_4_method_1_code 1 = .ok (.invokespecial 3, 3) := by decide +kernel
theorem d_Co_init_4 : decode prog_4_method_1_code 4 = .ok (.aload_n 0, 1) := by decide +kernel
theorem d_Co_init_5 : decode prog_4_method_1_code 5 = .ok (.iload_n 1, 1) := by decide +kernel
theorem d_Co_init_6 : decode prog_4_method_1_code 6 = .ok (.putfield 9, 3) := by decide +kernel
theorem d_Co_init_9 : decode prog_4_method_1_code 9 = .ok (.return_, 1) := by decide +kernel
theorem d_Co_choose_0 : decode prog_4_method_2_code 0 = .ok (.aload_n 3, 1) := by decide +kernel
theorem d_Co_choose_1 : decode prog_4_method_2_code 1 = .ok (.getfield 15, 3) := by decide +kernel
theorem d_Co_choose_4 : decode prog_4_method_2_code 4 = .ok (.getfield 21, 3) := by decide +kernel
theorem d_Co_choose_7 : decode prog_4_method_2_code 7 = .ok (.istore 4, 2) := by decide +kernel
theorem d_Co_choose_9 : decode prog_4_method_2_code 9 = .ok (.aload_n 3, 1) := by decide +kernel
theorem d_Co_choose_10 : decode prog_4_method_2_code 10 = .ok (.getfield 26, 3) := by decide +kernel
theorem d_Co_choose_13 : decode prog_4_method_2_code 13 = .ok (.astore 5, 2) := by decide +kernel
theorem d_Co_choose_15 : decode prog_4_method_2_code 15 = .ok (.aload_n 0, 1) := by decide +kernel
theorem d_Co_choose_16 : decode prog_4_method_2_code 16 = .ok (.aload_n 2, 1) := by decide +kernel
theorem d_Co_choose_17 : decode prog_4_method_2_code 17 = .ok (.iload 4, 2) := by decide +kernel
theorem d_Co_choose_19 : decode prog_4_method_2_code 19 = .ok (.invokevirtual 30, 3) := by decide +kernel
theorem d_Co_choose_22 : decode prog_4_method_2_code 22 = .ok (.aload_n 0, 1) := by decide +kernel
theorem d_Co_choose_23 : decode prog_4_method_2_code 23 = .ok (.aload_n 2, 1) := by decide +kernel
theorem d_Co_choose_24 : decode prog_4_method_2_code 24 = .ok (.iload 4, 2) := by decide +kernel
theorem d_Co_choose_26 : decode prog_4_method_2_code 26 = .ok (.aload 5, 2) := by decide +kernel
theorem d_Co_choose_28 : decode prog_4_method_2_code 28 = .ok (.invokevirtual 34, 3) := by decide +kernel
theorem d_Co_choose_31 : decode prog_4_method_2_code 31 = .ok (.aload_n 0, 1) := by decide +kernel
theorem d_Co_choose_32 : decode prog_4_method_2_code 32 = .ok (.getfield 38, 3) := by decide +kernel
theorem d_Co_choose_35 : decode prog_4_method_2_code 35 = .ok (.iconst 2, 1) := by decide +kernel
theorem d_Co_choose_36 : decode prog_4_method_2_code 36 = .ok (.if_icmp .lt 36, 3) := by decide +kernel
theorem d_Co_choose_39 : decode prog_4_method_2_code 39 = .ok (.aload_n 0, 1) := by decide +kernel
theorem d_Co_choose_40 : decode prog_4_method_2_code 40 = .ok (.getfield 38, 3) := by decide +kernel
theorem d_Co_choose_43 : decode prog_4_method_2_code 43 = .ok (.aload_n 0, 1) := by decide +kernel
theorem d_Co_choose_44 : decode prog_4_method_2_code 44 = .ok (.getfield 41, 3) := by decide +kernel
theorem d_Co_choose_47 : decode prog_4_method_2_code 47 = .ok (.if_icmp .lt 25, 3) := by decide +kernel
theorem d_Co_choose_50 : decode prog_4_method_2_code 50 = .ok (.aload_n 1, 1) := by decide +kernel
theorem d_Co_choose_51 : decode prog_4_method_2_code 51 = .ok (.aload_n 0, 1) := by decide +kernel
theorem d_Co_choose_52 : decode prog_4_method_2_code 52 = .ok (.getfield 44, 3) := by decide +kernel
theorem d_Co_choose_55 : decode prog_4_method_2_code 55 = .ok (.aload_n 0, 1) := by decide +kernel
theorem d_Co_choose_56 : decode prog_4_method_2_code 56 = .ok (.getfield 38, 3) := by decide +kernel
theorem d_Co_choose_59 : decode prog_4_method_2_code 59 = .ok (.aload 5, 2) := by decide +kernel
theorem d_Co_choose_61 : decode prog_4_method_2_code 61 = .ok (.aload_n 0, 1) := by decide +kernel
theorem d_Co_choose_62 : decode prog_4_method_2_code 62 = .ok (.getfield 44, 3) := by decide +kernel
theorem d_Co_choose_65 : decode prog_4_method_2_code 65 = .ok (.iaload, 1) := by decide +kernel
theorem d_Co_choose_66 : decode prog_4_method_2_code 66 = .ok (.invokevirtual 47, 3) := by decide +kernel
theorem d_Co_choose_69 : decode prog_4_method_2_code 69 = .ok (.goto 63, 3) := by decide +kernel
theorem d_Co_choose_72 : decode prog_4_method_2_code 72 = .ok (.aload_n 0, 1) := by decide +kernel
theorem d_Co_choose_73 : decode prog_4_method_2_code 73 = .ok (.getfield 41, 3) := by decide +kernel
theorem d_Co_choose_76 : decode prog_4_method_2_code 76 = .ok (.iconst 2, 1) := by decide +kernel
theorem d_Co_choose_77 : decode prog_4_method_2_code 77 = .ok (.if_icmp .lt 18, 3) := by decide +kernel
theorem d_Co_choose_80 : decode prog_4_method_2_code 80 = .ok (.aload_n 1, 1) := by decide +kernel
theorem d_Co_choose_81 : decode prog_4_method_2_code 81 = .ok (.aload_n 0, 1) := by decide +kernel
theorem d_Co_choose_82 : decode prog_4_method_2_code 82 = .ok (.getfield 41, 3) := by decide +kernel
theorem d_Co_choose_85 : decode prog_4_method_2_code 85 = .ok (.aload_n 0, 1) := by decide +kernel
theorem d_Co_choose_86 : decode prog_4_method_2_code 86 = .ok (.getfield 53, 3) := by decide +kernel
theorem d_Co_choose_89 : decode prog_4_method_2_code 89 = .ok (.invokevirtual 56, 3) := by decide +kernel
theorem d_Co_choose_92 : decode prog_4_method_2_code 92 = .ok (.goto 40, 3) := by decide +kernel
theorem d_Co_choose_95 : decode prog_4_method_2_code 95 = .ok (.aload_n 2, 1) := by decide +kernel
theorem d_Co_choose_96 : decode prog_4_method_2_code 96 = .ok (.iload 4, 2) := by decide +kernel
theorem d_Co_choose_98 : decode prog_4_method_2_code 98 = .ok (.aload 5, 2) := by decide +kernel
theorem d_Co_choose_100 : decode prog_4_method_2_code 100 = .ok (.iconst 0, 1) := by decide +kernel
theorem d_Co_choose_101 : decode prog_4_method_2_code 101 = .ok (.iaload, 1) := by decide +kernel
theorem d_Co_choose_102 : decode prog_4_method_2_code 102 = .ok (.isub, 1) := by decide +kernel
theorem d_Co_choose_103 : decode prog_4_method_2_code 103 = .ok (.iload 4, 2) := by decide +kernel
theorem d_Co_choose_105 : decode prog_4_method_2_code 105 = .ok (.invokestatic 60, 3) := by decide +kernel
theorem d_Co_choose_108 : decode prog_4_method_2_code 108 = .ok (.ifCond .le 14, 3) := by decide +kernel
theorem d_Co_choose_111 : decode prog_4_method_2_code 111 = .ok (.aload_n 1, 1) := by decide +kernel
theorem d_Co_choose_112 : decode prog_4_method_2_code 112 = .ok (.aload 5, 2) := by decide +kernel
theorem d_Co_choose_114 : decode prog_4_method_2_code 114 = .ok (.iconst 0, 1) := by decide +kernel
theorem d_Co_choose_115 : decode prog_4_method_2_code 115 = .ok (.iaload, 1) := by decide +kernel
theorem d_Co_choose_116 : decode prog_4_method_2_code 116 = .ok (.invokevirtual 64, 3) := by decide +kernel
theorem d_Co_choose_119 : decode prog_4_method_2_code 119 = .ok (.goto 13, 3) := by decide +kernel
theorem d_Co_choose_122 : decode prog_4_method_2_code 122 = .ok (.aload_n 1, 1) := by decide +kernel
theorem d_Co_choose_123 : decode prog_4_method_2_code 123 = .ok (.aload_n 2, 1) := by decide +kernel
theorem d_Co_choose_124 : decode prog_4_method_2_code 124 = .ok (.iload 4, 2) := by decide +kernel
theorem d_Co_choose_126 : decode prog_4_method_2_code 126 = .ok (.invokevirtual 68, 3) := by decide +kernel
theorem d_Co_choose_129 : decode prog_4_method_2_code 129 = .ok (.invokevirtual 72, 3) := by decide +kernel
theorem d_Co_choose_132 : decode prog_4_method_2_code 132 = .ok (.return_, 1) := by decide +kernel
theorem d_Co_findMatch_0 : decode prog_4_method_3_code 0 = .ok (.aload_n 0, 1) := by decide +kernel
theorem d_Co_findMatch_1 : decode prog_4_method_3_code 1 = .ok (.iconst 0, 1) := by decide +kernel
theorem d_Co_findMatch_2 : decode prog_4_method_3_code 2 = .ok (.putfield 41, 3) := by decide +kernel
theorem d_Co_findMatch_5 : decode prog_4_method_3_code 5 = .ok (.aload_n 0, 1) := by decide +kernel
theorem d_Co_findMatch_6 : decode prog_4_method_3_code 6 = .ok (.iconst 0, 1) := by decide +kernel
theorem d_Co_findMatch_7 : decode prog_4_method_3_code 7 = .ok (.putfield 53, 3) := by decide +kernel
theorem d_Co_findMatch_10 : decode prog_4_method_3_code 10 = .ok (.iconst 0, 1) := by decide +kernel
theorem d_Co_findMatch_11 : decode prog_4_method_3_code 11 = .ok (.istore_n 3, 1) := by decide +kernel
theorem d_Co_findMatch_12 : decode prog_4_method_3_code 12 = .ok (.iload_n 2, 1) := by decide +kernel
theorem d_Co_findMatch_13 : decode prog_4_method_3_code 13 = .ok (.iconst 1, 1) := by decide +kernel
theorem d_Co_findMatch_14 : decode prog_4_method_3_code 14 = .ok (.isub, 1) := by decide +kernel
theorem d_Co_findMatch_15 : decode prog_4_method_3_code 15 = .ok (.istore 4, 2) := by decide +kernel
theorem d_Co_findMatch_17 : decode prog_4_method_3_code 17 = .ok (.iload 4, 2) := by decide +kernel
theorem d_Co_findMatch_19 : decode prog_4_method_3_code 19 = .ok (.ifCond .lt 58, 3) := by decide +kernel
theorem d_Co_findMatch_22 : decode prog_4_method_3_code 22 = .ok (.iload_n 3, 1) := by decide +kernel
theorem d_Co_findMatch_23 : decode prog_4_method_3_code 23 = .ok (.aload_n 0, 1) := by decide +kernel
theorem d_Co_findMatch_24 : decode prog_4_method_3_code 24 = .ok (.getfield 9, 3) := by decide +kernel
theorem d_Co_findMatch_27 : decode prog_4_method_3_code 27 = .ok (.if_icmp .ge 50, 3) := by decide +kernel
theorem d_Co_findMatch_30 : decode prog_4_method_3_code 30 = .ok (.aload_n 1, 1) := by decide +kernel
theorem d_Co_findMatch_31 : decode prog_4_method_3_code 31 = .ok (.iload 4, 2) := by decide +kernel
theorem d_Co_findMatch_33 : decode prog_4_method_3_code 33 = .ok (.iload_n 2, 1) := by decide +kernel
theorem d_Co_findMatch_34 : decode prog_4_method_3_code 34 = .ok (.invokestatic 60, 3) := by decide +kernel
theorem d_Co_findMatch_37 : decode prog_4_method_3_code 37 = .ok (.istore 5, 2) := by decide +kernel
theorem d_Co_findMatch_39 : decode prog_4_method_3_code 39 = .ok (.iload 5, 2) := by decide +kernel
theorem d_Co_findMatch_41 : decode prog_4_method_3_code 41 = .ok (.iconst 2, 1) := by decide +kernel
theorem d_Co_findMatch_42 : decode prog_4_method_3_code 42 = .ok (.if_icmp .lt 29, 3) := by decide +kernel
theorem d_Co_findMatch_45 : decode prog_4_method_3_code 45 = .ok (.iinc 3 1, 3) := by decide +kernel
theorem d_Co_findMatch_48 : decode prog_4_method_3_code 48 = .ok (.iload 5, 2) := by decide +kernel
theorem d_Co_findMatch_50 : decode prog_4_method_3_code 50 = .ok (.aload_n 0, 1) := by decide +kernel
theorem d_Co_findMatch_51 : decode prog_4_method_3_code 51 = .ok (.getfield 41, 3) := by decide +kernel
theorem d_Co_findMatch_54 : decode prog_4_method_3_code 54 = .ok (.if_icmp .le 17, 3) := by decide +kernel
theorem d_Co_findMatch_57 : decode prog_4_method_3_code 57 = .ok (.aload_n 0, 1) := by decide +kernel
theorem d_Co_findMatch_58 : decode prog_4_method_3_code 58 = .ok (.iload 5, 2) := by decide +kernel
theorem d_Co_findMatch_60 : decode prog_4_method_3_code 60 = .ok (.putfield 41, 3) := by decide +kernel
theorem d_Co_findMatch_63 : decode prog_4_method_3_code 63 = .ok (.aload_n 0, 1) := by decide +kernel
theorem d_Co_findMatch_64 : decode prog_4_method_3_code 64 = .ok (.iload_n 2, 1) := by decide +kernel
theorem d_Co_findMatch_65 : decode prog_4_method_3_code 65 = .ok (.iload 4, 2) := by decide +kernel
theorem d_Co_findMatch_67 : decode prog_4_method_3_code 67 = .ok (.isub, 1) := by decide +kernel
theorem d_Co_findMatch_68 : decode prog_4_method_3_code 68 = .ok (.putfield 53, 3) := by decide +kernel
theorem d_Co_findMatch_71 : decode prog_4_method_3_code 71 = .ok (.iinc 4 (-1), 3) := by decide +kernel
theorem d_Co_findMatch_74 : decode prog_4_method_3_code 74 = .ok (.goto (-57), 3) := by decide +kernel
theorem d_Co_findMatch_77 : decode prog_4_method_3_code 77 = .ok (.return_, 1) := by decide +kernel
theorem d_Co_findEcho_0 : decode prog_4_method_4_code 0 = .ok (.aload_n 0, 1) := by decide +kernel
theorem d_Co_findEcho_1 : decode prog_4_method_4_code 1 = .ok (.iconst 0, 1) := by decide +kernel
theorem d_Co_findEcho_2 : decode prog_4_method_4_code 2 = .ok (.putfield 38, 3) := by decide +kernel
theorem d_Co_findEcho_5 : decode prog_4_method_4_code 5 = .ok (.aload_n 0, 1) := by decide +kernel
theorem d_Co_findEcho_6 : decode prog_4_method_4_code 6 = .ok (.iconst 0, 1) := by decide +kernel
theorem d_Co_findEcho_7 : decode prog_4_method_4_code 7 = .ok (.putfield 44, 3) := by decide +kernel
theorem d_Co_findEcho_10 : decode prog_4_method_4_code 10 = .ok (.iconst 0, 1) := by decide +kernel
theorem d_Co_findEcho_11 : decode prog_4_method_4_code 11 = .ok (.istore 4, 2) := by decide +kernel
theorem d_Co_findEcho_13 : decode prog_4_method_4_code 13 = .ok (.iload 4, 2) := by decide +kernel
theorem d_Co_findEcho_15 : decode prog_4_method_4_code 15 = .ok (.iconst 4, 1) := by decide +kernel
theorem d_Co_findEcho_16 : decode prog_4_method_4_code 16 = .ok (.if_icmp .ge 43, 3) := by decide +kernel
theorem d_Co_findEcho_19 : decode prog_4_method_4_code 19 = .ok (.aload_n 1, 1) := by decide +kernel
theorem d_Co_findEcho_20 : decode prog_4_method_4_code 20 = .ok (.iload_n 2, 1) := by decide +kernel
theorem d_Co_findEcho_21 : decode prog_4_method_4_code 21 = .ok (.aload_n 3, 1) := by decide +kernel
theorem d_Co_findEcho_22 : decode prog_4_method_4_code 22 = .ok (.iload 4, 2) := by decide +kernel
theorem d_Co_findEcho_24 : decode prog_4_method_4_code 24 = .ok (.iaload, 1) := by decide +kernel
theorem d_Co_findEcho_25 : decode prog_4_method_4_code 25 = .ok (.isub, 1) := by decide +kernel
theorem d_Co_findEcho_26 : decode prog_4_method_4_code 26 = .ok (.iload_n 2, 1) := by decide +kernel
theorem d_Co_findEcho_27 : decode prog_4_method_4_code 27 = .ok (.invokestatic 60, 3) := by decide +kernel
theorem d_Co_findEcho_30 : decode prog_4_method_4_code 30 = .ok (.istore 5, 2) := by decide +kernel
theorem d_Co_findEcho_32 : decode prog_4_method_4_code 32 = .ok (.iload 5, 2) := by decide +kernel
theorem d_Co_findEcho_34 : decode prog_4_method_4_code 34 = .ok (.aload_n 0, 1) := by decide +kernel
theorem d_Co_findEcho_35 : decode prog_4_method_4_code 35 = .ok (.getfield 38, 3) := by decide +kernel
theorem d_Co_findEcho_38 : decode prog_4_method_4_code 38 = .ok (.if_icmp .le 15, 3) := by decide +kernel
theorem d_Co_findEcho_41 : decode prog_4_method_4_code 41 = .ok (.aload_n 0, 1) := by decide +kernel
theorem d_Co_findEcho_42 : decode prog_4_method_4_code 42 = .ok (.iload 5, 2) := by decide +kernel
theorem d_Co_findEcho_44 : decode prog_4_method_4_code 44 = .ok (.putfield 38, 3) := by decide +kernel
theorem d_Co_findEcho_47 : decode prog_4_method_4_code 47 = .ok (.aload_n 0, 1) := by decide +kernel
theorem d_Co_findEcho_48 : decode prog_4_method_4_code 48 = .ok (.iload 4, 2) := by decide +kernel
theorem d_Co_findEcho_50 : decode prog_4_method_4_code 50 = .ok (.putfield 44, 3) := by decide +kernel
theorem d_Co_findEcho_53 : decode prog_4_method_4_code 53 = .ok (.iinc 4 1, 3) := by decide +kernel
theorem d_Co_findEcho_56 : decode prog_4_method_4_code 56 = .ok (.goto (-43), 3) := by decide +kernel
theorem d_Co_findEcho_59 : decode prog_4_method_4_code 59 = .ok (.return_, 1) := by decide +kernel
theorem d_Co_agreeing_0 : decode prog_4_method_5_code 0 = .ok (.iload_n 1, 1) := by decide +kernel
theorem d_Co_agreeing_1 : decode prog_4_method_5_code 1 = .ok (.ifCond .lt 8, 3) := by decide +kernel
theorem d_Co_agreeing_4 : decode prog_4_method_5_code 4 = .ok (.iload_n 1, 1) := by decide +kernel
theorem d_Co_agreeing_5 : decode prog_4_method_5_code 5 = .ok (.iload_n 2, 1) := by decide +kernel
theorem d_Co_agreeing_6 : decode prog_4_method_5_code 6 = .ok (.if_icmp .lt 5, 3) := by decide +kernel
theorem d_Co_agreeing_9 : decode prog_4_method_5_code 9 = .ok (.iconst 0, 1) := by decide +kernel
theorem d_Co_agreeing_10 : decode prog_4_method_5_code 10 = .ok (.ireturn, 1) := by decide +kernel
theorem d_Co_agreeing_11 : decode prog_4_method_5_code 11 = .ok (.iconst 0, 1) := by decide +kernel
theorem d_Co_agreeing_12 : decode prog_4_method_5_code 12 = .ok (.istore_n 3, 1) := by decide +kernel
theorem d_Co_agreeing_13 : decode prog_4_method_5_code 13 = .ok (.iload_n 2, 1) := by decide +kernel
theorem d_Co_agreeing_14 : decode prog_4_method_5_code 14 = .ok (.iload_n 3, 1) := by decide +kernel
theorem d_Co_agreeing_15 : decode prog_4_method_5_code 15 = .ok (.iadd, 1) := by decide +kernel
theorem d_Co_agreeing_16 : decode prog_4_method_5_code 16 = .ok (.aload_n 0, 1) := by decide +kernel
theorem d_Co_agreeing_17 : decode prog_4_method_5_code 17 = .ok (.getfield 21, 3) := by decide +kernel
theorem d_Co_agreeing_20 : decode prog_4_method_5_code 20 = .ok (.if_icmp .ge 28, 3) := by decide +kernel
theorem d_Co_agreeing_23 : decode prog_4_method_5_code 23 = .ok (.aload_n 0, 1) := by decide +kernel
theorem d_Co_agreeing_24 : decode prog_4_method_5_code 24 = .ok (.getfield 75, 3) := by decide +kernel
theorem d_Co_agreeing_27 : decode prog_4_method_5_code 27 = .ok (.iload_n 1, 1) := by decide +kernel
theorem d_Co_agreeing_28 : decode prog_4_method_5_code 28 = .ok (.iload_n 3, 1) := by decide +kernel
theorem d_Co_agreeing_29 : decode prog_4_method_5_code 29 = .ok (.iadd, 1) := by decide +kernel
theorem d_Co_agreeing_30 : decode prog_4_method_5_code 30 = .ok (.iaload, 1) := by decide +kernel
theorem d_Co_agreeing_31 : decode prog_4_method_5_code 31 = .ok (.aload_n 0, 1) := by decide +kernel
theorem d_Co_agreeing_32 : decode prog_4_method_5_code 32 = .ok (.getfield 75, 3) := by decide +kernel
theorem d_Co_agreeing_35 : decode prog_4_method_5_code 35 = .ok (.iload_n 2, 1) := by decide +kernel
theorem d_Co_agreeing_36 : decode prog_4_method_5_code 36 = .ok (.iload_n 3, 1) := by decide +kernel
theorem d_Co_agreeing_37 : decode prog_4_method_5_code 37 = .ok (.iadd, 1) := by decide +kernel
theorem d_Co_agreeing_38 : decode prog_4_method_5_code 38 = .ok (.iaload, 1) := by decide +kernel
theorem d_Co_agreeing_39 : decode prog_4_method_5_code 39 = .ok (.if_icmp .ne 9, 3) := by decide +kernel
theorem d_Co_agreeing_42 : decode prog_4_method_5_code 42 = .ok (.iinc 3 1, 3) := by decide +kernel
theorem d_Co_agreeing_45 : decode prog_4_method_5_code 45 = .ok (.goto (-32), 3) := by decide +kernel
theorem d_Co_agreeing_48 : decode prog_4_method_5_code 48 = .ok (.iload_n 3, 1) := by decide +kernel
theorem d_Co_agreeing_49 : decode prog_4_method_5_code 49 = .ok (.ireturn, 1) := by decide +kernel
theorem d_Fo_init_0 : decode prog_5_method_1_code 0 = .ok (.aload_n 0, 1) := by decide +kernel
theorem d_Fo_init_1 : decode prog_5_method_1_code 1 = .ok (.invokespecial 3, 3) := by decide +kernel
theorem d_Fo_init_4 : decode prog_5_method_1_code 4 = .ok (.aload_n 0, 1) := by decide +kernel
theorem d_Fo_init_5 : decode prog_5_method_1_code 5 = .ok (.new 9, 3) := by decide +kernel
theorem d_Fo_init_8 : decode prog_5_method_1_code 8 = .ok (.dup, 1) := by decide +kernel
theorem d_Fo_init_9 : decode prog_5_method_1_code 9 = .ok (.invokespecial 11, 3) := by decide +kernel
theorem d_Fo_init_12 : decode prog_5_method_1_code 12 = .ok (.putfield 12, 3) := by decide +kernel
theorem d_Fo_init_15 : decode prog_5_method_1_code 15 = .ok (.aload_n 0, 1) := by decide +kernel
theorem d_Fo_init_16 : decode prog_5_method_1_code 16 = .ok (.new 18, 3) := by decide +kernel
theorem d_Fo_init_19 : decode prog_5_method_1_code 19 = .ok (.dup, 1) := by decide +kernel
theorem d_Fo_init_20 : decode prog_5_method_1_code 20 = .ok (.sipush 200, 3) := by decide +kernel
theorem d_Fo_init_23 : decode prog_5_method_1_code 23 = .ok (.invokespecial 20, 3) := by decide +kernel
theorem d_Fo_init_26 : decode prog_5_method_1_code 26 = .ok (.putfield 23, 3) := by decide +kernel
theorem d_Fo_init_29 : decode prog_5_method_1_code 29 = .ok (.return_, 1) := by decide +kernel
theorem d_Fo_restart_0 : decode prog_5_method_2_code 0 = .ok (.aload_n 0, 1) := by decide +kernel
theorem d_Fo_restart_1 : decode prog_5_method_2_code 1 = .ok (.getfield 12, 3) := by decide +kernel
theorem d_Fo_restart_4 : decode prog_5_method_2_code 4 = .ok (.invokevirtual 27, 3) := by decide +kernel
theorem d_Fo_restart_7 : decode prog_5_method_2_code 7 = .ok (.aload_n 0, 1) := by decide +kernel
theorem d_Fo_restart_8 : decode prog_5_method_2_code 8 = .ok (.getfield 23, 3) := by decide +kernel
theorem d_Fo_restart_11 : decode prog_5_method_2_code 11 = .ok (.aload_n 1, 1) := by decide +kernel
theorem d_Fo_restart_12 : decode prog_5_method_2_code 12 = .ok (.getfield 30, 3) := by decide +kernel
theorem d_Fo_restart_15 : decode prog_5_method_2_code 15 = .ok (.aload_n 1, 1) := by decide +kernel
theorem d_Fo_restart_16 : decode prog_5_method_2_code 16 = .ok (.getfield 34, 3) := by decide +kernel
theorem d_Fo_restart_19 : decode prog_5_method_2_code 19 = .ok (.invokevirtual 38, 3) := by decide +kernel
theorem d_Fo_restart_22 : decode prog_5_method_2_code 22 = .ok (.aload_n 0, 1) := by decide +kernel
theorem d_Fo_restart_23 : decode prog_5_method_2_code 23 = .ok (.iconst 0, 1) := by decide +kernel
theorem d_Fo_restart_24 : decode prog_5_method_2_code 24 = .ok (.putfield 42, 3) := by decide +kernel
theorem d_Fo_restart_27 : decode prog_5_method_2_code 27 = .ok (.aload_n 0, 1) := by decide +kernel
theorem d_Fo_restart_28 : decode prog_5_method_2_code 28 = .ok (.lconst 0, 1) := by decide +kernel
theorem d_Fo_restart_29 : decode prog_5_method_2_code 29 = .ok (.putfield 45, 3) := by decide +kernel
theorem d_Fo_restart_32 : decode prog_5_method_2_code 32 = .ok (.aload_n 0, 1) := by decide +kernel
theorem d_Fo_restart_33 : decode prog_5_method_2_code 33 = .ok (.ldc2_w 49, 3) := by decide +kernel
theorem d_Fo_restart_36 : decode prog_5_method_2_code 36 = .ok (.putfield 51, 3) := by decide +kernel
theorem d_Fo_restart_39 : decode prog_5_method_2_code 39 = .ok (.iconst 0, 1) := by decide +kernel
theorem d_Fo_restart_40 : decode prog_5_method_2_code 40 = .ok (.istore_n 2, 1) := by decide +kernel
theorem d_Fo_restart_41 : decode prog_5_method_2_code 41 = .ok (.iload_n 2, 1) := by decide +kernel
theorem d_Fo_restart_42 : decode prog_5_method_2_code 42 = .ok (.iconst 4, 1) := by decide +kernel
theorem d_Fo_restart_43 : decode prog_5_method_2_code 43 = .ok (.if_icmp .ge 13, 3) := by decide +kernel
theorem d_Fo_restart_46 : decode prog_5_method_2_code 46 = .ok (.aload_n 0, 1) := by decide +kernel
theorem d_Fo_restart_47 : decode prog_5_method_2_code 47 = .ok (.invokevirtual 54, 3) := by decide +kernel
theorem d_Fo_restart_50 : decode prog_5_method_2_code 50 = .ok (.iinc 2 1, 3) := by decide +kernel
theorem d_Fo_restart_53 : decode prog_5_method_2_code 53 = .ok (.goto (-12), 3) := by decide +kernel
theorem d_Fo_restart_56 : decode prog_5_method_2_code 56 = .ok (.aload_n 0, 1) := by decide +kernel
theorem d_Fo_restart_57 : decode prog_5_method_2_code 57 = .ok (.getfield 45, 3) := by decide +kernel
theorem d_Fo_restart_60 : decode prog_5_method_2_code 60 = .ok (.aload_n 0, 1) := by decide +kernel
theorem d_Fo_restart_61 : decode prog_5_method_2_code 61 = .ok (.getfield 51, 3) := by decide +kernel
theorem d_Fo_restart_64 : decode prog_5_method_2_code 64 = .ok (.lcmp, 1) := by decide +kernel
theorem d_Fo_restart_65 : decode prog_5_method_2_code 65 = .ok (.ifCond .lt 13, 3) := by decide +kernel
theorem d_Fo_restart_68 : decode prog_5_method_2_code 68 = .ok (.new 57, 3) := by decide +kernel
theorem d_Fo_restart_71 : decode prog_5_method_2_code 71 = .ok (.dup, 1) := by decide +kernel
theorem d_Fo_restart_72 : decode prog_5_method_2_code 72 = .ok (.ldc 59, 2) := by decide +kernel
theorem d_Fo_restart_74 : decode prog_5_method_2_code 74 = .ok (.invokespecial 61, 3) := by decide +kernel
theorem d_Fo_restart_77 : decode prog_5_method_2_code 77 = .ok (.athrow, 1) := by decide +kernel
theorem d_Fo_restart_78 : decode prog_5_method_2_code 78 = .ok (.return_, 1) := by decide +kernel
theorem d_Fo_readBit_0 : decode prog_5_method_3_code 0 = .ok (.aload_n 0, 1) := by decide +kernel
theorem d_Fo_readBit_1 : decode prog_5_method_3_code 1 = .ok (.getfield 12, 3) := by decide +kernel
theorem d_Fo_readBit_4 : decode prog_5_method_3_code 4 = .ok (.aload_n 0, 1) := by decide +kernel
theorem d_Fo_readBit_5 : decode prog_5_method_3_code 5 = .ok (.getfield 51, 3) := by decide +kernel
theorem d_Fo_readBit_8 : decode prog_5_method_3_code 8 = .ok (.iload_n 1, 1) := by decide +kernel
theorem d_Fo_readBit_9 : decode prog_5_method_3_code 9 = .ok (.invokevirtual 64, 3) := by decide +kernel
theorem d_Fo_readBit_12 : decode prog_5_method_3_code 12 = .ok (.lstore_n 2, 1) := by decide +kernel
theorem d_Fo_readBit_13 : decode prog_5_method_3_code 13 = .ok (.aload_n 0, 1) := by decide +kernel
theorem d_Fo_readBit_14 : decode prog_5_method_3_code 14 = .ok (.getfield 45, 3) := by decide +kernel
theorem d_Fo_readBit_17 : decode prog_5_method_3_code 17 = .ok (.lload_n 2, 1) := by decide +kernel
theorem d_Fo_readBit_18 : decode prog_5_method_3_code 18 = .ok (.lcmp, 1) := by decide +kernel
theorem d_Fo_readBit_19 : decode prog_5_method_3_code 19 = .ok (.ifCond .ge 7, 3) := by decide +kernel
theorem d_Fo_readBit_22 : decode prog_5_method_3_code 22 = .ok (.iconst 0, 1) := by decide +kernel
theorem d_Fo_readBit_23 : decode prog_5_method_3_code 23 = .ok (.goto 4, 3) := by decide +kernel
theorem d_Fo_readBit_26 : decode prog_5_method_3_code 26 = .ok (.iconst 1, 1) := by decide +kernel
theorem d_Fo_readBit_27 : decode prog_5_method_3_code 27 = .ok (.istore 4, 2) := by decide +kernel
theorem d_Fo_readBit_29 : decode prog_5_method_3_code 29 = .ok (.iload 4, 2) := by decide +kernel
theorem d_Fo_readBit_31 : decode prog_5_method_3_code 31 = .ok (.ifCond .ne 11, 3) := by decide +kernel
theorem d_Fo_readBit_34 : decode prog_5_method_3_code 34 = .ok (.aload_n 0, 1) := by decide +kernel
theorem d_Fo_readBit_35 : decode prog_5_method_3_code 35 = .ok (.lload_n 2, 1) := by decide +kernel
theorem d_Fo_readBit_36 : decode prog_5_method_3_code 36 = .ok (.putfield 51, 3) := by decide +kernel
theorem d_Fo_readBit_39 : decode prog_5_method_3_code 39 = .ok (.goto 23, 3) := by decide +kernel
theorem d_Fo_readBit_42 : decode prog_5_method_3_code 42 = .ok (.aload_n 0, 1) := by decide +kernel
theorem d_Fo_readBit_43 : decode prog_5_method_3_code 43 = .ok (.dup, 1) := by decide +kernel
theorem d_Fo_readBit_44 : decode prog_5_method_3_code 44 = .ok (.getfield 45, 3) := by decide +kernel
theorem d_Fo_readBit_47 : decode prog_5_method_3_code 47 = .ok (.lload_n 2, 1) := by decide +kernel
theorem d_Fo_readBit_48 : decode prog_5_method_3_code 48 = .ok (.lsub, 1) := by decide +kernel
theorem d_Fo_readBit_49 : decode prog_5_method_3_code 49 = .ok (.putfield 45, 3) := by decide +kernel
theorem d_Fo_readBit_52 : decode prog_5_method_3_code 52 = .ok (.aload_n 0, 1) := by decide +kernel
theorem d_Fo_readBit_53 : decode prog_5_method_3_code 53 = .ok (.dup, 1) := by decide +kernel
theorem d_Fo_readBit_54 : decode prog_5_method_3_code 54 = .ok (.getfield 51, 3) := by decide +kernel
theorem d_Fo_readBit_57 : decode prog_5_method_3_code 57 = .ok (.lload_n 2, 1) := by decide +kernel
theorem d_Fo_readBit_58 : decode prog_5_method_3_code 58 = .ok (.lsub, 1) := by decide +kernel
theorem d_Fo_readBit_59 : decode prog_5_method_3_code 59 = .ok (.putfield 51, 3) := by decide +kernel
theorem d_Fo_readBit_62 : decode prog_5_method_3_code 62 = .ok (.aload_n 0, 1) := by decide +kernel
theorem d_Fo_readBit_63 : decode prog_5_method_3_code 63 = .ok (.getfield 12, 3) := by decide +kernel
theorem d_Fo_readBit_66 : decode prog_5_method_3_code 66 = .ok (.iload_n 1, 1) := by decide +kernel
theorem d_Fo_readBit_67 : decode prog_5_method_3_code 67 = .ok (.iload 4, 2) := by decide +kernel
theorem d_Fo_readBit_69 : decode prog_5_method_3_code 69 = .ok (.invokevirtual 68, 3) := by decide +kernel
theorem d_Fo_readBit_72 : decode prog_5_method_3_code 72 = .ok (.aload_n 0, 1) := by decide +kernel
theorem d_Fo_readBit_73 : decode prog_5_method_3_code 73 = .ok (.getfield 51, 3) := by decide +kernel
theorem d_Fo_readBit_76 : decode prog_5_method_3_code 76 = .ok (.ldc2_w 72, 3) := by decide +kernel
theorem d_Fo_readBit_79 : decode prog_5_method_3_code 79 = .ok (.lcmp, 1) := by decide +kernel
theorem d_Fo_readBit_80 : decode prog_5_method_3_code 80 = .ok (.ifCond .ge 18, 3) := by decide +kernel
theorem d_Fo_readBit_83 : decode prog_5_method_3_code 83 = .ok (.aload_n 0, 1) := by decide +kernel
theorem d_Fo_readBit_84 : decode prog_5_method_3_code 84 = .ok (.dup, 1) := by decide +kernel
theorem d_Fo_readBit_85 : decode prog_5_method_3_code 85 = .ok (.getfield 51, 3) := by decide +kernel
theorem d_Fo_readBit_88 : decode prog_5_method_3_code 88 = .ok (.bipush 8, 2) := by decide +kernel
theorem d_Fo_readBit_90 : decode prog_5_method_3_code 90 = .ok (.lshl, 1) := by decide +kernel
theorem d_Fo_readBit_91 : decode prog_5_method_3_code 91 = .ok (.putfield 51, 3) := by decide +kernel
theorem d_Fo_readBit_94 : decode prog_5_method_3_code 94 = .ok (.aload_n 0, 1) := by decide +kernel
theorem d_Fo_readBit_95 : decode prog_5_method_3_code 95 = .ok (.invokevirtual 54, 3) := by decide +kernel
theorem d_Fo_readBit_98 : decode prog_5_method_3_code 98 = .ok (.iload 4, 2) := by decide +kernel
theorem d_Fo_readBit_100 : decode prog_5_method_3_code 100 = .ok (.ireturn, 1) := by decide +kernel
theorem d_Fo_readTree_0 : decode prog_5_method_4_code 0 = .ok (.iconst 1, 1) := by decide +kernel
theorem d_Fo_readTree_1 : decode prog_5_method_4_code 1 = .ok (.istore_n 3, 1) := by decide +kernel
theorem d_Fo_readTree_2 : decode prog_5_method_4_code 2 = .ok (.iconst 0, 1) := by decide +kernel
theorem d_Fo_readTree_3 : decode prog_5_method_4_code 3 = .ok (.istore 4, 2) := by decide +kernel
theorem d_Fo_readTree_5 : decode prog_5_method_4_code 5 = .ok (.iload 4, 2) := by decide +kernel
theorem d_Fo_readTree_7 : decode prog_5_method_4_code 7 = .ok (.iload_n 2, 1) := by decide +kernel
theorem d_Fo_readTree_8 : decode prog_5_method_4_code 8 = .ok (.if_icmp .ge 21, 3) := by decide +kernel
theorem d_Fo_readTree_11 : decode prog_5_method_4_code 11 = .ok (.iconst 2, 1) := by decide +kernel
theorem d_Fo_readTree_12 : decode prog_5_method_4_code 12 = .ok (.iload_n 3, 1) := by decide +kernel
theorem d_Fo_readTree_13 : decode prog_5_method_4_code 13 = .ok (.imul, 1) := by decide +kernel
theorem d_Fo_readTree_14 : decode prog_5_method_4_code 14 = .ok (.aload_n 0, 1) := by decide +kernel
theorem d_Fo_readTree_15 : decode prog_5_method_4_code 15 = .ok (.iload_n 1, 1) := by decide +kernel
theorem d_Fo_readTree_16 : decode prog_5_method_4_code 16 = .ok (.iload_n 3, 1) := by decide +kernel
theorem d_Fo_readTree_17 : decode prog_5_method_4_code 17 = .ok (.iadd, 1) := by decide +kernel
theorem d_Fo_readTree_18 : decode prog_5_method_4_code 18 = .ok (.invokevirtual 74, 3) := by decide +kernel
theorem d_Fo_readTree_21 : decode prog_5_method_4_code 21 = .ok (.iadd, 1) := by decide +kernel
theorem d_Fo_readTree_22 : decode prog_5_method_4_code 22 = .ok (.istore_n 3, 1) := by decide +kernel
theorem d_Fo_readTree_23 : decode prog_5_method_4_code 23 = .ok (.iinc 4 1, 3) := by decide +kernel
theorem d_Fo_readTree_26 : decode prog_5_method_4_code 26 = .ok (.goto (-21), 3) := by decide +kernel
theorem d_Fo_readTree_29 : decode prog_5_method_4_code 29 = .ok (.iload_n 3, 1) := by decide +kernel
theorem d_Fo_readTree_30 : decode prog_5_method_4_code 30 = .ok (.iconst 1, 1) := by decide +kernel
theorem d_Fo_readTree_31 : decode prog_5_method_4_code 31 = .ok (.iload_n 2, 1) := by decide +kernel
theorem d_Fo_readTree_32 : decode prog_5_method_4_code 32 = .ok (.ishl, 1) := by decide +kernel
theorem d_Fo_readTree_33 : decode prog_5_method_4_code 33 = .ok (.isub, 1) := by decide +kernel
theorem d_Fo_readTree_34 : decode prog_5_method_4_code 34 = .ok (.ireturn, 1) := by decide +kernel
theorem d_Fo_readRow_0 : decode prog_5_method_5_code 0 = .ok (.iconst 1, 1) := by decide +kernel
theorem d_Fo_readRow_1 : decode prog_5_method_5_code 1 = .ok (.istore_n 3, 1) := by decide +kernel
theorem d_Fo_readRow_2 : decode prog_5_method_5_code 2 = .ok (.iconst 0, 1) := by decide +kernel
theorem d_Fo_readRow_3 : decode prog_5_method_5_code 3 = .ok (.istore 4, 2) := by decide +kernel
theorem d_Fo_readRow_5 : decode prog_5_method_5_code 5 = .ok (.iconst 0, 1) := by decide +kernel
theorem d_Fo_readRow_6 : decode prog_5_method_5_code 6 = .ok (.istore 5, 2) := by decide +kernel
theorem d_Fo_readRow_8 : decode prog_5_method_5_code 8 = .ok (.iload 5, 2) := by decide +kernel
theorem d_Fo_readRow_10 : decode prog_5_method_5_code 10 = .ok (.iload_n 2, 1) := by decide +kernel
theorem d_Fo_readRow_11 : decode prog_5_method_5_code 11 = .ok (.if_icmp .ge 35, 3) := by decide +kernel
theorem d_Fo_readRow_14 : decode prog_5_method_5_code 14 = .ok (.aload_n 0, 1) := by decide +kernel
theorem d_Fo_readRow_15 : decode prog_5_method_5_code 15 = .ok (.iload_n 1, 1) := by decide +kernel
theorem d_Fo_readRow_16 : decode prog_5_method_5_code 16 = .ok (.iload_n 3, 1) := by decide +kernel
theorem d_Fo_readRow_17 : decode prog_5_method_5_code 17 = .ok (.iadd, 1) := by decide +kernel
theorem d_Fo_readRow_18 : decode prog_5_method_5_code 18 = .ok (.invokevirtual 74, 3) := by decide +kernel
theorem d_Fo_readRow_21 : decode prog_5_method_5_code 21 = .ok (.istore 6, 2) := by decide +kernel
theorem d_Fo_readRow_23 : decode prog_5_method_5_code 23 = .ok (.iconst 2, 1) := by decide +kernel
theorem d_Fo_readRow_24 : decode prog_5_method_5_code 24 = .ok (.iload_n 3, 1) := by decide +kernel
theorem d_Fo_readRow_25 : decode prog_5_method_5_code 25 = .ok (.imul, 1) := by decide +kernel
theorem d_Fo_readRow_26 : decode prog_5_method_5_code 26 = .ok (.iload 6, 2) := by decide +kernel
theorem d_Fo_readRow_28 : decode prog_5_method_5_code 28 = .ok (.iadd, 1) := by decide +kernel
theorem d_Fo_readRow_29 : decode prog_5_method_5_code 29 = .ok (.istore_n 3, 1) := by decide +kernel
theorem d_Fo_readRow_30 : decode prog_5_method_5_code 30 = .ok (.iload 4, 2) := by decide +kernel
theorem d_Fo_readRow_32 : decode prog_5_method_5_code 32 = .ok (.iload 6, 2) := by decide +kernel
theorem d_Fo_readRow_34 : decode prog_5_method_5_code 34 = .ok (.iload 5, 2) := by decide +kernel
theorem d_Fo_readRow_36 : decode prog_5_method_5_code 36 = .ok (.ishl, 1) := by decide +kernel
theorem d_Fo_readRow_37 : decode prog_5_method_5_code 37 = .ok (.iadd, 1) := by decide +kernel
theorem d_Fo_readRow_38 : decode prog_5_method_5_code 38 = .ok (.istore 4, 2) := by decide +kernel
theorem d_Fo_readRow_40 : decode prog_5_method_5_code 40 = .ok (.iinc 5 1, 3) := by decide +kernel
theorem d_Fo_readRow_43 : decode prog_5_method_5_code 43 = .ok (.goto (-35), 3) := by decide +kernel
theorem d_Fo_readRow_46 : decode prog_5_method_5_code 46 = .ok (.iload 4, 2) := by decide +kernel
theorem d_Fo_readRow_48 : decode prog_5_method_5_code 48 = .ok (.ireturn, 1) := by decide +kernel
theorem d_Fo_refuseWhatIsLeft_0 : decode prog_5_method_6_code 0 = .ok (.aload_n 0, 1) := by decide +kernel
theorem d_Fo_refuseWhatIsLeft_1 : decode prog_5_method_6_code 1 = .ok (.getfield 42, 3) := by decide +kernel
theorem d_Fo_refuseWhatIsLeft_4 : decode prog_5_method_6_code 4 = .ok (.aload_n 0, 1) := by decide +kernel
theorem d_Fo_refuseWhatIsLeft_5 : decode prog_5_method_6_code 5 = .ok (.getfield 23, 3) := by decide +kernel
theorem d_Fo_refuseWhatIsLeft_8 : decode prog_5_method_6_code 8 = .ok (.getfield 34, 3) := by decide +kernel
theorem d_Fo_refuseWhatIsLeft_11 : decode prog_5_method_6_code 11 = .ok (.if_icmp .lt 12, 3) := by decide +kernel
theorem d_Fo_refuseWhatIsLeft_14 : decode prog_5_method_6_code 14 = .ok (.aload_n 0, 1) := by decide +kernel
theorem d_Fo_refuseWhatIsLeft_15 : decode prog_5_method_6_code 15 = .ok (.getfield 45, 3) := by decide +kernel
theorem d_Fo_refuseWhatIsLeft_18 : decode prog_5_method_6_code 18 = .ok (.lconst 0, 1) := by decide +kernel
theorem d_Fo_refuseWhatIsLeft_19 : decode prog_5_method_6_code 19 = .ok (.lcmp, 1) := by decide +kernel
theorem d_Fo_refuseWhatIsLeft_20 : decode prog_5_method_6_code 20 = .ok (.ifCond .eq 13, 3) := by decide +kernel
theorem d_Fo_refuseWhatIsLeft_23 : decode prog_5_method_6_code 23 = .ok (.new 57, 3) := by decide +kernel
theorem d_Fo_refuseWhatIsLeft_26 : decode prog_5_method_6_code 26 = .ok (.dup, 1) := by decide +kernel
theorem d_Fo_refuseWhatIsLeft_27 : decode prog_5_method_6_code 27 = .ok (.ldc 78, 2) := by decide +kernel
theorem d_Fo_refuseWhatIsLeft_29 : decode prog_5_method_6_code 29 = .ok (.invokespecial 61, 3) := by decide +kernel
theorem d_Fo_refuseWhatIsLeft_32 : decode prog_5_method_6_code 32 = .ok (.athrow, 1) := by decide +kernel
theorem d_Fo_refuseWhatIsLeft_33 : decode prog_5_method_6_code 33 = .ok (.return_, 1) := by decide +kernel
theorem d_Fo_takeByte_0 : decode prog_5_method_7_code 0 = .ok (.aload_n 0, 1) := by decide +kernel
theorem d_Fo_takeByte_1 : decode prog_5_method_7_code 1 = .ok (.getfield 23, 3) := by decide +kernel
theorem d_Fo_takeByte_4 : decode prog_5_method_7_code 4 = .ok (.aload_n 0, 1) := by decide +kernel
theorem d_Fo_takeByte_5 : decode prog_5_method_7_code 5 = .ok (.getfield 42, 3) := by decide +kernel
theorem d_Fo_takeByte_8 : decode prog_5_method_7_code 8 = .ok (.invokevirtual 80, 3) := by decide +kernel
theorem d_Fo_takeByte_11 : decode prog_5_method_7_code 11 = .ok (.ifCond .ne 13, 3) := by decide +kernel
theorem d_Fo_takeByte_14 : decode prog_5_method_7_code 14 = .ok (.new 84, 3) := by decide +kernel
theorem d_Fo_takeByte_17 : decode prog_5_method_7_code 17 = .ok (.dup, 1) := by decide +kernel
theorem d_Fo_takeByte_18 : decode prog_5_method_7_code 18 = .ok (.ldc 86, 2) := by decide +kernel
theorem d_Fo_takeByte_20 : decode prog_5_method_7_code 20 = .ok (.invokespecial 88, 3) := by decide +kernel
theorem d_Fo_takeByte_23 : decode prog_5_method_7_code 23 = .ok (.athrow, 1) := by decide +kernel
theorem d_Fo_takeByte_24 : decode prog_5_method_7_code 24 = .ok (.aload_n 0, 1) := by decide +kernel
theorem d_Fo_takeByte_25 : decode prog_5_method_7_code 25 = .ok (.aload_n 0, 1) := by decide +kernel
theorem d_Fo_takeByte_26 : decode prog_5_method_7_code 26 = .ok (.getfield 45, 3) := by decide +kernel
theorem d_Fo_takeByte_29 : decode prog_5_method_7_code 29 = .ok (.bipush 8, 2) := by decide +kernel
theorem d_Fo_takeByte_31 : decode prog_5_method_7_code 31 = .ok (.lshl, 1) := by decide +kernel
theorem d_Fo_takeByte_32 : decode prog_5_method_7_code 32 = .ok (.aload_n 0, 1) := by decide +kernel
theorem d_Fo_takeByte_33 : decode prog_5_method_7_code 33 = .ok (.getfield 23, 3) := by decide +kernel
theorem d_Fo_takeByte_36 : decode prog_5_method_7_code 36 = .ok (.getfield 30, 3) := by decide +kernel
theorem d_Fo_takeByte_39 : decode prog_5_method_7_code 39 = .ok (.aload_n 0, 1) := by decide +kernel
theorem d_Fo_takeByte_40 : decode prog_5_method_7_code 40 = .ok (.getfield 42, 3) := by decide +kernel
theorem d_Fo_takeByte_43 : decode prog_5_method_7_code 43 = .ok (.iaload, 1) := by decide +kernel
theorem d_Fo_takeByte_44 : decode prog_5_method_7_code 44 = .ok (.i2l, 1) := by decide +kernel
theorem d_Fo_takeByte_45 : decode prog_5_method_7_code 45 = .ok (.ladd, 1) := by decide +kernel
theorem d_Fo_takeByte_46 : decode prog_5_method_7_code 46 = .ok (.putfield 45, 3) := by decide +kernel
theorem d_Fo_takeByte_49 : decode prog_5_method_7_code 49 = .ok (.aload_n 0, 1) := by decide +kernel
theorem d_Fo_takeByte_50 : decode prog_5_method_7_code 50 = .ok (.dup, 1) := by decide +kernel
theorem d_Fo_takeByte_51 : decode prog_5_method_7_code 51 = .ok (.getfield 42, 3) := by decide +kernel
theorem d_Fo_takeByte_54 : decode prog_5_method_7_code 54 = .ok (.iconst 1, 1) := by decide +kernel
theorem d_Fo_takeByte_55 : decode prog_5_method_7_code 55 = .ok (.iadd, 1) := by decide +kernel
theorem d_Fo_takeByte_56 : decode prog_5_method_7_code 56 = .ok (.putfield 42, 3) := by decide +kernel
theorem d_Fo_takeByte_59 : decode prog_5_method_7_code 59 = .ok (.return_, 1) := by decide +kernel
theorem d_Hi_init_0 : decode prog_6_method_1_code 0 = .ok (.aload_n 0, 1) := by decide +kernel
theorem d_Hi_init_1 : decode prog_6_method_1_code 1 = .ok (.invokespecial 3, 3) := by decide +kernel
theorem d_Hi_init_4 : decode prog_6_method_1_code 4 = .ok (.aload_n 0, 1) := by decide +kernel
theorem d_Hi_init_5 : decode prog_6_method_1_code 5 = .ok (.new 9, 3) := by decide +kernel
theorem d_Hi_init_8 : decode prog_6_method_1_code 8 = .ok (.dup, 1) := by decide +kernel
theorem d_Hi_init_9 : decode prog_6_method_1_code 9 = .ok (.bipush 120, 2) := by decide +kernel
theorem d_Hi_init_11 : decode prog_6_method_1_code 11 = .ok (.invokespecial 11, 3) := by decide +kernel
theorem d_Hi_init_14 : decode prog_6_method_1_code 14 = .ok (.putfield 14, 3) := by decide +kernel
theorem d_Hi_init_17 : decode prog_6_method_1_code 17 = .ok (.aload_n 0, 1) := by decide +kernel
theorem d_Hi_init_18 : decode prog_6_method_1_code 18 = .ok (.iconst 4, 1) := by decide +kernel
theorem d_Hi_init_19 : decode prog_6_method_1_code 19 = .ok (.newarray .int, 2) := by decide +kernel
theorem d_Hi_init_21 : decode prog_6_method_1_code 21 = .ok (.putfield 20, 3) := by decide +kernel
theorem d_Hi_init_24 : decode prog_6_method_1_code 24 = .ok (.return_, 1) := by decide +kernel
theorem d_Hi_restart_0 : decode prog_6_method_2_code 0 = .ok (.aload_n 0, 1) := by decide +kernel
theorem d_Hi_restart_1 : decode prog_6_method_2_code 1 = .ok (.getfield 14, 3) := by decide +kernel
theorem d_Hi_restart_4 : decode prog_6_method_2_code 4 = .ok (.iconst 0, 1) := by decide +kernel
theorem d_Hi_restart_5 : decode prog_6_method_2_code 5 = .ok (.invokevirtual 24, 3) := by decide +kernel
theorem d_Hi_restart_8 : decode prog_6_method_2_code 8 = .ok (.pop, 1) := by decide +kernel
theorem d_Hi_restart_9 : decode prog_6_method_2_code 9 = .ok (.aload_n 0, 1) := by decide +kernel
theorem d_Hi_restart_10 : decode prog_6_method_2_code 10 = .ok (.getfield 20, 3) := by decide +kernel
theorem d_Hi_restart_13 : decode prog_6_method_2_code 13 = .ok (.iconst 1, 1) := by decide +kernel
theorem d_Hi_restart_14 : decode prog_6_method_2_code 14 = .ok (.invokestatic 28, 3) := by decide +kernel
theorem d_Hi_restart_17 : decode prog_6_method_2_code 17 = .ok (.aload_n 0, 1) := by decide +kernel
theorem d_Hi_restart_18 : decode prog_6_method_2_code 18 = .ok (.iconst 0, 1) := by decide +kernel
theorem d_Hi_restart_19 : decode prog_6_method_2_code 19 = .ok (.putfield 34, 3) := by decide +kernel
theorem d_Hi_restart_22 : decode prog_6_method_2_code 22 = .ok (.return_, 1) := by decide +kernel
theorem d_Hi_tell_0 : decode prog_6_method_3_code 0 = .ok (.aload_n 1, 1) := by decide +kernel
theorem d_Hi_tell_1 : decode prog_6_method_3_code 1 = .ok (.getfield 38, 3) := by decide +kernel
theorem d_Hi_tell_4 : decode prog_6_method_3_code 4 = .ok (.ifCond .ne 18, 3) := by decide +kernel
theorem d_Hi_tell_7 : decode prog_6_method_3_code 7 = .ok (.aload_n 0, 1) := by decide +kernel
theorem d_Hi_tell_8 : decode prog_6_method_3_code 8 = .ok (.getfield 14, 3) := by decide +kernel
theorem d_Hi_tell_11 : decode prog_6_method_3_code 11 = .ok (.aload_n 1, 1) := by decide +kernel
theorem d_Hi_tell_12 : decode prog_6_method_3_code 12 = .ok (.getfield 43, 3) := by decide +kernel
theorem d_Hi_tell_15 : decode prog_6_method_3_code 15 = .ok (.invokevirtual 46, 3) := by decide +kernel
theorem d_Hi_tell_18 : decode prog_6_method_3_code 18 = .ok (.pop, 1) := by decide +kernel
theorem d_Hi_tell_19 : decode prog_6_method_3_code 19 = .ok (.goto 15, 3) := by decide +kernel
theorem d_Hi_tell_22 : decode prog_6_method_3_code 22 = .ok (.aload_n 0, 1) := by decide +kernel
theorem d_Hi_tell_23 : decode prog_6_method_3_code 23 = .ok (.aload_n 1, 1) := by decide +kernel
theorem d_Hi_tell_24 : decode prog_6_method_3_code 24 = .ok (.getfield 50, 3) := by decide +kernel
theorem d_Hi_tell_27 : decode prog_6_method_3_code 27 = .ok (.aload_n 1, 1) := by decide +kernel
theorem d_Hi_tell_28 : decode prog_6_method_3_code 28 = .ok (.getfield 53, 3) := by decide +kernel
theorem d_Hi_tell_31 : decode prog_6_method_3_code 31 = .ok (.invokevirtual 56, 3) := by decide +kernel
theorem d_Hi_tell_34 : decode prog_6_method_3_code 34 = .ok (.aload_n 1, 1) := by decide +kernel
theorem d_Hi_tell_35 : decode prog_6_method_3_code 35 = .ok (.getfield 38, 3) := by decide +kernel
theorem d_Hi_tell_38 : decode prog_6_method_3_code 38 = .ok (.iconst 1, 1) := by decide +kernel
theorem d_Hi_tell_39 : decode prog_6_method_3_code 39 = .ok (.if_icmp .ne 15, 3) := by decide +kernel
theorem d_Hi_tell_42 : decode prog_6_method_3_code 42 = .ok (.aload_n 0, 1) := by decide +kernel
theorem d_Hi_tell_43 : decode prog_6_method_3_code 43 = .ok (.iconst 3, 1) := by decide +kernel
theorem d_Hi_tell_44 : decode prog_6_method_3_code 44 = .ok (.aload_n 1, 1) := by decide +kernel
theorem d_Hi_tell_45 : decode prog_6_method_3_code 45 = .ok (.getfield 53, 3) := by decide +kernel
theorem d_Hi_tell_48 : decode prog_6_method_3_code 48 = .ok (.invokevirtual 60, 3) := by decide +kernel
theorem d_Hi_tell_51 : decode prog_6_method_3_code 51 = .ok (.goto 23, 3) := by decide +kernel
theorem d_Hi_tell_54 : decode prog_6_method_3_code 54 = .ok (.aload_n 1, 1) := by decide +kernel
theorem d_Hi_tell_55 : decode prog_6_method_3_code 55 = .ok (.getfield 38, 3) := by decide +kernel
theorem d_Hi_tell_58 : decode prog_6_method_3_code 58 = .ok (.iconst 2, 1) := by decide +kernel
theorem d_Hi_tell_59 : decode prog_6_method_3_code 59 = .ok (.if_icmp .ne 15, 3) := by decide +kernel
theorem d_Hi_tell_62 : decode prog_6_method_3_code 62 = .ok (.aload_n 0, 1) := by decide +kernel
theorem d_Hi_tell_63 : decode prog_6_method_3_code 63 = .ok (.aload_n 1, 1) := by decide +kernel
theorem d_Hi_tell_64 : decode prog_6_method_3_code 64 = .ok (.getfield 63, 3) := by decide +kernel
theorem d_Hi_tell_67 : decode prog_6_method_3_code 67 = .ok (.aload_n 1, 1) := by decide +kernel
theorem d_Hi_tell_68 : decode prog_6_method_3_code 68 = .ok (.getfield 53, 3) := by decide +kernel
theorem d_Hi_tell_71 : decode prog_6_method_3_code 71 = .ok (.invokevirtual 60, 3) := by decide +kernel
theorem d_Hi_tell_74 : decode prog_6_method_3_code 74 = .ok (.aload_n 0, 1) := by decide +kernel
theorem d_Hi_tell_75 : decode prog_6_method_3_code 75 = .ok (.aload_n 0, 1) := by decide +kernel
theorem d_Hi_tell_76 : decode prog_6_method_3_code 76 = .ok (.aload_n 1, 1) := by decide +kernel
theorem d_Hi_tell_77 : decode prog_6_method_3_code 77 = .ok (.getfield 38, 3) := by decide +kernel
theorem d_Hi_tell_80 : decode prog_6_method_3_code 80 = .ok (.invokevirtual 66, 3) := by decide +kernel
theorem d_Hi_tell_83 : decode prog_6_method_3_code 83 = .ok (.putfield 34, 3) := by decide +kernel
theorem d_Hi_tell_86 : decode prog_6_method_3_code 86 = .ok (.return_, 1) := by decide +kernel
theorem d_Hi_byteBefore_0 : decode prog_6_method_4_code 0 = .ok (.iload_n 1, 1) := by decide +kernel
theorem d_Hi_byteBefore_1 : decode prog_6_method_4_code 1 = .ok (.iconst 1, 1) := by decide +kernel
theorem d_Hi_byteBefore_2 : decode prog_6_method_4_code 2 = .ok (.if_icmp .lt 18, 3) := by decide +kernel
theorem d_Hi_byteBefore_5 : decode prog_6_method_4_code 5 = .ok (.iload_n 1, 1) := by decide +kernel
theorem d_Hi_byteBefore_6 : decode prog_6_method_4_code 6 = .ok (.aload_n 0, 1) := by decide +kernel
theorem d_Hi_byteBefore_7 : decode prog_6_method_4_code 7 = .ok (.getfield 14, 3) := by decide +kernel
theorem d_Hi_byteBefore_10 : decode prog_6_method_4_code 10 = .ok (.getfield 69, 3) := by decide +kernel
theorem d_Hi_byteBefore_13 : decode prog_6_method_4_code 13 = .ok (.if_icmp .gt 7, 3) := by decide +kernel
theorem d_Hi_byteBefore_16 : decode prog_6_method_4_code 16 = .ok (.iconst 1, 1) := by decide +kernel
theorem d_Hi_byteBefore_17 : decode prog_6_method_4_code 17 = .ok (.goto 4, 3) := by decide +kernel
theorem d_Hi_byteBefore_20 : decode prog_6_method_4_code 20 = .ok (.iconst 0, 1) := by decide +kernel
theorem d_Hi_byteBefore_21 : decode prog_6_method_4_code 21 = .ok (.istore_n 2, 1) := by decide +kernel
theorem d_Hi_byteBefore_22 : decode prog_6_method_4_code 22 = .ok (.iload_n 2, 1) := by decide +kernel
theorem d_Hi_byteBefore_23 : decode prog_6_method_4_code 23 = .ok (.ifCond .eq 23, 3) := by decide +kernel
theorem d_Hi_byteBefore_26 : decode prog_6_method_4_code 26 = .ok (.aload_n 0, 1) := by decide +kernel
theorem d_Hi_byteBefore_27 : decode prog_6_method_4_code 27 = .ok (.getfield 14, 3) := by decide +kernel
theorem d_Hi_byteBefore_30 : decode prog_6_method_4_code 30 = .ok (.getfield 72, 3) := by decide +kernel
theorem d_Hi_byteBefore_33 : decode prog_6_method_4_code 33 = .ok (.aload_n 0, 1) := by decide +kernel
theorem d_Hi_byteBefore_34 : decode prog_6_method_4_code 34 = .ok (.getfield 14, 3) := by decide +kernel
theorem d_Hi_byteBefore_37 : decode prog_6_method_4_code 37 = .ok (.getfield 69, 3) := by decide +kernel
theorem d_Hi_byteBefore_40 : decode prog_6_method_4_code 40 = .ok (.iload_n 1, 1) := by decide +kernel
theorem d_Hi_byteBefore_41 : decode prog_6_method_4_code 41 = .ok (.isub, 1) := by decide +kernel
theorem d_Hi_byteBefore_42 : decode prog_6_method_4_code 42 = .ok (.iaload, 1) := by decide +kernel
theorem d_Hi_byteBefore_43 : decode prog_6_method_4_code 43 = .ok (.goto 4, 3) := by decide +kernel
theorem d_Hi_byteBefore_46 : decode prog_6_method_4_code 46 = .ok (.iconst 0, 1) := by decide +kernel
theorem d_Hi_byteBefore_47 : decode prog_6_method_4_code 47 = .ok (.ireturn, 1) := by decide +kernel
theorem d_Hi_isBehindACopy_0 : decode prog_6_method_5_code 0 = .ok (.aload_n 0, 1) := by decide +kernel
theorem d_Hi_isBehindACopy_1 : decode prog_6_method_5_code 1 = .ok (.getfield 34, 3) := by decide +kernel
theorem d_Hi_isBehindACopy_4 : decode prog_6_method_5_code 4 = .ok (.bipush 7, 2) := by decide +kernel
theorem d_Hi_isBehindACopy_6 : decode prog_6_method_5_code 6 = .ok (.if_icmp .lt 7, 3) := by decide +kernel
theorem d_Hi_isBehindACopy_9 : decode prog_6_method_5_code 9 = .ok (.iconst 1, 1) := by decide +kernel
theorem d_Hi_isBehindACopy_10 : decode prog_6_method_5_code 10 = .ok (.goto 4, 3) := by decide +kernel
theorem d_Hi_isBehindACopy_13 : decode prog_6_method_5_code 13 = .ok (.iconst 0, 1) := by decide +kernel
theorem d_Hi_isBehindACopy_14 : decode prog_6_method_5_code 14 = .ok (.ireturn, 1) := by decide +kernel
theorem d_Hi_placeOfLiterals_0 : decode prog_6_method_6_code 0 = .ok (.aload_n 0, 1) := by decide +kernel
theorem d_Hi_placeOfLiterals_1 : decode prog_6_method_6_code 1 = .ok (.iconst 1, 1) := by decide +kernel
theorem d_Hi_placeOfLiterals_2 : decode prog_6_method_6_code 2 = .ok (.invokevirtual 75, 3) := by decide +kernel
theorem d_Hi_placeOfLiterals_5 : decode prog_6_method_6_code 5 = .ok (.bipush 6, 2) := by decide +kernel
theorem d_Hi_placeOfLiterals_7 : decode prog_6_method_6_code 7 = .ok (.ishr, 1) := by decide +kernel
theorem d_Hi_placeOfLiterals_8 : decode prog_6_method_6_code 8 = .ok (.istore_n 1, 1) := by decide +kernel
theorem d_Hi_placeOfLiterals_9 : decode prog_6_method_6_code 9 = .ok (.sipush 748, 3) := by decide +kernel
theorem d_Hi_placeOfLiterals_12 : decode prog_6_method_6_code 12 = .ok (.iload_n 1, 1) := by decide +kernel
theorem d_Hi_placeOfLiterals_13 : decode prog_6_method_6_code 13 = .ok (.iconst 3, 1) := by decide +kernel
theorem d_Hi_placeOfLiterals_14 : decode prog_6_method_6_code 14 = .ok (.imul, 1) := by decide +kernel
theorem d_Hi_placeOfLiterals_15 : decode prog_6_method_6_code 15 = .ok (.sipush 256, 3) := by decide +kernel
theorem d_Hi_placeOfLiterals_18 : decode prog_6_method_6_code 18 = .ok (.imul, 1) := by decide +kernel
theorem d_Hi_placeOfLiterals_19 : decode prog_6_method_6_code 19 = .ok (.iadd, 1) := by decide +kernel
theorem d_Hi_placeOfLiterals_20 : decode prog_6_method_6_code 20 = .ok (.ireturn, 1) := by decide +kernel
theorem d_Hi_repeat_0 : decode prog_6_method_7_code 0 = .ok (.iconst 0, 1) := by decide +kernel
theorem d_Hi_repeat_1 : decode prog_6_method_7_code 1 = .ok (.istore_n 3, 1) := by decide +kernel
theorem d_Hi_repeat_2 : decode prog_6_method_7_code 2 = .ok (.iload_n 3, 1) := by decide +kernel
theorem d_Hi_repeat_3 : decode prog_6_method_7_code 3 = .ok (.iload_n 1, 1) := by decide +kernel
theorem d_Hi_repeat_4 : decode prog_6_method_7_code 4 = .ok (.if_icmp .ge 22, 3) := by decide +kernel
theorem d_Hi_repeat_7 : decode prog_6_method_7_code 7 = .ok (.aload_n 0, 1) := by decide +kernel
theorem d_Hi_repeat_8 : decode prog_6_method_7_code 8 = .ok (.getfield 14, 3) := by decide +kernel
theorem d_Hi_repeat_11 : decode prog_6_method_7_code 11 = .ok (.aload_n 0, 1) := by decide +kernel
theorem d_Hi_repeat_12 : decode prog_6_method_7_code 12 = .ok (.iload_n 2, 1) := by decide +kernel
theorem d_Hi_repeat_13 : decode prog_6_method_7_code 13 = .ok (.invokevirtual 75, 3) := by decide +kernel
theorem d_Hi_repeat_16 : decode prog_6_method_7_code 16 = .ok (.invokevirtual 46, 3) := by decide +kernel
theorem d_Hi_repeat_19 : decode prog_6_method_7_code 19 = .ok (.pop, 1) := by decide +kernel
theorem d_Hi_repeat_20 : decode prog_6_method_7_code 20 = .ok (.iinc 3 1, 3) := by decide +kernel
theorem d_Hi_repeat_23 : decode prog_6_method_7_code 23 = .ok (.goto (-21), 3) := by decide +kernel
theorem d_Hi_repeat_26 : decode prog_6_method_7_code 26 = .ok (.return_, 1) := by decide +kernel
theorem d_Hi_bringToFront_0 : decode prog_6_method_8_code 0 = .ok (.iload_n 1, 1) := by decide +kernel
theorem d_Hi_bringToFront_1 : decode prog_6_method_8_code 1 = .ok (.istore_n 3, 1) := by decide +kernel
theorem d_Hi_bringToFront_2 : decode prog_6_method_8_code 2 = .ok (.iload_n 3, 1) := by decide +kernel
theorem d_Hi_bringToFront_3 : decode prog_6_method_8_code 3 = .ok (.ifCond .le 23, 3) := by decide +kernel
theorem d_Hi_bringToFront_6 : decode prog_6_method_8_code 6 = .ok (.aload_n 0, 1) := by decide +kernel
theorem d_Hi_bringToFront_7 : decode prog_6_method_8_code 7 = .ok (.getfield 20, 3) := by decide +kernel
theorem d_Hi_bringToFront_10 : decode prog_6_method_8_code 10 = .ok (.iload_n 3, 1) := by decide +kernel
theorem d_Hi_bringToFront_11 : decode prog_6_method_8_code 11 = .ok (.aload_n 0, 1) := by decide +kernel
theorem d_Hi_bringToFront_12 : decode prog_6_method_8_code 12 = .ok (.getfield 20, 3) := by decide +kernel
theorem d_Hi_bringToFront_15 : decode prog_6_method_8_code 15 = .ok (.iload_n 3, 1) := by decide +kernel
theorem d_Hi_bringToFront_16 : decode prog_6_method_8_code 16 = .ok (.iconst 1, 1) := by decide +kernel
theorem d_Hi_bringToFront_17 : decode prog_6_method_8_code 17 = .ok (.isub, 1) := by decide +kernel
theorem d_Hi_bringToFront_18 : decode prog_6_method_8_code 18 = .ok (.iaload, 1) := by decide +kernel
theorem d_Hi_bringToFront_19 : decode prog_6_method_8_code 19 = .ok (.iastore, 1) := by decide +kernel
theorem d_Hi_bringToFront_20 : decode prog_6_method_8_code 20 = .ok (.iinc 3 (-1), 3) := by decide +kernel
theorem d_Hi_bringToFront_23 : decode prog_6_method_8_code 23 = .ok (.goto (-21), 3) := by decide +kernel
theorem d_Hi_bringToFront_26 : decode prog_6_method_8_code 26 = .ok (.aload_n 0, 1) := by decide +kernel
theorem d_Hi_bringToFront_27 : decode prog_6_method_8_code 27 = .ok (.getfield 20, 3) := by decide +kernel
theorem d_Hi_bringToFront_30 : decode prog_6_method_8_code 30 = .ok (.iconst 0, 1) := by decide +kernel
theorem d_Hi_bringToFront_31 : decode prog_6_method_8_code 31 = .ok (.iload_n 2, 1) := by decide +kernel
theorem d_Hi_bringToFront_32 : decode prog_6_method_8_code 32 = .ok (.iastore, 1) := by decide +kernel
theorem d_Hi_bringToFront_33 : decode prog_6_method_8_code 33 = .ok (.return_, 1) := by decide +kernel
theorem d_Hi_stateBehind_0 : decode prog_6_method_9_code 0 = .ok (.iload_n 1, 1) := by decide +kernel
theorem d_Hi_stateBehind_1 : decode prog_6_method_9_code 1 = .ok (.tableswitch 62 0 2 #[27, 32, 47], 27) := by decide +kernel
theorem d_Hi_stateBehind_28 : decode prog_6_method_9_code 28 = .ok (.aload_n 0, 1) := by decide +kernel
theorem d_Hi_stateBehind_29 : decode prog_6_method_9_code 29 = .ok (.invokevirtual 78, 3) := by decide +kernel
theorem d_Hi_stateBehind_32 : decode prog_6_method_9_code 32 = .ok (.ireturn, 1) := by decide +kernel
theorem d_Hi_stateBehind_33 : decode prog_6_method_9_code 33 = .ok (.aload_n 0, 1) := by decide +kernel
theorem d_Hi_stateBehind_34 : decode prog_6_method_9_code 34 = .ok (.invokevirtual 82, 3) := by decide +kernel
theorem d_Hi_stateBehind_37 : decode prog_6_method_9_code 37 = .ok (.ifCond .eq 8, 3) := by decide +kernel
theorem d_Hi_stateBehind_40 : decode prog_6_method_9_code 40 = .ok (.bipush 10, 2) := by decide +kernel
theorem d_Hi_stateBehind_42 : decode prog_6_method_9_code 42 = .ok (.goto 5, 3) := by decide +kernel
theorem d_Hi_stateBehind_45 : decode prog_6_method_9_code 45 = .ok (.bipush 7, 2) := by decide +kernel
theorem d_Hi_stateBehind_47 : decode prog_6_method_9_code 47 = .ok (.ireturn, 1) := by decide +kernel
theorem d_Hi_stateBehind_48 : decode prog_6_method_9_code 48 = .ok (.aload_n 0, 1) := by decide +kernel
theorem d_Hi_stateBehind_49 : decode prog_6_method_9_code 49 = .ok (.invokevirtual 82, 3) := by decide +kernel
theorem d_Hi_stateBehind_52 : decode prog_6_method_9_code 52 = .ok (.ifCond .eq 8, 3) := by decide +kernel
theorem d_Hi_stateBehind_55 : decode prog_6_method_9_code 55 = .ok (.bipush 11, 2) := by decide +kernel
theorem d_Hi_stateBehind_57 : decode prog_6_method_9_code 57 = .ok (.goto 5, 3) := by decide +kernel
theorem d_Hi_stateBehind_60 : decode prog_6_method_9_code 60 = .ok (.bipush 8, 2) := by decide +kernel
theorem d_Hi_stateBehind_62 : decode prog_6_method_9_code 62 = .ok (.ireturn, 1) := by decide +kernel
theorem d_Hi_stateBehind_63 : decode prog_6_method_9_code 63 = .ok (.aload_n 0, 1) := by decide +kernel
theorem d_Hi_stateBehind_64 : decode prog_6_method_9_code 64 = .ok (.invokevirtual 82, 3) := by decide +kernel
theorem d_Hi_stateBehind_67 : decode prog_6_method_9_code 67 = .ok (.ifCond .eq 8, 3) := by decide +kernel
theorem d_Hi_stateBehind_70 : decode prog_6_method_9_code 70 = .ok (.bipush 11, 2) := by decide +kernel
theorem d_Hi_stateBehind_72 : decode prog_6_method_9_code 72 = .ok (.goto 5, 3) := by decide +kernel
theorem d_Hi_stateBehind_75 : decode prog_6_method_9_code 75 = .ok (.bipush 9, 2) := by decide +kernel
theorem d_Hi_stateBehind_77 : decode prog_6_method_9_code 77 = .ok (.ireturn, 1) := by decide +kernel
theorem d_Hi_stateBehindLiteral_0 : decode prog_6_method_10_code 0 = .ok (.aload_n 0, 1) := by decide +kernel
theorem d_Hi_stateBehindLiteral_1 : decode prog_6_method_10_code 1 = .ok (.getfield 34, 3) := by decide +kernel
theorem d_Hi_stateBehindLiteral_4 : decode prog_6_method_10_code 4 = .ok (.iconst 4, 1) := by decide +kernel
theorem d_Hi_stateBehindLiteral_5 : decode prog_6_method_10_code 5 = .ok (.if_icmp .ge 5, 3) := by decide +kernel
theorem d_Hi_stateBehindLiteral_8 : decode prog_6_method_10_code 8 = .ok (.iconst 0, 1) := by decide +kernel
theorem d_Hi_stateBehindLiteral_9 : decode prog_6_method_10_code 9 = .ok (.ireturn, 1) := by decide +kernel
theorem d_Hi_stateBehindLiteral_10 : decode prog_6_method_10_code 10 = .ok (.aload_n 0, 1) := by decide +kernel
theorem d_Hi_stateBehindLiteral_11 : decode prog_6_method_10_code 11 = .ok (.getfield 34, 3) := by decide +kernel
theorem d_Hi_stateBehindLiteral_14 : decode prog_6_method_10_code 14 = .ok (.bipush 10, 2) := by decide +kernel
theorem d_Hi_stateBehindLiteral_16 : decode prog_6_method_10_code 16 = .ok (.if_icmp .ge 12, 3) := by decide +kernel
theorem d_Hi_stateBehindLiteral_19 : decode prog_6_method_10_code 19 = .ok (.aload_n 0, 1) := by decide +kernel
theorem d_Hi_stateBehindLiteral_20 : decode prog_6_method_10_code 20 = .ok (.getfield 34, 3) := by decide +kernel
theorem d_Hi_stateBehindLiteral_23 : decode prog_6_method_10_code 23 = .ok (.iconst 3, 1) := by decide +kernel
theorem d_Hi_stateBehindLiteral_24 : decode prog_6_method_10_code 24 = .ok (.isub, 1) := by decide +kernel
theorem d_Hi_stateBehindLiteral_25 : decode prog_6_method_10_code 25 = .ok (.goto 10, 3) := by decide +kernel
theorem d_Hi_stateBehindLiteral_28 : decode prog_6_method_10_code 28 = .ok (.aload_n 0, 1) := by decide +kernel
theorem d_Hi_stateBehindLiteral_29 : decode prog_6_method_10_code 29 = .ok (.getfield 34, 3) := by decide +kernel
theorem d_Hi_stateBehindLiteral_32 : decode prog_6_method_10_code 32 = .ok (.bipush 6, 2) := by decide +kernel
theorem d_Hi_stateBehindLiteral_34 : decode prog_6_method_10_code 34 = .ok (.isub, 1) := by decide +kernel
theorem d_Hi_stateBehindLiteral_35 : decode prog_6_method_10_code 35 = .ok (.ireturn, 1) := by decide +kernel
theorem d_Na_init_0 : decode prog_7_method_1_code 0 = .ok (.aload_n 0, 1) := by decide +kernel
theorem d_Na_init_1 : decode prog_7_method_1_code 1 = .ok (.invokespecial 3, 3) := by decide +kernel
theorem d_Na_init_4 : decode prog_7_method_1_code 4 = .ok (.aload_n 0, 1) := by decide +kernel
theorem d_Na_init_5 : decode prog_7_method_1_code 5 = .ok (.new 9, 3) := by decide +kernel
theorem d_Na_init_8 : decode prog_7_method_1_code 8 = .ok (.dup, 1) := by decide +kernel
theorem d_Na_init_9 : decode prog_7_method_1_code 9 = .ok (.invokespecial 11, 3) := by decide +kernel
theorem d_Na_init_12 : decode prog_7_method_1_code 12 = .ok (.putfield 12, 3) := by decide +kernel
theorem d_Na_init_15 : decode prog_7_method_1_code 15 = .ok (.aload_n 0, 1) := by decide +kernel
theorem d_Na_init_16 : decode prog_7_method_1_code 16 = .ok (.sipush 200, 3) := by decide +kernel
theorem d_Na_init_19 : decode prog_7_method_1_code 19 = .ok (.newarray .int, 2) := by decide +kernel
theorem d_Na_init_21 : decode prog_7_method_1_code 21 = .ok (.putfield 18, 3) := by decide +kernel
theorem d_Na_init_24 : decode prog_7_method_1_code 24 = .ok (.return_, 1) := by decide +kernel
theorem d_Na_restart_0 : decode prog_7_method_2_code 0 = .ok (.aload_n 0, 1) := by decide +kernel
theorem d_Na_restart_1 : decode prog_7_method_2_code 1 = .ok (.getfield 12, 3) := by decide +kernel
theorem d_Na_restart_4 : decode prog_7_method_2_code 4 = .ok (.invokevirtual 22, 3) := by decide +kernel
theorem d_Na_restart_7 : decode prog_7_method_2_code 7 = .ok (.aload_n 0, 1) := by decide +kernel
theorem d_Na_restart_8 : decode prog_7_method_2_code 8 = .ok (.getfield 18, 3) := by decide +kernel
