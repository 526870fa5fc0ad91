theorem d_Wr_writeLiteral_92 : decode prog_11_method_3_code 92 = .ok (.iload 8, 2) := by decide +kernel
theorem d_Wr_writeLiteral_94 : decode prog_11_method_3_code 94 = .ok (.iload 9, 2) := by decide +kernel
theorem d_Wr_writeLiteral_96 : decode prog_11_method_3_code 96 = .ok (.if_icmp .ne 7, 3) := by decide +kernel
theorem d_Wr_writeLiteral_99 : decode prog_11_method_3_code 99 = .ok (.iconst 1, 1) := by decide +kernel
theorem d_Wr_writeLiteral_100 : decode prog_11_method_3_code 100 = .ok (.goto 4, 3) := by decide +kernel
theorem d_Wr_writeLiteral_103 : decode prog_11_method_3_code 103 = .ok (.iconst 0, 1) := by decide +kernel
theorem d_Wr_writeLiteral_104 : decode prog_11_method_3_code 104 = .ok (.istore 5, 2) := by decide +kernel
theorem d_Wr_writeLiteral_106 : decode prog_11_method_3_code 106 = .ok (.iconst 2, 1) := by decide +kernel
theorem d_Wr_writeLiteral_107 : decode prog_11_method_3_code 107 = .ok (.iload 6, 2) := by decide +kernel
theorem d_Wr_writeLiteral_109 : decode prog_11_method_3_code 109 = .ok (.imul, 1) := by decide +kernel
theorem d_Wr_writeLiteral_110 : decode prog_11_method_3_code 110 = .ok (.iload 8, 2) := by decide +kernel
theorem d_Wr_writeLiteral_112 : decode prog_11_method_3_code 112 = .ok (.iadd, 1) := by decide +kernel
theorem d_Wr_writeLiteral_113 : decode prog_11_method_3_code 113 = .ok (.istore 6, 2) := by decide +kernel
theorem d_Wr_writeLiteral_115 : decode prog_11_method_3_code 115 = .ok (.iinc 7 (-1), 3) := by decide +kernel
theorem d_Wr_writeLiteral_118 : decode prog_11_method_3_code 118 = .ok (.goto (-88), 3) := by decide +kernel
theorem d_Wr_writeLiteral_121 : decode prog_11_method_3_code 121 = .ok (.return_, 1) := by decide +kernel
theorem d_Wr_writeMatch_0 : decode prog_11_method_4_code 0 = .ok (.aload_n 1, 1) := by decide +kernel
theorem d_Wr_writeMatch_1 : decode prog_11_method_4_code 1 = .ok (.getfield 67, 3) := by decide +kernel
theorem d_Wr_writeMatch_4 : decode prog_11_method_4_code 4 = .ok (.iconst 2, 1) := by decide +kernel
theorem d_Wr_writeMatch_5 : decode prog_11_method_4_code 5 = .ok (.isub, 1) := by decide +kernel
theorem d_Wr_writeMatch_6 : decode prog_11_method_4_code 6 = .ok (.istore_n 2, 1) := by decide +kernel
theorem d_Wr_writeMatch_7 : decode prog_11_method_4_code 7 = .ok (.aload_n 1, 1) := by decide +kernel
theorem d_Wr_writeMatch_8 : decode prog_11_method_4_code 8 = .ok (.getfield 70, 3) := by decide +kernel
theorem d_Wr_writeMatch_11 : decode prog_11_method_4_code 11 = .ok (.iconst 1, 1) := by decide +kernel
theorem d_Wr_writeMatch_12 : decode prog_11_method_4_code 12 = .ok (.isub, 1) := by decide +kernel
theorem d_Wr_writeMatch_13 : decode prog_11_method_4_code 13 = .ok (.istore_n 3, 1) := by decide +kernel
theorem d_Wr_writeMatch_14 : decode prog_11_method_4_code 14 = .ok (.iload_n 3, 1) := by decide +kernel
theorem d_Wr_writeMatch_15 : decode prog_11_method_4_code 15 = .ok (.invokestatic 73, 3) := by decide +kernel
theorem d_Wr_writeMatch_18 : decode prog_11_method_4_code 18 = .ok (.istore 4, 2) := by decide +kernel
theorem d_Wr_writeMatch_20 : decode prog_11_method_4_code 20 = .ok (.iload_n 3, 1) := by decide +kernel
theorem d_Wr_writeMatch_21 : decode prog_11_method_4_code 21 = .ok (.iconst 4, 1) := by decide +kernel
theorem d_Wr_writeMatch_22 : decode prog_11_method_4_code 22 = .ok (.if_icmp .ge 7, 3) := by decide +kernel
theorem d_Wr_writeMatch_25 : decode prog_11_method_4_code 25 = .ok (.iload_n 3, 1) := by decide +kernel
theorem d_Wr_writeMatch_26 : decode prog_11_method_4_code 26 = .ok (.goto 16, 3) := by decide +kernel
theorem d_Wr_writeMatch_29 : decode prog_11_method_4_code 29 = .ok (.iconst 2, 1) := by decide +kernel
theorem d_Wr_writeMatch_30 : decode prog_11_method_4_code 30 = .ok (.iload 4, 2) := by decide +kernel
theorem d_Wr_writeMatch_32 : decode prog_11_method_4_code 32 = .ok (.imul, 1) := by decide +kernel
theorem d_Wr_writeMatch_33 : decode prog_11_method_4_code 33 = .ok (.iload_n 3, 1) := by decide +kernel
theorem d_Wr_writeMatch_34 : decode prog_11_method_4_code 34 = .ok (.iload 4, 2) := by decide +kernel
theorem d_Wr_writeMatch_36 : decode prog_11_method_4_code 36 = .ok (.iconst 1, 1) := by decide +kernel
theorem d_Wr_writeMatch_37 : decode prog_11_method_4_code 37 = .ok (.isub, 1) := by decide +kernel
theorem d_Wr_writeMatch_38 : decode prog_11_method_4_code 38 = .ok (.ishr, 1) := by decide +kernel
theorem d_Wr_writeMatch_39 : decode prog_11_method_4_code 39 = .ok (.iconst 1, 1) := by decide +kernel
theorem d_Wr_writeMatch_40 : decode prog_11_method_4_code 40 = .ok (.iand, 1) := by decide +kernel
theorem d_Wr_writeMatch_41 : decode prog_11_method_4_code 41 = .ok (.iadd, 1) := by decide +kernel
theorem d_Wr_writeMatch_42 : decode prog_11_method_4_code 42 = .ok (.istore 5, 2) := by decide +kernel
theorem d_Wr_writeMatch_44 : decode prog_11_method_4_code 44 = .ok (.aload_n 0, 1) := by decide +kernel
theorem d_Wr_writeMatch_45 : decode prog_11_method_4_code 45 = .ok (.bipush 72, 2) := by decide +kernel
theorem d_Wr_writeMatch_47 : decode prog_11_method_4_code 47 = .ok (.iload_n 2, 1) := by decide +kernel
theorem d_Wr_writeMatch_48 : decode prog_11_method_4_code 48 = .ok (.invokevirtual 76, 3) := by decide +kernel
theorem d_Wr_writeMatch_51 : decode prog_11_method_4_code 51 = .ok (.aload_n 0, 1) := by decide +kernel
theorem d_Wr_writeMatch_52 : decode prog_11_method_4_code 52 = .ok (.getfield 12, 3) := by decide +kernel
theorem d_Wr_writeMatch_55 : decode prog_11_method_4_code 55 = .ok (.sipush 364, 3) := by decide +kernel
theorem d_Wr_writeMatch_58 : decode prog_11_method_4_code 58 = .ok (.iload_n 2, 1) := by decide +kernel
theorem d_Wr_writeMatch_59 : decode prog_11_method_4_code 59 = .ok (.iconst 3, 1) := by decide +kernel
theorem d_Wr_writeMatch_60 : decode prog_11_method_4_code 60 = .ok (.invokestatic 79, 3) := by decide +kernel
theorem d_Wr_writeMatch_63 : decode prog_11_method_4_code 63 = .ok (.bipush 16, 2) := by decide +kernel
theorem d_Wr_writeMatch_65 : decode prog_11_method_4_code 65 = .ok (.imul, 1) := by decide +kernel
theorem d_Wr_writeMatch_66 : decode prog_11_method_4_code 66 = .ok (.iadd, 1) := by decide +kernel
theorem d_Wr_writeMatch_67 : decode prog_11_method_4_code 67 = .ok (.iconst 4, 1) := by decide +kernel
theorem d_Wr_writeMatch_68 : decode prog_11_method_4_code 68 = .ok (.iload 5, 2) := by decide +kernel
theorem d_Wr_writeMatch_70 : decode prog_11_method_4_code 70 = .ok (.invokevirtual 85, 3) := by decide +kernel
theorem d_Wr_writeMatch_73 : decode prog_11_method_4_code 73 = .ok (.iload 5, 2) := by decide +kernel
theorem d_Wr_writeMatch_75 : decode prog_11_method_4_code 75 = .ok (.iconst 4, 1) := by decide +kernel
theorem d_Wr_writeMatch_76 : decode prog_11_method_4_code 76 = .ok (.if_icmp .lt 30, 3) := by decide +kernel
theorem d_Wr_writeMatch_79 : decode prog_11_method_4_code 79 = .ok (.sipush 428, 3) := by decide +kernel
theorem d_Wr_writeMatch_82 : decode prog_11_method_4_code 82 = .ok (.iload 5, 2) := by decide +kernel
theorem d_Wr_writeMatch_84 : decode prog_11_method_4_code 84 = .ok (.iconst 4, 1) := by decide +kernel
theorem d_Wr_writeMatch_85 : decode prog_11_method_4_code 85 = .ok (.isub, 1) := by decide +kernel
theorem d_Wr_writeMatch_86 : decode prog_11_method_4_code 86 = .ok (.bipush 32, 2) := by decide +kernel
theorem d_Wr_writeMatch_88 : decode prog_11_method_4_code 88 = .ok (.imul, 1) := by decide +kernel
theorem d_Wr_writeMatch_89 : decode prog_11_method_4_code 89 = .ok (.iadd, 1) := by decide +kernel
theorem d_Wr_writeMatch_90 : decode prog_11_method_4_code 90 = .ok (.istore 6, 2) := by decide +kernel
theorem d_Wr_writeMatch_92 : decode prog_11_method_4_code 92 = .ok (.aload_n 0, 1) := by decide +kernel
theorem d_Wr_writeMatch_93 : decode prog_11_method_4_code 93 = .ok (.getfield 12, 3) := by decide +kernel
theorem d_Wr_writeMatch_96 : decode prog_11_method_4_code 96 = .ok (.iload 6, 2) := by decide +kernel
theorem d_Wr_writeMatch_98 : decode prog_11_method_4_code 98 = .ok (.iload 4, 2) := by decide +kernel
theorem d_Wr_writeMatch_100 : decode prog_11_method_4_code 100 = .ok (.iconst 1, 1) := by decide +kernel
theorem d_Wr_writeMatch_101 : decode prog_11_method_4_code 101 = .ok (.isub, 1) := by decide +kernel
theorem d_Wr_writeMatch_102 : decode prog_11_method_4_code 102 = .ok (.iload_n 3, 1) := by decide +kernel
theorem d_Wr_writeMatch_103 : decode prog_11_method_4_code 103 = .ok (.invokevirtual 89, 3) := by decide +kernel
theorem d_Wr_writeMatch_106 : decode prog_11_method_4_code 106 = .ok (.return_, 1) := by decide +kernel
theorem d_Wr_writeEnd_0 : decode prog_11_method_5_code 0 = .ok (.aload_n 0, 1) := by decide +kernel
theorem d_Wr_writeEnd_1 : decode prog_11_method_5_code 1 = .ok (.bipush 72, 2) := by decide +kernel
theorem d_Wr_writeEnd_3 : decode prog_11_method_5_code 3 = .ok (.iconst 0, 1) := by decide +kernel
theorem d_Wr_writeEnd_4 : decode prog_11_method_5_code 4 = .ok (.invokevirtual 76, 3) := by decide +kernel
theorem d_Wr_writeEnd_7 : decode prog_11_method_5_code 7 = .ok (.aload_n 0, 1) := by decide +kernel
theorem d_Wr_writeEnd_8 : decode prog_11_method_5_code 8 = .ok (.getfield 12, 3) := by decide +kernel
theorem d_Wr_writeEnd_11 : decode prog_11_method_5_code 11 = .ok (.sipush 364, 3) := by decide +kernel
theorem d_Wr_writeEnd_14 : decode prog_11_method_5_code 14 = .ok (.iconst 4, 1) := by decide +kernel
theorem d_Wr_writeEnd_15 : decode prog_11_method_5_code 15 = .ok (.bipush 15, 2) := by decide +kernel
theorem d_Wr_writeEnd_17 : decode prog_11_method_5_code 17 = .ok (.invokevirtual 85, 3) := by decide +kernel
theorem d_Wr_writeEnd_20 : decode prog_11_method_5_code 20 = .ok (.return_, 1) := by decide +kernel
theorem d_Wr_writeRepeat_0 : decode prog_11_method_6_code 0 = .ok (.aload_n 1, 1) := by decide +kernel
theorem d_Wr_writeRepeat_1 : decode prog_11_method_6_code 1 = .ok (.getfield 24, 3) := by decide +kernel
theorem d_Wr_writeRepeat_4 : decode prog_11_method_6_code 4 = .ok (.iconst 3, 1) := by decide +kernel
theorem d_Wr_writeRepeat_5 : decode prog_11_method_6_code 5 = .ok (.if_icmp .eq 10, 3) := by decide +kernel
theorem d_Wr_writeRepeat_8 : decode prog_11_method_6_code 8 = .ok (.aload_n 1, 1) := by decide +kernel
theorem d_Wr_writeRepeat_9 : decode prog_11_method_6_code 9 = .ok (.getfield 92, 3) := by decide +kernel
theorem d_Wr_writeRepeat_12 : decode prog_11_method_6_code 12 = .ok (.ifCond .ne 42, 3) := by decide +kernel
theorem d_Wr_writeRepeat_15 : decode prog_11_method_6_code 15 = .ok (.aload_n 0, 1) := by decide +kernel
theorem d_Wr_writeRepeat_16 : decode prog_11_method_6_code 16 = .ok (.getfield 12, 3) := by decide +kernel
theorem d_Wr_writeRepeat_19 : decode prog_11_method_6_code 19 = .ok (.bipush 24, 2) := by decide +kernel
theorem d_Wr_writeRepeat_21 : decode prog_11_method_6_code 21 = .ok (.iload_n 2, 1) := by decide +kernel
theorem d_Wr_writeRepeat_22 : decode prog_11_method_6_code 22 = .ok (.iadd, 1) := by decide +kernel
theorem d_Wr_writeRepeat_23 : decode prog_11_method_6_code 23 = .ok (.iconst 0, 1) := by decide +kernel
theorem d_Wr_writeRepeat_24 : decode prog_11_method_6_code 24 = .ok (.invokevirtual 29, 3) := by decide +kernel
theorem d_Wr_writeRepeat_27 : decode prog_11_method_6_code 27 = .ok (.aload_n 0, 1) := by decide +kernel
theorem d_Wr_writeRepeat_28 : decode prog_11_method_6_code 28 = .ok (.getfield 12, 3) := by decide +kernel
theorem d_Wr_writeRepeat_31 : decode prog_11_method_6_code 31 = .ok (.bipush 36, 2) := by decide +kernel
theorem d_Wr_writeRepeat_33 : decode prog_11_method_6_code 33 = .ok (.iload_n 2, 1) := by decide +kernel
theorem d_Wr_writeRepeat_34 : decode prog_11_method_6_code 34 = .ok (.iadd, 1) := by decide +kernel
theorem d_Wr_writeRepeat_35 : decode prog_11_method_6_code 35 = .ok (.aload_n 1, 1) := by decide +kernel
theorem d_Wr_writeRepeat_36 : decode prog_11_method_6_code 36 = .ok (.getfield 24, 3) := by decide +kernel
theorem d_Wr_writeRepeat_39 : decode prog_11_method_6_code 39 = .ok (.iconst 3, 1) := by decide +kernel
theorem d_Wr_writeRepeat_40 : decode prog_11_method_6_code 40 = .ok (.if_icmp .ne 7, 3) := by decide +kernel
theorem d_Wr_writeRepeat_43 : decode prog_11_method_6_code 43 = .ok (.iconst 0, 1) := by decide +kernel
theorem d_Wr_writeRepeat_44 : decode prog_11_method_6_code 44 = .ok (.goto 4, 3) := by decide +kernel
theorem d_Wr_writeRepeat_47 : decode prog_11_method_6_code 47 = .ok (.iconst 1, 1) := by decide +kernel
theorem d_Wr_writeRepeat_48 : decode prog_11_method_6_code 48 = .ok (.invokevirtual 29, 3) := by decide +kernel
theorem d_Wr_writeRepeat_51 : decode prog_11_method_6_code 51 = .ok (.goto 71, 3) := by decide +kernel
theorem d_Wr_writeRepeat_54 : decode prog_11_method_6_code 54 = .ok (.aload_n 0, 1) := by decide +kernel
theorem d_Wr_writeRepeat_55 : decode prog_11_method_6_code 55 = .ok (.getfield 12, 3) := by decide +kernel
theorem d_Wr_writeRepeat_58 : decode prog_11_method_6_code 58 = .ok (.bipush 24, 2) := by decide +kernel
theorem d_Wr_writeRepeat_60 : decode prog_11_method_6_code 60 = .ok (.iload_n 2, 1) := by decide +kernel
theorem d_Wr_writeRepeat_61 : decode prog_11_method_6_code 61 = .ok (.iadd, 1) := by decide +kernel
theorem d_Wr_writeRepeat_62 : decode prog_11_method_6_code 62 = .ok (.iconst 1, 1) := by decide +kernel
theorem d_Wr_writeRepeat_63 : decode prog_11_method_6_code 63 = .ok (.invokevirtual 29, 3) := by decide +kernel
theorem d_Wr_writeRepeat_66 : decode prog_11_method_6_code 66 = .ok (.aload_n 0, 1) := by decide +kernel
theorem d_Wr_writeRepeat_67 : decode prog_11_method_6_code 67 = .ok (.getfield 12, 3) := by decide +kernel
theorem d_Wr_writeRepeat_70 : decode prog_11_method_6_code 70 = .ok (.bipush 48, 2) := by decide +kernel
theorem d_Wr_writeRepeat_72 : decode prog_11_method_6_code 72 = .ok (.iload_n 2, 1) := by decide +kernel
theorem d_Wr_writeRepeat_73 : decode prog_11_method_6_code 73 = .ok (.iadd, 1) := by decide +kernel
theorem d_Wr_writeRepeat_74 : decode prog_11_method_6_code 74 = .ok (.aload_n 1, 1) := by decide +kernel
theorem d_Wr_writeRepeat_75 : decode prog_11_method_6_code 75 = .ok (.getfield 92, 3) := by decide +kernel
theorem d_Wr_writeRepeat_78 : decode prog_11_method_6_code 78 = .ok (.iconst 1, 1) := by decide +kernel
theorem d_Wr_writeRepeat_79 : decode prog_11_method_6_code 79 = .ok (.if_icmp .ne 7, 3) := by decide +kernel
theorem d_Wr_writeRepeat_82 : decode prog_11_method_6_code 82 = .ok (.iconst 0, 1) := by decide +kernel
theorem d_Wr_writeRepeat_83 : decode prog_11_method_6_code 83 = .ok (.goto 4, 3) := by decide +kernel
theorem d_Wr_writeRepeat_86 : decode prog_11_method_6_code 86 = .ok (.iconst 1, 1) := by decide +kernel
theorem d_Wr_writeRepeat_87 : decode prog_11_method_6_code 87 = .ok (.invokevirtual 29, 3) := by decide +kernel
theorem d_Wr_writeRepeat_90 : decode prog_11_method_6_code 90 = .ok (.aload_n 1, 1) := by decide +kernel
theorem d_Wr_writeRepeat_91 : decode prog_11_method_6_code 91 = .ok (.getfield 92, 3) := by decide +kernel
theorem d_Wr_writeRepeat_94 : decode prog_11_method_6_code 94 = .ok (.iconst 1, 1) := by decide +kernel
theorem d_Wr_writeRepeat_95 : decode prog_11_method_6_code 95 = .ok (.if_icmp .le 27, 3) := by decide +kernel
theorem d_Wr_writeRepeat_98 : decode prog_11_method_6_code 98 = .ok (.aload_n 0, 1) := by decide +kernel
theorem d_Wr_writeRepeat_99 : decode prog_11_method_6_code 99 = .ok (.getfield 12, 3) := by decide +kernel
theorem d_Wr_writeRepeat_102 : decode prog_11_method_6_code 102 = .ok (.bipush 60, 2) := by decide +kernel
theorem d_Wr_writeRepeat_104 : decode prog_11_method_6_code 104 = .ok (.iload_n 2, 1) := by decide +kernel
theorem d_Wr_writeRepeat_105 : decode prog_11_method_6_code 105 = .ok (.iadd, 1) := by decide +kernel
theorem d_Wr_writeRepeat_106 : decode prog_11_method_6_code 106 = .ok (.aload_n 1, 1) := by decide +kernel
theorem d_Wr_writeRepeat_107 : decode prog_11_method_6_code 107 = .ok (.getfield 92, 3) := by decide +kernel
theorem d_Wr_writeRepeat_110 : decode prog_11_method_6_code 110 = .ok (.iconst 2, 1) := by decide +kernel
theorem d_Wr_writeRepeat_111 : decode prog_11_method_6_code 111 = .ok (.if_icmp .ne 7, 3) := by decide +kernel
theorem d_Wr_writeRepeat_114 : decode prog_11_method_6_code 114 = .ok (.iconst 0, 1) := by decide +kernel
theorem d_Wr_writeRepeat_115 : decode prog_11_method_6_code 115 = .ok (.goto 4, 3) := by decide +kernel
theorem d_Wr_writeRepeat_118 : decode prog_11_method_6_code 118 = .ok (.iconst 1, 1) := by decide +kernel
theorem d_Wr_writeRepeat_119 : decode prog_11_method_6_code 119 = .ok (.invokevirtual 29, 3) := by decide +kernel
theorem d_Wr_writeRepeat_122 : decode prog_11_method_6_code 122 = .ok (.aload_n 1, 1) := by decide +kernel
theorem d_Wr_writeRepeat_123 : decode prog_11_method_6_code 123 = .ok (.getfield 24, 3) := by decide +kernel
theorem d_Wr_writeRepeat_126 : decode prog_11_method_6_code 126 = .ok (.iconst 2, 1) := by decide +kernel
theorem d_Wr_writeRepeat_127 : decode prog_11_method_6_code 127 = .ok (.if_icmp .ne 16, 3) := by decide +kernel
theorem d_Wr_writeRepeat_130 : decode prog_11_method_6_code 130 = .ok (.aload_n 0, 1) := by decide +kernel
theorem d_Wr_writeRepeat_131 : decode prog_11_method_6_code 131 = .ok (.sipush 218, 3) := by decide +kernel
theorem d_Wr_writeRepeat_134 : decode prog_11_method_6_code 134 = .ok (.aload_n 1, 1) := by decide +kernel
theorem d_Wr_writeRepeat_135 : decode prog_11_method_6_code 135 = .ok (.getfield 67, 3) := by decide +kernel
theorem d_Wr_writeRepeat_138 : decode prog_11_method_6_code 138 = .ok (.iconst 2, 1) := by decide +kernel
theorem d_Wr_writeRepeat_139 : decode prog_11_method_6_code 139 = .ok (.isub, 1) := by decide +kernel
theorem d_Wr_writeRepeat_140 : decode prog_11_method_6_code 140 = .ok (.invokevirtual 76, 3) := by decide +kernel
theorem d_Wr_writeRepeat_143 : decode prog_11_method_6_code 143 = .ok (.return_, 1) := by decide +kernel
theorem d_Wr_writeLength_0 : decode prog_11_method_7_code 0 = .ok (.aload_n 0, 1) := by decide +kernel
theorem d_Wr_writeLength_1 : decode prog_11_method_7_code 1 = .ok (.getfield 12, 3) := by decide +kernel
theorem d_Wr_writeLength_4 : decode prog_11_method_7_code 4 = .ok (.iload_n 1, 1) := by decide +kernel
theorem d_Wr_writeLength_5 : decode prog_11_method_7_code 5 = .ok (.iload_n 2, 1) := by decide +kernel
theorem d_Wr_writeLength_6 : decode prog_11_method_7_code 6 = .ok (.bipush 8, 2) := by decide +kernel
theorem d_Wr_writeLength_8 : decode prog_11_method_7_code 8 = .ok (.if_icmp .ge 7, 3) := by decide +kernel
theorem d_Wr_writeLength_11 : decode prog_11_method_7_code 11 = .ok (.iconst 0, 1) := by decide +kernel
theorem d_Wr_writeLength_12 : decode prog_11_method_7_code 12 = .ok (.goto 4, 3) := by decide +kernel
theorem d_Wr_writeLength_15 : decode prog_11_method_7_code 15 = .ok (.iconst 1, 1) := by decide +kernel
theorem d_Wr_writeLength_16 : decode prog_11_method_7_code 16 = .ok (.invokevirtual 29, 3) := by decide +kernel
theorem d_Wr_writeLength_19 : decode prog_11_method_7_code 19 = .ok (.iload_n 2, 1) := by decide +kernel
theorem d_Wr_writeLength_20 : decode prog_11_method_7_code 20 = .ok (.bipush 8, 2) := by decide +kernel
theorem d_Wr_writeLength_22 : decode prog_11_method_7_code 22 = .ok (.if_icmp .ge 16, 3) := by decide +kernel
theorem d_Wr_writeLength_25 : decode prog_11_method_7_code 25 = .ok (.aload_n 0, 1) := by decide +kernel
theorem d_Wr_writeLength_26 : decode prog_11_method_7_code 26 = .ok (.getfield 12, 3) := by decide +kernel
theorem d_Wr_writeLength_29 : decode prog_11_method_7_code 29 = .ok (.iload_n 1, 1) := by decide +kernel
theorem d_Wr_writeLength_30 : decode prog_11_method_7_code 30 = .ok (.iconst 2, 1) := by decide +kernel
theorem d_Wr_writeLength_31 : decode prog_11_method_7_code 31 = .ok (.iadd, 1) := by decide +kernel
theorem d_Wr_writeLength_32 : decode prog_11_method_7_code 32 = .ok (.iconst 3, 1) := by decide +kernel
theorem d_Wr_writeLength_33 : decode prog_11_method_7_code 33 = .ok (.iload_n 2, 1) := by decide +kernel
theorem d_Wr_writeLength_34 : decode prog_11_method_7_code 34 = .ok (.invokevirtual 85, 3) := by decide +kernel
theorem d_Wr_writeLength_37 : decode prog_11_method_7_code 37 = .ok (.return_, 1) := by decide +kernel
theorem d_Wr_writeLength_38 : decode prog_11_method_7_code 38 = .ok (.aload_n 0, 1) := by decide +kernel
theorem d_Wr_writeLength_39 : decode prog_11_method_7_code 39 = .ok (.getfield 12, 3) := by decide +kernel
theorem d_Wr_writeLength_42 : decode prog_11_method_7_code 42 = .ok (.iload_n 1, 1) := by decide +kernel
theorem d_Wr_writeLength_43 : decode prog_11_method_7_code 43 = .ok (.iconst 1, 1) := by decide +kernel
theorem d_Wr_writeLength_44 : decode prog_11_method_7_code 44 = .ok (.iadd, 1) := by decide +kernel
theorem d_Wr_writeLength_45 : decode prog_11_method_7_code 45 = .ok (.iload_n 2, 1) := by decide +kernel
theorem d_Wr_writeLength_46 : decode prog_11_method_7_code 46 = .ok (.bipush 16, 2) := by decide +kernel
theorem d_Wr_writeLength_48 : decode prog_11_method_7_code 48 = .ok (.if_icmp .ge 7, 3) := by decide +kernel
theorem d_Wr_writeLength_51 : decode prog_11_method_7_code 51 = .ok (.iconst 0, 1) := by decide +kernel
theorem d_Wr_writeLength_52 : decode prog_11_method_7_code 52 = .ok (.goto 4, 3) := by decide +kernel
theorem d_Wr_writeLength_55 : decode prog_11_method_7_code 55 = .ok (.iconst 1, 1) := by decide +kernel
theorem d_Wr_writeLength_56 : decode prog_11_method_7_code 56 = .ok (.invokevirtual 29, 3) := by decide +kernel
theorem d_Wr_writeLength_59 : decode prog_11_method_7_code 59 = .ok (.iload_n 2, 1) := by decide +kernel
theorem d_Wr_writeLength_60 : decode prog_11_method_7_code 60 = .ok (.bipush 16, 2) := by decide +kernel
theorem d_Wr_writeLength_62 : decode prog_11_method_7_code 62 = .ok (.if_icmp .ge 22, 3) := by decide +kernel
theorem d_Wr_writeLength_65 : decode prog_11_method_7_code 65 = .ok (.aload_n 0, 1) := by decide +kernel
theorem d_Wr_writeLength_66 : decode prog_11_method_7_code 66 = .ok (.getfield 12, 3) := by decide +kernel
theorem d_Wr_writeLength_69 : decode prog_11_method_7_code 69 = .ok (.iload_n 1, 1) := by decide +kernel
theorem d_Wr_writeLength_70 : decode prog_11_method_7_code 70 = .ok (.bipush 10, 2) := by decide +kernel
theorem d_Wr_writeLength_72 : decode prog_11_method_7_code 72 = .ok (.iadd, 1) := by decide +kernel
theorem d_Wr_writeLength_73 : decode prog_11_method_7_code 73 = .ok (.iconst 3, 1) := by decide +kernel
theorem d_Wr_writeLength_74 : decode prog_11_method_7_code 74 = .ok (.iload_n 2, 1) := by decide +kernel
theorem d_Wr_writeLength_75 : decode prog_11_method_7_code 75 = .ok (.bipush 8, 2) := by decide +kernel
theorem d_Wr_writeLength_77 : decode prog_11_method_7_code 77 = .ok (.isub, 1) := by decide +kernel
theorem d_Wr_writeLength_78 : decode prog_11_method_7_code 78 = .ok (.invokevirtual 85, 3) := by decide +kernel
theorem d_Wr_writeLength_81 : decode prog_11_method_7_code 81 = .ok (.goto 20, 3) := by decide +kernel
theorem d_Wr_writeLength_84 : decode prog_11_method_7_code 84 = .ok (.aload_n 0, 1) := by decide +kernel
theorem d_Wr_writeLength_85 : decode prog_11_method_7_code 85 = .ok (.getfield 12, 3) := by decide +kernel
theorem d_Wr_writeLength_88 : decode prog_11_method_7_code 88 = .ok (.iload_n 1, 1) := by decide +kernel
theorem d_Wr_writeLength_89 : decode prog_11_method_7_code 89 = .ok (.bipush 18, 2) := by decide +kernel
theorem d_Wr_writeLength_91 : decode prog_11_method_7_code 91 = .ok (.iadd, 1) := by decide +kernel
theorem d_Wr_writeLength_92 : decode prog_11_method_7_code 92 = .ok (.bipush 7, 2) := by decide +kernel
theorem d_Wr_writeLength_94 : decode prog_11_method_7_code 94 = .ok (.iload_n 2, 1) := by decide +kernel
theorem d_Wr_writeLength_95 : decode prog_11_method_7_code 95 = .ok (.bipush 16, 2) := by decide +kernel
theorem d_Wr_writeLength_97 : decode prog_11_method_7_code 97 = .ok (.isub, 1) := by decide +kernel
theorem d_Wr_writeLength_98 : decode prog_11_method_7_code 98 = .ok (.invokevirtual 85, 3) := by decide +kernel
theorem d_Wr_writeLength_101 : decode prog_11_method_7_code 101 = .ok (.return_, 1) := by decide +kernel
theorem d_Wr_bitsBelowHighest_0 : decode prog_11_method_8_code 0 = .ok (.iconst 0, 1) := by decide +kernel
theorem d_Wr_bitsBelowHighest_1 : decode prog_11_method_8_code 1 = .ok (.istore_n 1, 1) := by decide +kernel
theorem d_Wr_bitsBelowHighest_2 : decode prog_11_method_8_code 2 = .ok (.iconst 1, 1) := by decide +kernel
theorem d_Wr_bitsBelowHighest_3 : decode prog_11_method_8_code 3 = .ok (.istore_n 2, 1) := by decide +kernel
theorem d_Wr_bitsBelowHighest_4 : decode prog_11_method_8_code 4 = .ok (.iload_n 2, 1) := by decide +kernel
theorem d_Wr_bitsBelowHighest_5 : decode prog_11_method_8_code 5 = .ok (.bipush 8, 2) := by decide +kernel
theorem d_Wr_bitsBelowHighest_7 : decode prog_11_method_8_code 7 = .ok (.if_icmp .ge 17, 3) := by decide +kernel
theorem d_Wr_bitsBelowHighest_10 : decode prog_11_method_8_code 10 = .ok (.iload_n 0, 1) := by decide +kernel
theorem d_Wr_bitsBelowHighest_11 : decode prog_11_method_8_code 11 = .ok (.iload_n 2, 1) := by decide +kernel
theorem d_Wr_bitsBelowHighest_12 : decode prog_11_method_8_code 12 = .ok (.ishr, 1) := by decide +kernel
theorem d_Wr_bitsBelowHighest_13 : decode prog_11_method_8_code 13 = .ok (.ifCond .le 5, 3) := by decide +kernel
theorem d_Wr_bitsBelowHighest_16 : decode prog_11_method_8_code 16 = .ok (.iload_n 2, 1) := by decide +kernel
theorem d_Wr_bitsBelowHighest_17 : decode prog_11_method_8_code 17 = .ok (.istore_n 1, 1) := by decide +kernel
theorem d_Wr_bitsBelowHighest_18 : decode prog_11_method_8_code 18 = .ok (.iinc 2 1, 3) := by decide +kernel
theorem d_Wr_bitsBelowHighest_21 : decode prog_11_method_8_code 21 = .ok (.goto (-17), 3) := by decide +kernel
theorem d_Wr_bitsBelowHighest_24 : decode prog_11_method_8_code 24 = .ok (.iload_n 1, 1) := by decide +kernel
theorem d_Wr_bitsBelowHighest_25 : decode prog_11_method_8_code 25 = .ok (.ireturn, 1) := by decide +kernel
theorem d_La_cell_0 : decode method_2_code 0 = .ok (.iload_n 1, 1) := by decide +kernel
theorem d_La_cell_1 : decode method_2_code 1 = .ok (.aload_n 0, 1) := by decide +kernel
theorem d_La_cell_2 : decode method_2_code 2 = .ok (.arraylength, 1) := by decide +kernel
theorem d_La_cell_3 : decode method_2_code 3 = .ok (.if_icmp .ge 9, 3) := by decide +kernel
theorem d_La_cell_6 : decode method_2_code 6 = .ok (.aload_n 0, 1) := by decide +kernel
theorem d_La_cell_7 : decode method_2_code 7 = .ok (.iload_n 1, 1) := by decide +kernel
theorem d_La_cell_8 : decode method_2_code 8 = .ok (.iaload, 1) := by decide +kernel
theorem d_La_cell_9 : decode method_2_code 9 = .ok (.goto 4, 3) := by decide +kernel
theorem d_La_cell_12 : decode method_2_code 12 = .ok (.iconst 0, 1) := by decide +kernel
theorem d_La_cell_13 : decode method_2_code 13 = .ok (.ireturn, 1) := by decide +kernel
theorem d_La_pack_0 : decode method_3_code 0 = .ok (.aload_n 1, 1) := by decide +kernel
theorem d_La_pack_1 : decode method_3_code 1 = .ok (.iconst 0, 1) := by decide +kernel
theorem d_La_pack_2 : decode method_3_code 2 = .ok (.aload_n 0, 1) := by decide +kernel
theorem d_La_pack_3 : decode method_3_code 3 = .ok (.invokevirtual 7, 3) := by decide +kernel
theorem d_La_pack_6 : decode method_3_code 6 = .ok (.i2l, 1) := by decide +kernel
theorem d_La_pack_7 : decode method_3_code 7 = .ok (.lastore, 1) := by decide +kernel
theorem d_La_pack_8 : decode method_3_code 8 = .ok (.goto 6, 3) := by decide +kernel
theorem d_La_pack_11 : decode method_3_code 11 = .ok (.astore_n 2, 1) := by decide +kernel
theorem d_La_pack_12 : decode method_3_code 12 = .ok (.iconst 1, 1) := by decide +kernel
theorem d_La_pack_13 : decode method_3_code 13 = .ok (.ireturn, 1) := by decide +kernel
theorem d_La_pack_14 : decode method_3_code 14 = .ok (.iconst 0, 1) := by decide +kernel
theorem d_La_pack_15 : decode method_3_code 15 = .ok (.ireturn, 1) := by decide +kernel
theorem d_La_put_0 : decode method_4_code 0 = .ok (.aload_n 3, 1) := by decide +kernel
theorem d_La_put_1 : decode method_4_code 1 = .ok (.iconst 0, 1) := by decide +kernel
theorem d_La_put_2 : decode method_4_code 2 = .ok (.aload_n 0, 1) := by decide +kernel
theorem d_La_put_3 : decode method_4_code 3 = .ok (.iload_n 1, 1) := by decide +kernel
theorem d_La_put_4 : decode method_4_code 4 = .ok (.iload_n 2, 1) := by decide +kernel
theorem d_La_put_5 : decode method_4_code 5 = .ok (.invokevirtual 15, 3) := by decide +kernel
theorem d_La_put_8 : decode method_4_code 8 = .ok (.i2l, 1) := by decide +kernel
theorem d_La_put_9 : decode method_4_code 9 = .ok (.lastore, 1) := by decide +kernel
theorem d_La_put_10 : decode method_4_code 10 = .ok (.goto 11, 3) := by decide +kernel
theorem d_La_put_13 : decode method_4_code 13 = .ok (.astore 4, 2) := by decide +kernel
theorem d_La_put_15 : decode method_4_code 15 = .ok (.iconst 1, 1) := by decide +kernel
theorem d_La_put_16 : decode method_4_code 16 = .ok (.ireturn, 1) := by decide +kernel
theorem d_La_put_17 : decode method_4_code 17 = .ok (.astore 4, 2) := by decide +kernel
theorem d_La_put_19 : decode method_4_code 19 = .ok (.iconst 2, 1) := by decide +kernel
theorem d_La_put_20 : decode method_4_code 20 = .ok (.ireturn, 1) := by decide +kernel
theorem d_La_put_21 : decode method_4_code 21 = .ok (.iconst 0, 1) := by decide +kernel
theorem d_La_put_22 : decode method_4_code 22 = .ok (.ireturn, 1) := by decide +kernel
theorem d_La_cut_0 : decode method_5_code 0 = .ok (.aload_n 2, 1) := by decide +kernel
theorem d_La_cut_1 : decode method_5_code 1 = .ok (.iconst 0, 1) := by decide +kernel
theorem d_La_cut_2 : decode method_5_code 2 = .ok (.aload_n 0, 1) := by decide +kernel
theorem d_La_cut_3 : decode method_5_code 3 = .ok (.iload_n 1, 1) := by decide +kernel
theorem d_La_cut_4 : decode method_5_code 4 = .ok (.invokevirtual 23, 3) := by decide +kernel
theorem d_La_cut_7 : decode method_5_code 7 = .ok (.i2l, 1) := by decide +kernel
theorem d_La_cut_8 : decode method_5_code 8 = .ok (.lastore, 1) := by decide +kernel
theorem d_La_cut_9 : decode method_5_code 9 = .ok (.goto 6, 3) := by decide +kernel
theorem d_La_cut_12 : decode method_5_code 12 = .ok (.astore_n 3, 1) := by decide +kernel
theorem d_La_cut_13 : decode method_5_code 13 = .ok (.iconst 1, 1) := by decide +kernel
theorem d_La_cut_14 : decode method_5_code 14 = .ok (.ireturn, 1) := by decide +kernel
theorem d_La_cut_15 : decode method_5_code 15 = .ok (.iconst 0, 1) := by decide +kernel
theorem d_La_cut_16 : decode method_5_code 16 = .ok (.ireturn, 1) := by decide +kernel
theorem d_La_unpack_0 : decode method_6_code 0 = .ok (.aload_n 1, 1) := by decide +kernel
theorem d_La_unpack_1 : decode method_6_code 1 = .ok (.iconst 0, 1) := by decide +kernel
theorem d_La_unpack_2 : decode method_6_code 2 = .ok (.aload_n 0, 1) := by decide +kernel
theorem d_La_unpack_3 : decode method_6_code 3 = .ok (.invokevirtual 27, 3) := by decide +kernel
theorem d_La_unpack_6 : decode method_6_code 6 = .ok (.i2l, 1) := by decide +kernel
theorem d_La_unpack_7 : decode method_6_code 7 = .ok (.lastore, 1) := by decide +kernel
theorem d_La_unpack_8 : decode method_6_code 8 = .ok (.goto 15, 3) := by decide +kernel
theorem d_La_unpack_11 : decode method_6_code 11 = .ok (.astore_n 2, 1) := by decide +kernel
theorem d_La_unpack_12 : decode method_6_code 12 = .ok (.iconst 1, 1) := by decide +kernel
theorem d_La_unpack_13 : decode method_6_code 13 = .ok (.ireturn, 1) := by decide +kernel
theorem d_La_unpack_14 : decode method_6_code 14 = .ok (.astore_n 2, 1) := by decide +kernel
theorem d_La_unpack_15 : decode method_6_code 15 = .ok (.iconst 2, 1) := by decide +kernel
theorem d_La_unpack_16 : decode method_6_code 16 = .ok (.ireturn, 1) := by decide +kernel
theorem d_La_unpack_17 : decode method_6_code 17 = .ok (.astore_n 2, 1) := by decide +kernel
theorem d_La_unpack_18 : decode method_6_code 18 = .ok (.iconst 3, 1) := by decide +kernel
theorem d_La_unpack_19 : decode method_6_code 19 = .ok (.ireturn, 1) := by decide +kernel
theorem d_La_unpack_20 : decode method_6_code 20 = .ok (.astore_n 2, 1) := by decide +kernel
theorem d_La_unpack_21 : decode method_6_code 21 = .ok (.iconst 4, 1) := by decide +kernel
theorem d_La_unpack_22 : decode method_6_code 22 = .ok (.ireturn, 1) := by decide +kernel
theorem d_La_unpack_23 : decode method_6_code 23 = .ok (.iconst 0, 1) := by decide +kernel
theorem d_La_unpack_24 : decode method_6_code 24 = .ok (.ireturn, 1) := by decide +kernel
theorem d_Ar_fill_0 : decode prog_23_method_103_code 0 = .ok (.iconst 0, 1) := by decide +kernel
theorem d_Ar_fill_1 : decode prog_23_method_103_code 1 = .ok (.istore_n 2, 1) := by decide +kernel
theorem d_Ar_fill_2 : decode prog_23_method_103_code 2 = .ok (.aload_n 0, 1) := by decide +kernel
theorem d_Ar_fill_3 : decode prog_23_method_103_code 3 = .ok (.arraylength, 1) := by decide +kernel
theorem d_Ar_fill_4 : decode prog_23_method_103_code 4 = .ok (.istore_n 3, 1) := by decide +kernel
theorem d_Ar_fill_5 : decode prog_23_method_103_code 5 = .ok (.iload_n 2, 1) := by decide +kernel
theorem d_Ar_fill_6 : decode prog_23_method_103_code 6 = .ok (.iload_n 3, 1) := by decide +kernel
theorem d_Ar_fill_7 : decode prog_23_method_103_code 7 = .ok (.if_icmp .ge 13, 3) := by decide +kernel
theorem d_Ar_fill_10 : decode prog_23_method_103_code 10 = .ok (.aload_n 0, 1) := by decide +kernel
theorem d_Ar_fill_11 : decode prog_23_method_103_code 11 = .ok (.iload_n 2, 1) := by decide +kernel
theorem d_Ar_fill_12 : decode prog_23_method_103_code 12 = .ok (.iload_n 1, 1) := by decide +kernel
theorem d_Ar_fill_13 : decode prog_23_method_103_code 13 = .ok (.iastore, 1) := by decide +kernel
theorem d_Ar_fill_14 : decode prog_23_method_103_code 14 = .ok (.iinc 2 1, 3) := by decide +kernel
theorem d_Ar_fill_17 : decode prog_23_method_103_code 17 = .ok (.goto (-12), 3) := by decide +kernel
theorem d_Ar_fill_20 : decode prog_23_method_103_code 20 = .ok (.return_, 1) := by decide +kernel
theorem d_La_law_0 : decode code 0 = .ok (.new 8, 3) := by decide +kernel
theorem d_La_law_3 : decode code 3 = .ok (.dup, 1) := by decide +kernel
theorem d_La_law_4 : decode code 4 = .ok (.aload_n 0, 1) := by decide +kernel
theorem d_La_law_5 : decode code 5 = .ok (.iconst 0, 1) := by decide +kernel
theorem d_La_law_6 : decode code 6 = .ok (.invokestatic 32, 3) := by decide +kernel
theorem d_La_law_9 : decode code 9 = .ok (.invokespecial 38, 3) := by decide +kernel
theorem d_La_law_12 : decode code 12 = .ok (.astore_n 1, 1) := by decide +kernel
theorem d_La_law_13 : decode code 13 = .ok (.new 41, 3) := by decide +kernel
theorem d_La_law_16 : decode code 16 = .ok (.dup, 1) := by decide +kernel
theorem d_La_law_17 : decode code 17 = .ok (.aload_n 0, 1) := by decide +kernel
theorem d_La_law_18 : decode code 18 = .ok (.iconst 0, 1) := by decide +kernel
theorem d_La_law_19 : decode code 19 = .ok (.invokestatic 32, 3) := by decide +kernel
theorem d_La_law_22 : decode code 22 = .ok (.invokespecial 43, 3) := by decide +kernel
theorem d_La_law_25 : decode code 25 = .ok (.astore_n 2, 1) := by decide +kernel
theorem d_La_law_26 : decode code 26 = .ok (.iconst 1, 1) := by decide +kernel
theorem d_La_law_27 : decode code 27 = .ok (.newarray .long, 2) := by decide +kernel
theorem d_La_law_29 : decode code 29 = .ok (.astore_n 3, 1) := by decide +kernel
theorem d_La_law_30 : decode code 30 = .ok (.iconst 1, 1) := by decide +kernel
theorem d_La_law_31 : decode code 31 = .ok (.istore 4, 2) := by decide +kernel
theorem d_La_law_33 : decode code 33 = .ok (.iload 4, 2) := by decide +kernel
theorem d_La_law_35 : decode code 35 = .ok (.aload_n 0, 1) := by decide +kernel
theorem d_La_law_36 : decode code 36 = .ok (.arraylength, 1) := by decide +kernel
theorem d_La_law_37 : decode code 37 = .ok (.iconst 3, 1) := by decide +kernel
theorem d_La_law_38 : decode code 38 = .ok (.isub, 1) := by decide +kernel
theorem d_La_law_39 : decode code 39 = .ok (.if_icmp .gt 525, 3) := by decide +kernel
theorem d_La_law_42 : decode code 42 = .ok (.aload_n 0, 1) := by decide +kernel
theorem d_La_law_43 : decode code 43 = .ok (.iload 4, 2) := by decide +kernel
theorem d_La_law_45 : decode code 45 = .ok (.iaload, 1) := by decide +kernel
theorem d_La_law_46 : decode code 46 = .ok (.bipush 15, 2) := by decide +kernel
theorem d_La_law_48 : decode code 48 = .ok (.iand, 1) := by decide +kernel
theorem d_La_law_49 : decode code 49 = .ok (.tableswitch 509 0 13 #[71, 96, 109, 153, 166, 203, 240, 253, 278, 303, 371, 427, 471, 484], 71) := by decide +kernel
theorem d_La_law_120 : decode code 120 = .ok (.aload_n 1, 1) := by decide +kernel
theorem d_La_law_121 : decode code 121 = .ok (.aload_n 0, 1) := by decide +kernel
theorem d_La_law_122 : decode code 122 = .ok (.iload 4, 2) := by decide +kernel
theorem d_La_law_124 : decode code 124 = .ok (.iconst 1, 1) := by decide +kernel
theorem d_La_law_125 : decode code 125 = .ok (.iadd, 1) := by decide +kernel
theorem d_La_law_126 : decode code 126 = .ok (.iaload, 1) := by decide +kernel
theorem d_La_law_127 : decode code 127 = .ok (.invokevirtual 44, 3) := by decide +kernel
theorem d_La_law_130 : decode code 130 = .ok (.aload_n 2, 1) := by decide +kernel
theorem d_La_law_131 : decode code 131 = .ok (.aload_n 0, 1) := by decide +kernel
theorem d_La_law_132 : decode code 132 = .ok (.iload 4, 2) := by decide +kernel
theorem d_La_law_134 : decode code 134 = .ok (.iconst 1, 1) := by decide +kernel
theorem d_La_law_135 : decode code 135 = .ok (.iadd, 1) := by decide +kernel
theorem d_La_law_136 : decode code 136 = .ok (.iaload, 1) := by decide +kernel
theorem d_La_law_137 : decode code 137 = .ok (.invokevirtual 48, 3) := by decide +kernel
theorem d_La_law_140 : decode code 140 = .ok (.if_icmp .eq 418, 3) := by decide +kernel
theorem d_La_law_143 : decode code 143 = .ok (.iconst 0, 1) := by decide +kernel
theorem d_La_law_144 : decode code 144 = .ok (.ireturn, 1) := by decide +kernel
theorem d_La_law_145 : decode code 145 = .ok (.aload_n 1, 1) := by decide +kernel
theorem d_La_law_146 : decode code 146 = .ok (.invokevirtual 49, 3) := by decide +kernel
theorem d_La_law_149 : decode code 149 = .ok (.aload_n 2, 1) := by decide +kernel
theorem d_La_law_150 : decode code 150 = .ok (.invokevirtual 52, 3) := by decide +kernel
theorem d_La_law_153 : decode code 153 = .ok (.if_icmp .eq 405, 3) := by decide +kernel
theorem d_La_law_156 : decode code 156 = .ok (.iconst 0, 1) := by decide +kernel
theorem d_La_law_157 : decode code 157 = .ok (.ireturn, 1) := by decide +kernel
theorem d_La_law_158 : decode code 158 = .ok (.aload_n 1, 1) := by decide +kernel
theorem d_La_law_159 : decode code 159 = .ok (.aload_n 3, 1) := by decide +kernel
theorem d_La_law_160 : decode code 160 = .ok (.invokestatic 53, 3) := by decide +kernel
theorem d_La_law_163 : decode code 163 = .ok (.istore 5, 2) := by decide +kernel
theorem d_La_law_165 : decode code 165 = .ok (.aload_n 2, 1) := by decide +kernel
theorem d_La_law_166 : decode code 166 = .ok (.invokevirtual 56, 3) := by decide +kernel
theorem d_La_law_169 : decode code 169 = .ok (.istore 6, 2) := by decide +kernel
theorem d_La_law_171 : decode code 171 = .ok (.aload_n 2, 1) := by decide +kernel
theorem d_La_law_172 : decode code 172 = .ok (.invokevirtual 57, 3) := by decide +kernel
theorem d_La_law_175 : decode code 175 = .ok (.iload 5, 2) := by decide +kernel
theorem d_La_law_177 : decode code 177 = .ok (.if_icmp .eq 5, 3) := by decide +kernel
theorem d_La_law_180 : decode code 180 = .ok (.iconst 0, 1) := by decide +kernel
theorem d_La_law_181 : decode code 181 = .ok (.ireturn, 1) := by decide +kernel
theorem d_La_law_182 : decode code 182 = .ok (.iload 5, 2) := by decide +kernel
theorem d_La_law_184 : decode code 184 = .ok (.ifCond .ne 15, 3) := by decide +kernel
theorem d_La_law_187 : decode code 187 = .ok (.aload_n 3, 1) := by decide +kernel
theorem d_La_law_188 : decode code 188 = .ok (.iconst 0, 1) := by decide +kernel
theorem d_La_law_189 : decode code 189 = .ok (.laload, 1) := by decide +kernel
theorem d_La_law_190 : decode code 190 = .ok (.iload 6, 2) := by decide +kernel
theorem d_La_law_192 : decode code 192 = .ok (.i2l, 1) := by decide +kernel
theorem d_La_law_193 : decode code 193 = .ok (.lcmp, 1) := by decide +kernel
theorem d_La_law_194 : decode code 194 = .ok (.ifCond .eq 5, 3) := by decide +kernel
theorem d_La_law_197 : decode code 197 = .ok (.iconst 0, 1) := by decide +kernel
theorem d_La_law_198 : decode code 198 = .ok (.ireturn, 1) := by decide +kernel
theorem d_La_law_199 : decode code 199 = .ok (.goto 359, 3) := by decide +kernel
theorem d_La_law_202 : decode code 202 = .ok (.aload_n 1, 1) := by decide +kernel
theorem d_La_law_203 : decode code 203 = .ok (.invokevirtual 60, 3) := by decide +kernel
theorem d_La_law_206 : decode code 206 = .ok (.aload_n 2, 1) := by decide +kernel
theorem d_La_law_207 : decode code 207 = .ok (.invokevirtual 63, 3) := by decide +kernel
theorem d_La_law_210 : decode code 210 = .ok (.if_icmp .eq 348, 3) := by decide +kernel
theorem d_La_law_213 : decode code 213 = .ok (.iconst 0, 1) := by decide +kernel
theorem d_La_law_214 : decode code 214 = .ok (.ireturn, 1) := by decide +kernel
theorem d_La_law_215 : decode code 215 = .ok (.aload_n 1, 1) := by decide +kernel
theorem d_La_law_216 : decode code 216 = .ok (.aload_n 0, 1) := by decide +kernel
theorem d_La_law_217 : decode code 217 = .ok (.iload 4, 2) := by decide +kernel
theorem d_La_law_219 : decode code 219 = .ok (.iconst 1, 1) := by decide +kernel
theorem d_La_law_220 : decode code 220 = .ok (.iadd, 1) := by decide +kernel
theorem d_La_law_221 : decode code 221 = .ok (.iaload, 1) := by decide +kernel
theorem d_La_law_222 : decode code 222 = .ok (.aload_n 0, 1) := by decide +kernel
theorem d_La_law_223 : decode code 223 = .ok (.iload 4, 2) := by decide +kernel
theorem d_La_law_225 : decode code 225 = .ok (.iconst 2, 1) := by decide +kernel
theorem d_La_law_226 : decode code 226 = .ok (.iadd, 1) := by decide +kernel
theorem d_La_law_227 : decode code 227 = .ok (.iaload, 1) := by decide +kernel
theorem d_La_law_228 : decode code 228 = .ok (.invokevirtual 64, 3) := by decide +kernel
theorem d_La_law_231 : decode code 231 = .ok (.aload_n 2, 1) := by decide +kernel
theorem d_La_law_232 : decode code 232 = .ok (.aload_n 0, 1) := by decide +kernel
theorem d_La_law_233 : decode code 233 = .ok (.iload 4, 2) := by decide +kernel
theorem d_La_law_235 : decode code 235 = .ok (.iconst 1, 1) := by decide +kernel
theorem d_La_law_236 : decode code 236 = .ok (.iadd, 1) := by decide +kernel
theorem d_La_law_237 : decode code 237 = .ok (.iaload, 1) := by decide +kernel
theorem d_La_law_238 : decode code 238 = .ok (.aload_n 0, 1) := by decide +kernel
theorem d_La_law_239 : decode code 239 = .ok (.iload 4, 2) := by decide +kernel
theorem d_La_law_241 : decode code 241 = .ok (.iconst 2, 1) := by decide +kernel
theorem d_La_law_242 : decode code 242 = .ok (.iadd, 1) := by decide +kernel
theorem d_La_law_243 : decode code 243 = .ok (.iaload, 1) := by decide +kernel
theorem d_La_law_244 : decode code 244 = .ok (.invokevirtual 67, 3) := by decide +kernel
theorem d_La_law_247 : decode code 247 = .ok (.if_icmp .eq 311, 3) := by decide +kernel
theorem d_La_law_250 : decode code 250 = .ok (.iconst 0, 1) := by decide +kernel
theorem d_La_law_251 : decode code 251 = .ok (.ireturn, 1) := by decide +kernel
theorem d_La_law_252 : decode code 252 = .ok (.aload_n 1, 1) := by decide +kernel
theorem d_La_law_253 : decode code 253 = .ok (.aload_n 0, 1) := by decide +kernel
theorem d_La_law_254 : decode code 254 = .ok (.iload 4, 2) := by decide +kernel
theorem d_La_law_256 : decode code 256 = .ok (.iconst 1, 1) := by decide +kernel
theorem d_La_law_257 : decode code 257 = .ok (.iadd, 1) := by decide +kernel
theorem d_La_law_258 : decode code 258 = .ok (.iaload, 1) := by decide +kernel
theorem d_La_law_259 : decode code 259 = .ok (.aload_n 0, 1) := by decide +kernel
theorem d_La_law_260 : decode code 260 = .ok (.iload 4, 2) := by decide +kernel
theorem d_La_law_262 : decode code 262 = .ok (.iconst 2, 1) := by decide +kernel
theorem d_La_law_263 : decode code 263 = .ok (.iadd, 1) := by decide +kernel
theorem d_La_law_264 : decode code 264 = .ok (.iaload, 1) := by decide +kernel
theorem d_La_law_265 : decode code 265 = .ok (.invokevirtual 68, 3) := by decide +kernel
theorem d_La_law_268 : decode code 268 = .ok (.aload_n 2, 1) := by decide +kernel
theorem d_La_law_269 : decode code 269 = .ok (.aload_n 0, 1) := by decide +kernel
theorem d_La_law_270 : decode code 270 = .ok (.iload 4, 2) := by decide +kernel
theorem d_La_law_272 : decode code 272 = .ok (.iconst 1, 1) := by decide +kernel
theorem d_La_law_273 : decode code 273 = .ok (.iadd, 1) := by decide +kernel
theorem d_La_law_274 : decode code 274 = .ok (.iaload, 1) := by decide +kernel
theorem d_La_law_275 : decode code 275 = .ok (.aload_n 0, 1) := by decide +kernel
theorem d_La_law_276 : decode code 276 = .ok (.iload 4, 2) := by decide +kernel
theorem d_La_law_278 : decode code 278 = .ok (.iconst 2, 1) := by decide +kernel
theorem d_La_law_279 : decode code 279 = .ok (.iadd, 1) := by decide +kernel
theorem d_La_law_280 : decode code 280 = .ok (.iaload, 1) := by decide +kernel
theorem d_La_law_281 : decode code 281 = .ok (.invokevirtual 71, 3) := by decide +kernel
theorem d_La_law_284 : decode code 284 = .ok (.if_icmp .eq 274, 3) := by decide +kernel
theorem d_La_law_287 : decode code 287 = .ok (.iconst 0, 1) := by decide +kernel
theorem d_La_law_288 : decode code 288 = .ok (.ireturn, 1) := by decide +kernel
theorem d_La_law_289 : decode code 289 = .ok (.aload_n 1, 1) := by decide +kernel
theorem d_La_law_290 : decode code 290 = .ok (.invokevirtual 72, 3) := by decide +kernel
theorem d_La_law_293 : decode code 293 = .ok (.aload_n 2, 1) := by decide +kernel
theorem d_La_law_294 : decode code 294 = .ok (.invokevirtual 75, 3) := by decide +kernel
theorem d_La_law_297 : decode code 297 = .ok (.if_icmp .eq 261, 3) := by decide +kernel
theorem d_La_law_300 : decode code 300 = .ok (.iconst 0, 1) := by decide +kernel
theorem d_La_law_301 : decode code 301 = .ok (.ireturn, 1) := by decide +kernel
theorem d_La_law_302 : decode code 302 = .ok (.aload_n 1, 1) := by decide +kernel
theorem d_La_law_303 : decode code 303 = .ok (.aload_n 0, 1) := by decide +kernel
theorem d_La_law_304 : decode code 304 = .ok (.iload 4, 2) := by decide +kernel
theorem d_La_law_306 : decode code 306 = .ok (.iconst 1, 1) := by decide +kernel
theorem d_La_law_307 : decode code 307 = .ok (.iadd, 1) := by decide +kernel
theorem d_La_law_308 : decode code 308 = .ok (.iaload, 1) := by decide +kernel
theorem d_La_law_309 : decode code 309 = .ok (.invokevirtual 76, 3) := by decide +kernel
theorem d_La_law_312 : decode code 312 = .ok (.aload_n 2, 1) := by decide +kernel
theorem d_La_law_313 : decode code 313 = .ok (.aload_n 0, 1) := by decide +kernel
theorem d_La_law_314 : decode code 314 = .ok (.iload 4, 2) := by decide +kernel
theorem d_La_law_316 : decode code 316 = .ok (.iconst 1, 1) := by decide +kernel
theorem d_La_law_317 : decode code 317 = .ok (.iadd, 1) := by decide +kernel
theorem d_La_law_318 : decode code 318 = .ok (.iaload, 1) := by decide +kernel
theorem d_La_law_319 : decode code 319 = .ok (.invokevirtual 79, 3) := by decide +kernel
theorem d_La_law_322 : decode code 322 = .ok (.if_icmp .eq 236, 3) := by decide +kernel
theorem d_La_law_325 : decode code 325 = .ok (.iconst 0, 1) := by decide +kernel
theorem d_La_law_326 : decode code 326 = .ok (.ireturn, 1) := by decide +kernel
theorem d_La_law_327 : decode code 327 = .ok (.aload_n 1, 1) := by decide +kernel
theorem d_La_law_328 : decode code 328 = .ok (.aload_n 0, 1) := by decide +kernel
theorem d_La_law_329 : decode code 329 = .ok (.iload 4, 2) := by decide +kernel
theorem d_La_law_331 : decode code 331 = .ok (.iconst 1, 1) := by decide +kernel
theorem d_La_law_332 : decode code 332 = .ok (.iadd, 1) := by decide +kernel
theorem d_La_law_333 : decode code 333 = .ok (.iaload, 1) := by decide +kernel
theorem d_La_law_334 : decode code 334 = .ok (.invokevirtual 80, 3) := by decide +kernel
theorem d_La_law_337 : decode code 337 = .ok (.aload_n 2, 1) := by decide +kernel
theorem d_La_law_338 : decode code 338 = .ok (.aload_n 0, 1) := by decide +kernel
theorem d_La_law_339 : decode code 339 = .ok (.iload 4, 2) := by decide +kernel
theorem d_La_law_341 : decode code 341 = .ok (.iconst 1, 1) := by decide +kernel
theorem d_La_law_342 : decode code 342 = .ok (.iadd, 1) := by decide +kernel
theorem d_La_law_343 : decode code 343 = .ok (.iaload, 1) := by decide +kernel
theorem d_La_law_344 : decode code 344 = .ok (.invokevirtual 83, 3) := by decide +kernel
theorem d_La_law_347 : decode code 347 = .ok (.if_icmp .eq 211, 3) := by decide +kernel
theorem d_La_law_350 : decode code 350 = .ok (.iconst 0, 1) := by decide +kernel
theorem d_La_law_351 : decode code 351 = .ok (.ireturn, 1) := by decide +kernel
theorem d_La_law_352 : decode code 352 = .ok (.aload_n 1, 1) := by decide +kernel
theorem d_La_law_353 : decode code 353 = .ok (.aload_n 0, 1) := by decide +kernel
theorem d_La_law_354 : decode code 354 = .ok (.iload 4, 2) := by decide +kernel
theorem d_La_law_356 : decode code 356 = .ok (.iconst 1, 1) := by decide +kernel
theorem d_La_law_357 : decode code 357 = .ok (.iadd, 1) := by decide +kernel
theorem d_La_law_358 : decode code 358 = .ok (.iaload, 1) := by decide +kernel
theorem d_La_law_359 : decode code 359 = .ok (.aload_n 0, 1) := by decide +kernel
theorem d_La_law_360 : decode code 360 = .ok (.iload 4, 2) := by decide +kernel
theorem d_La_law_362 : decode code 362 = .ok (.iconst 2, 1) := by decide +kernel
theorem d_La_law_363 : decode code 363 = .ok (.iadd, 1) := by decide +kernel
theorem d_La_law_364 : decode code 364 = .ok (.iaload, 1) := by decide +kernel
theorem d_La_law_365 : decode code 365 = .ok (.aload_n 3, 1) := by decide +kernel
theorem d_La_law_366 : decode code 366 = .ok (.invokestatic 84, 3) := by decide +kernel
theorem d_La_law_369 : decode code 369 = .ok (.istore 5, 2) := by decide +kernel
theorem d_La_law_371 : decode code 371 = .ok (.aload_n 2, 1) := by decide +kernel
theorem d_La_law_372 : decode code 372 = .ok (.aload_n 0, 1) := by decide +kernel
theorem d_La_law_373 : decode code 373 = .ok (.iload 4, 2) := by decide +kernel
theorem d_La_law_375 : decode code 375 = .ok (.iconst 1, 1) := by decide +kernel
theorem d_La_law_376 : decode code 376 = .ok (.iadd, 1) := by decide +kernel
theorem d_La_law_377 : decode code 377 = .ok (.iaload, 1) := by decide +kernel
theorem d_La_law_378 : decode code 378 = .ok (.aload_n 0, 1) := by decide +kernel
theorem d_La_law_379 : decode code 379 = .ok (.iload 4, 2) := by decide +kernel
theorem d_La_law_381 : decode code 381 = .ok (.iconst 2, 1) := by decide +kernel
theorem d_La_law_382 : decode code 382 = .ok (.iadd, 1) := by decide +kernel
theorem d_La_law_383 : decode code 383 = .ok (.iaload, 1) := by decide +kernel
theorem d_La_law_384 : decode code 384 = .ok (.invokevirtual 87, 3) := by decide +kernel
theorem d_La_law_387 : decode code 387 = .ok (.istore 6, 2) := by decide +kernel
theorem d_La_law_389 : decode code 389 = .ok (.aload_n 2, 1) := by decide +kernel
theorem d_La_law_390 : decode code 390 = .ok (.invokevirtual 57, 3) := by decide +kernel
theorem d_La_law_393 : decode code 393 = .ok (.iload 5, 2) := by decide +kernel
theorem d_La_law_395 : decode code 395 = .ok (.if_icmp .eq 5, 3) := by decide +kernel
theorem d_La_law_398 : decode code 398 = .ok (.iconst 0, 1) := by decide +kernel
theorem d_La_law_399 : decode code 399 = .ok (.ireturn, 1) := by decide +kernel
theorem d_La_law_400 : decode code 400 = .ok (.iload 5, 2) := by decide +kernel
theorem d_La_law_402 : decode code 402 = .ok (.ifCond .ne 15, 3) := by decide +kernel
theorem d_La_law_405 : decode code 405 = .ok (.aload_n 3, 1) := by decide +kernel
theorem d_La_law_406 : decode code 406 = .ok (.iconst 0, 1) := by decide +kernel
theorem d_La_law_407 : decode code 407 = .ok (.laload, 1) := by decide +kernel
theorem d_La_law_408 : decode code 408 = .ok (.iload 6, 2) := by decide +kernel
theorem d_La_law_410 : decode code 410 = .ok (.i2l, 1) := by decide +kernel
theorem d_La_law_411 : decode code 411 = .ok (.lcmp, 1) := by decide +kernel
theorem d_La_law_412 : decode code 412 = .ok (.ifCond .eq 5, 3) := by decide +kernel
theorem d_La_law_415 : decode code 415 = .ok (.iconst 0, 1) := by decide +kernel
theorem d_La_law_416 : decode code 416 = .ok (.ireturn, 1) := by decide +kernel
theorem d_La_law_417 : decode code 417 = .ok (.goto 141, 3) := by decide +kernel
theorem d_La_law_420 : decode code 420 = .ok (.aload_n 1, 1) := by decide +kernel
theorem d_La_law_421 : decode code 421 = .ok (.aload_n 0, 1) := by decide +kernel
theorem d_La_law_422 : decode code 422 = .ok (.iload 4, 2) := by decide +kernel
theorem d_La_law_424 : decode code 424 = .ok (.iconst 1, 1) := by decide +kernel
theorem d_La_law_425 : decode code 425 = .ok (.iadd, 1) := by decide +kernel
theorem d_La_law_426 : decode code 426 = .ok (.iaload, 1) := by decide +kernel
theorem d_La_law_427 : decode code 427 = .ok (.aload_n 3, 1) := by decide +kernel
theorem d_La_law_428 : decode code 428 = .ok (.invokestatic 88, 3) := by decide +kernel
theorem d_La_law_431 : decode code 431 = .ok (.istore 5, 2) := by decide +kernel
theorem d_La_law_433 : decode code 433 = .ok (.aload_n 2, 1) := by decide +kernel
theorem d_La_law_434 : decode code 434 = .ok (.aload_n 0, 1) := by decide +kernel
theorem d_La_law_435 : decode code 435 = .ok (.iload 4, 2) := by decide +kernel
theorem d_La_law_437 : decode code 437 = .ok (.iconst 1, 1) := by decide +kernel
theorem d_La_law_438 : decode code 438 = .ok (.iadd, 1) := by decide +kernel
theorem d_La_law_439 : decode code 439 = .ok (.iaload, 1) := by decide +kernel
theorem d_La_law_440 : decode code 440 = .ok (.invokevirtual 91, 3) := by decide +kernel
theorem d_La_law_443 : decode code 443 = .ok (.istore 6, 2) := by decide +kernel
theorem d_La_law_445 : decode code 445 = .ok (.aload_n 2, 1) := by decide +kernel
theorem d_La_law_446 : decode code 446 = .ok (.invokevirtual 57, 3) := by decide +kernel
theorem d_La_law_449 : decode code 449 = .ok (.iload 5, 2) := by decide +kernel
theorem d_La_law_451 : decode code 451 = .ok (.if_icmp .eq 5, 3) := by decide +kernel
theorem d_La_law_454 : decode code 454 = .ok (.iconst 0, 1) := by decide +kernel
theorem d_La_law_455 : decode code 455 = .ok (.ireturn, 1) := by decide +kernel
theorem d_La_law_456 : decode code 456 = .ok (.iload 5, 2) := by decide +kernel
theorem d_La_law_458 : decode code 458 = .ok (.ifCond .ne 15, 3) := by decide +kernel
theorem d_La_law_461 : decode code 461 = .ok (.aload_n 3, 1) := by decide +kernel
theorem d_La_law_462 : decode code 462 = .ok (.iconst 0, 1) := by decide +kernel
theorem d_La_law_463 : decode code 463 = .ok (.laload, 1) := by decide +kernel
theorem d_La_law_464 : decode code 464 = .ok (.iload 6, 2) := by decide +kernel
theorem d_La_law_466 : decode code 466 = .ok (.i2l, 1) := by decide +kernel
theorem d_La_law_467 : decode code 467 = .ok (.lcmp, 1) := by decide +kernel
theorem d_La_law_468 : decode code 468 = .ok (.ifCond .eq 5, 3) := by decide +kernel
theorem d_La_law_471 : decode code 471 = .ok (.iconst 0, 1) := by decide +kernel
theorem d_La_law_472 : decode code 472 = .ok (.ireturn, 1) := by decide +kernel
theorem d_La_law_473 : decode code 473 = .ok (.goto 85, 3) := by decide +kernel
theorem d_La_law_476 : decode code 476 = .ok (.aload_n 1, 1) := by decide +kernel
theorem d_La_law_477 : decode code 477 = .ok (.aload_n 3, 1) := by decide +kernel
theorem d_La_law_478 : decode code 478 = .ok (.invokestatic 92, 3) := by decide +kernel
theorem d_La_law_481 : decode code 481 = .ok (.istore 5, 2) := by decide +kernel
theorem d_La_law_483 : decode code 483 = .ok (.aload_n 2, 1) := by decide +kernel
theorem d_La_law_484 : decode code 484 = .ok (.invokevirtual 94, 3) := by decide +kernel
theorem d_La_law_487 : decode code 487 = .ok (.istore 6, 2) := by decide +kernel
theorem d_La_law_489 : decode code 489 = .ok (.aload_n 2, 1) := by decide +kernel
theorem d_La_law_490 : decode code 490 = .ok (.invokevirtual 57, 3) := by decide +kernel
theorem d_La_law_493 : decode code 493 = .ok (.iload 5, 2) := by decide +kernel
theorem d_La_law_495 : decode code 495 = .ok (.if_icmp .eq 5, 3) := by decide +kernel
theorem d_La_law_498 : decode code 498 = .ok (.iconst 0, 1) := by decide +kernel
theorem d_La_law_499 : decode code 499 = .ok (.ireturn, 1) := by decide +kernel
theorem d_La_law_500 : decode code 500 = .ok (.iload 5, 2) := by decide +kernel
theorem d_La_law_502 : decode code 502 = .ok (.ifCond .ne 15, 3) := by decide +kernel
theorem d_La_law_505 : decode code 505 = .ok (.aload_n 3, 1) := by decide +kernel
theorem d_La_law_506 : decode code 506 = .ok (.iconst 0, 1) := by decide +kernel
theorem d_La_law_507 : decode code 507 = .ok (.laload, 1) := by decide +kernel
theorem d_La_law_508 : decode code 508 = .ok (.iload 6, 2) := by decide +kernel
theorem d_La_law_510 : decode code 510 = .ok (.i2l, 1) := by decide +kernel
theorem d_La_law_511 : decode code 511 = .ok (.lcmp, 1) := by decide +kernel
theorem d_La_law_512 : decode code 512 = .ok (.ifCond .eq 5, 3) := by decide +kernel
theorem d_La_law_515 : decode code 515 = .ok (.iconst 0, 1) := by decide +kernel
theorem d_La_law_516 : decode code 516 = .ok (.ireturn, 1) := by decide +kernel
theorem d_La_law_517 : decode code 517 = .ok (.goto 41, 3) := by decide +kernel
theorem d_La_law_520 : decode code 520 = .ok (.aload_n 1, 1) := by decide +kernel
theorem d_La_law_521 : decode code 521 = .ok (.invokevirtual 95, 3) := by decide +kernel
theorem d_La_law_524 : decode code 524 = .ok (.aload_n 2, 1) := by decide +kernel
theorem d_La_law_525 : decode code 525 = .ok (.invokevirtual 98, 3) := by decide +kernel
theorem d_La_law_528 : decode code 528 = .ok (.if_icmp .eq 30, 3) := by decide +kernel
theorem d_La_law_531 : decode code 531 = .ok (.iconst 0, 1) := by decide +kernel
theorem d_La_law_532 : decode code 532 = .ok (.ireturn, 1) := by decide +kernel
theorem d_La_law_533 : decode code 533 = .ok (.aload_n 1, 1) := by decide +kernel
theorem d_La_law_534 : decode code 534 = .ok (.aload_n 0, 1) := by decide +kernel
theorem d_La_law_535 : decode code 535 = .ok (.iload 4, 2) := by decide +kernel
theorem d_La_law_537 : decode code 537 = .ok (.iconst 1, 1) := by decide +kernel
theorem d_La_law_538 : decode code 538 = .ok (.iadd, 1) := by decide +kernel
theorem d_La_law_539 : decode code 539 = .ok (.iaload, 1) := by decide +kernel
theorem d_La_law_540 : decode code 540 = .ok (.invokevirtual 99, 3) := by decide +kernel
theorem d_La_law_543 : decode code 543 = .ok (.aload_n 2, 1) := by decide +kernel
theorem d_La_law_544 : decode code 544 = .ok (.aload_n 0, 1) := by decide +kernel
theorem d_La_law_545 : decode code 545 = .ok (.iload 4, 2) := by decide +kernel
theorem d_La_law_547 : decode code 547 = .ok (.iconst 1, 1) := by decide +kernel
theorem d_La_law_548 : decode code 548 = .ok (.iadd, 1) := by decide +kernel
theorem d_La_law_549 : decode code 549 = .ok (.iaload, 1) := by decide +kernel
theorem d_La_law_550 : decode code 550 = .ok (.invokevirtual 102, 3) := by decide +kernel
theorem d_La_law_553 : decode code 553 = .ok (.if_icmp .eq 5, 3) := by decide +kernel
theorem d_La_law_556 : decode code 556 = .ok (.iconst 0, 1) := by decide +kernel
theorem d_La_law_557 : decode code 557 = .ok (.ireturn, 1) := by decide +kernel
theorem d_La_law_558 : decode code 558 = .ok (.iinc 4 3, 3) := by decide +kernel
theorem d_La_law_561 : decode code 561 = .ok (.goto (-528), 3) := by decide +kernel
theorem d_La_law_564 : decode code 564 = .ok (.iconst 1, 1) := by decide +kernel
theorem d_La_law_565 : decode code 565 = .ok (.ireturn, 1) := by decide +kernel
