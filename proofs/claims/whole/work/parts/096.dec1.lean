theorem d_Mo_bit_69 : decode prog_13_method_10_code 69 = .ok (.getfield 31, 3) := by decide +kernel
theorem d_Mo_bit_72 : decode prog_13_method_10_code 72 = .ok (.iload_n 1, 1) := by decide +kernel
theorem d_Mo_bit_73 : decode prog_13_method_10_code 73 = .ok (.iload_n 3, 1) := by decide +kernel
theorem d_Mo_bit_74 : decode prog_13_method_10_code 74 = .ok (.sipush 2048, 3) := by decide +kernel
theorem d_Mo_bit_77 : decode prog_13_method_10_code 77 = .ok (.iload_n 3, 1) := by decide +kernel
theorem d_Mo_bit_78 : decode prog_13_method_10_code 78 = .ok (.isub, 1) := by decide +kernel
theorem d_Mo_bit_79 : decode prog_13_method_10_code 79 = .ok (.bipush 32, 2) := by decide +kernel
theorem d_Mo_bit_81 : decode prog_13_method_10_code 81 = .ok (.idiv, 1) := by decide +kernel
theorem d_Mo_bit_82 : decode prog_13_method_10_code 82 = .ok (.iadd, 1) := by decide +kernel
theorem d_Mo_bit_83 : decode prog_13_method_10_code 83 = .ok (.iastore, 1) := by decide +kernel
theorem d_Mo_bit_84 : decode prog_13_method_10_code 84 = .ok (.goto 53, 3) := by decide +kernel
theorem d_Mo_bit_87 : decode prog_13_method_10_code 87 = .ok (.aload_n 0, 1) := by decide +kernel
theorem d_Mo_bit_88 : decode prog_13_method_10_code 88 = .ok (.getfield 66, 3) := by decide +kernel
theorem d_Mo_bit_91 : decode prog_13_method_10_code 91 = .ok (.ifCond .eq 12, 3) := by decide +kernel
theorem d_Mo_bit_94 : decode prog_13_method_10_code 94 = .ok (.aload_n 0, 1) := by decide +kernel
theorem d_Mo_bit_95 : decode prog_13_method_10_code 95 = .ok (.lload 4, 2) := by decide +kernel
theorem d_Mo_bit_97 : decode prog_13_method_10_code 97 = .ok (.invokevirtual 109, 3) := by decide +kernel
theorem d_Mo_bit_100 : decode prog_13_method_10_code 100 = .ok (.goto 14, 3) := by decide +kernel
theorem d_Mo_bit_103 : decode prog_13_method_10_code 103 = .ok (.aload_n 0, 1) := by decide +kernel
theorem d_Mo_bit_104 : decode prog_13_method_10_code 104 = .ok (.aload_n 0, 1) := by decide +kernel
theorem d_Mo_bit_105 : decode prog_13_method_10_code 105 = .ok (.getfield 91, 3) := by decide +kernel
theorem d_Mo_bit_108 : decode prog_13_method_10_code 108 = .ok (.lload 4, 2) := by decide +kernel
theorem d_Mo_bit_110 : decode prog_13_method_10_code 110 = .ok (.lsub, 1) := by decide +kernel
theorem d_Mo_bit_111 : decode prog_13_method_10_code 111 = .ok (.putfield 91, 3) := by decide +kernel
theorem d_Mo_bit_114 : decode prog_13_method_10_code 114 = .ok (.aload_n 0, 1) := by decide +kernel
theorem d_Mo_bit_115 : decode prog_13_method_10_code 115 = .ok (.aload_n 0, 1) := by decide +kernel
theorem d_Mo_bit_116 : decode prog_13_method_10_code 116 = .ok (.getfield 75, 3) := by decide +kernel
theorem d_Mo_bit_119 : decode prog_13_method_10_code 119 = .ok (.lload 4, 2) := by decide +kernel
theorem d_Mo_bit_121 : decode prog_13_method_10_code 121 = .ok (.lsub, 1) := by decide +kernel
theorem d_Mo_bit_122 : decode prog_13_method_10_code 122 = .ok (.putfield 75, 3) := by decide +kernel
theorem d_Mo_bit_125 : decode prog_13_method_10_code 125 = .ok (.aload_n 0, 1) := by decide +kernel
theorem d_Mo_bit_126 : decode prog_13_method_10_code 126 = .ok (.getfield 31, 3) := by decide +kernel
theorem d_Mo_bit_129 : decode prog_13_method_10_code 129 = .ok (.iload_n 1, 1) := by decide +kernel
theorem d_Mo_bit_130 : decode prog_13_method_10_code 130 = .ok (.iload_n 3, 1) := by decide +kernel
theorem d_Mo_bit_131 : decode prog_13_method_10_code 131 = .ok (.iload_n 3, 1) := by decide +kernel
theorem d_Mo_bit_132 : decode prog_13_method_10_code 132 = .ok (.bipush 32, 2) := by decide +kernel
theorem d_Mo_bit_134 : decode prog_13_method_10_code 134 = .ok (.idiv, 1) := by decide +kernel
theorem d_Mo_bit_135 : decode prog_13_method_10_code 135 = .ok (.isub, 1) := by decide +kernel
theorem d_Mo_bit_136 : decode prog_13_method_10_code 136 = .ok (.iastore, 1) := by decide +kernel
theorem d_Mo_bit_137 : decode prog_13_method_10_code 137 = .ok (.aload_n 0, 1) := by decide +kernel
theorem d_Mo_bit_138 : decode prog_13_method_10_code 138 = .ok (.invokevirtual 113, 3) := by decide +kernel
theorem d_Mo_bit_141 : decode prog_13_method_10_code 141 = .ok (.iload 6, 2) := by decide +kernel
theorem d_Mo_bit_143 : decode prog_13_method_10_code 143 = .ok (.ireturn, 1) := by decide +kernel
theorem d_Mo_tree_0 : decode prog_13_method_11_code 0 = .ok (.iconst 1, 1) := by decide +kernel
theorem d_Mo_tree_1 : decode prog_13_method_11_code 1 = .ok (.istore 4, 2) := by decide +kernel
theorem d_Mo_tree_3 : decode prog_13_method_11_code 3 = .ok (.iload_n 2, 1) := by decide +kernel
theorem d_Mo_tree_4 : decode prog_13_method_11_code 4 = .ok (.iconst 1, 1) := by decide +kernel
theorem d_Mo_tree_5 : decode prog_13_method_11_code 5 = .ok (.isub, 1) := by decide +kernel
theorem d_Mo_tree_6 : decode prog_13_method_11_code 6 = .ok (.istore 5, 2) := by decide +kernel
theorem d_Mo_tree_8 : decode prog_13_method_11_code 8 = .ok (.iload 5, 2) := by decide +kernel
theorem d_Mo_tree_10 : decode prog_13_method_11_code 10 = .ok (.ifCond .lt 30, 3) := by decide +kernel
theorem d_Mo_tree_13 : decode prog_13_method_11_code 13 = .ok (.iconst 2, 1) := by decide +kernel
theorem d_Mo_tree_14 : decode prog_13_method_11_code 14 = .ok (.iload 4, 2) := by decide +kernel
theorem d_Mo_tree_16 : decode prog_13_method_11_code 16 = .ok (.imul, 1) := by decide +kernel
theorem d_Mo_tree_17 : decode prog_13_method_11_code 17 = .ok (.aload_n 0, 1) := by decide +kernel
theorem d_Mo_tree_18 : decode prog_13_method_11_code 18 = .ok (.iload_n 1, 1) := by decide +kernel
theorem d_Mo_tree_19 : decode prog_13_method_11_code 19 = .ok (.iload 4, 2) := by decide +kernel
theorem d_Mo_tree_21 : decode prog_13_method_11_code 21 = .ok (.iadd, 1) := by decide +kernel
theorem d_Mo_tree_22 : decode prog_13_method_11_code 22 = .ok (.iload_n 3, 1) := by decide +kernel
theorem d_Mo_tree_23 : decode prog_13_method_11_code 23 = .ok (.iload 5, 2) := by decide +kernel
theorem d_Mo_tree_25 : decode prog_13_method_11_code 25 = .ok (.ishr, 1) := by decide +kernel
theorem d_Mo_tree_26 : decode prog_13_method_11_code 26 = .ok (.iconst 1, 1) := by decide +kernel
theorem d_Mo_tree_27 : decode prog_13_method_11_code 27 = .ok (.iand, 1) := by decide +kernel
theorem d_Mo_tree_28 : decode prog_13_method_11_code 28 = .ok (.invokevirtual 116, 3) := by decide +kernel
theorem d_Mo_tree_31 : decode prog_13_method_11_code 31 = .ok (.iadd, 1) := by decide +kernel
theorem d_Mo_tree_32 : decode prog_13_method_11_code 32 = .ok (.istore 4, 2) := by decide +kernel
theorem d_Mo_tree_34 : decode prog_13_method_11_code 34 = .ok (.iinc 5 (-1), 3) := by decide +kernel
theorem d_Mo_tree_37 : decode prog_13_method_11_code 37 = .ok (.goto (-29), 3) := by decide +kernel
theorem d_Mo_tree_40 : decode prog_13_method_11_code 40 = .ok (.iload 4, 2) := by decide +kernel
theorem d_Mo_tree_42 : decode prog_13_method_11_code 42 = .ok (.iconst 1, 1) := by decide +kernel
theorem d_Mo_tree_43 : decode prog_13_method_11_code 43 = .ok (.iload_n 2, 1) := by decide +kernel
theorem d_Mo_tree_44 : decode prog_13_method_11_code 44 = .ok (.ishl, 1) := by decide +kernel
theorem d_Mo_tree_45 : decode prog_13_method_11_code 45 = .ok (.isub, 1) := by decide +kernel
theorem d_Mo_tree_46 : decode prog_13_method_11_code 46 = .ok (.ireturn, 1) := by decide +kernel
theorem d_Mo_row_0 : decode prog_13_method_12_code 0 = .ok (.iconst 1, 1) := by decide +kernel
theorem d_Mo_row_1 : decode prog_13_method_12_code 1 = .ok (.istore 4, 2) := by decide +kernel
theorem d_Mo_row_3 : decode prog_13_method_12_code 3 = .ok (.iconst 0, 1) := by decide +kernel
theorem d_Mo_row_4 : decode prog_13_method_12_code 4 = .ok (.istore 5, 2) := by decide +kernel
theorem d_Mo_row_6 : decode prog_13_method_12_code 6 = .ok (.iconst 0, 1) := by decide +kernel
theorem d_Mo_row_7 : decode prog_13_method_12_code 7 = .ok (.istore 6, 2) := by decide +kernel
theorem d_Mo_row_9 : decode prog_13_method_12_code 9 = .ok (.iload 6, 2) := by decide +kernel
theorem d_Mo_row_11 : decode prog_13_method_12_code 11 = .ok (.iload_n 2, 1) := by decide +kernel
theorem d_Mo_row_12 : decode prog_13_method_12_code 12 = .ok (.if_icmp .ge 44, 3) := by decide +kernel
theorem d_Mo_row_15 : decode prog_13_method_12_code 15 = .ok (.aload_n 0, 1) := by decide +kernel
theorem d_Mo_row_16 : decode prog_13_method_12_code 16 = .ok (.iload_n 1, 1) := by decide +kernel
theorem d_Mo_row_17 : decode prog_13_method_12_code 17 = .ok (.iload 4, 2) := by decide +kernel
theorem d_Mo_row_19 : decode prog_13_method_12_code 19 = .ok (.iadd, 1) := by decide +kernel
theorem d_Mo_row_20 : decode prog_13_method_12_code 20 = .ok (.iload_n 3, 1) := by decide +kernel
theorem d_Mo_row_21 : decode prog_13_method_12_code 21 = .ok (.iload 6, 2) := by decide +kernel
theorem d_Mo_row_23 : decode prog_13_method_12_code 23 = .ok (.ishr, 1) := by decide +kernel
theorem d_Mo_row_24 : decode prog_13_method_12_code 24 = .ok (.iconst 1, 1) := by decide +kernel
theorem d_Mo_row_25 : decode prog_13_method_12_code 25 = .ok (.iand, 1) := by decide +kernel
theorem d_Mo_row_26 : decode prog_13_method_12_code 26 = .ok (.invokevirtual 116, 3) := by decide +kernel
theorem d_Mo_row_29 : decode prog_13_method_12_code 29 = .ok (.istore 7, 2) := by decide +kernel
theorem d_Mo_row_31 : decode prog_13_method_12_code 31 = .ok (.iconst 2, 1) := by decide +kernel
theorem d_Mo_row_32 : decode prog_13_method_12_code 32 = .ok (.iload 4, 2) := by decide +kernel
theorem d_Mo_row_34 : decode prog_13_method_12_code 34 = .ok (.imul, 1) := by decide +kernel
theorem d_Mo_row_35 : decode prog_13_method_12_code 35 = .ok (.iload 7, 2) := by decide +kernel
theorem d_Mo_row_37 : decode prog_13_method_12_code 37 = .ok (.iadd, 1) := by decide +kernel
theorem d_Mo_row_38 : decode prog_13_method_12_code 38 = .ok (.istore 4, 2) := by decide +kernel
theorem d_Mo_row_40 : decode prog_13_method_12_code 40 = .ok (.iload 5, 2) := by decide +kernel
theorem d_Mo_row_42 : decode prog_13_method_12_code 42 = .ok (.iload 7, 2) := by decide +kernel
theorem d_Mo_row_44 : decode prog_13_method_12_code 44 = .ok (.iload 6, 2) := by decide +kernel
theorem d_Mo_row_46 : decode prog_13_method_12_code 46 = .ok (.ishl, 1) := by decide +kernel
theorem d_Mo_row_47 : decode prog_13_method_12_code 47 = .ok (.iadd, 1) := by decide +kernel
theorem d_Mo_row_48 : decode prog_13_method_12_code 48 = .ok (.istore 5, 2) := by decide +kernel
theorem d_Mo_row_50 : decode prog_13_method_12_code 50 = .ok (.iinc 6 1, 3) := by decide +kernel
theorem d_Mo_row_53 : decode prog_13_method_12_code 53 = .ok (.goto (-44), 3) := by decide +kernel
theorem d_Mo_row_56 : decode prog_13_method_12_code 56 = .ok (.iload 5, 2) := by decide +kernel
theorem d_Mo_row_58 : decode prog_13_method_12_code 58 = .ok (.ireturn, 1) := by decide +kernel
theorem d_Mo_literal_0 : decode prog_13_method_13_code 0 = .ok (.aload_n 0, 1) := by decide +kernel
theorem d_Mo_literal_1 : decode prog_13_method_13_code 1 = .ok (.getfield 79, 3) := by decide +kernel
theorem d_Mo_literal_4 : decode prog_13_method_13_code 4 = .ok (.ifCond .ne 7, 3) := by decide +kernel
theorem d_Mo_literal_7 : decode prog_13_method_13_code 7 = .ok (.iconst 0, 1) := by decide +kernel
theorem d_Mo_literal_8 : decode prog_13_method_13_code 8 = .ok (.goto 17, 3) := by decide +kernel
theorem d_Mo_literal_11 : decode prog_13_method_13_code 11 = .ok (.aload_n 0, 1) := by decide +kernel
theorem d_Mo_literal_12 : decode prog_13_method_13_code 12 = .ok (.getfield 37, 3) := by decide +kernel
theorem d_Mo_literal_15 : decode prog_13_method_13_code 15 = .ok (.aload_n 0, 1) := by decide +kernel
theorem d_Mo_literal_16 : decode prog_13_method_13_code 16 = .ok (.getfield 79, 3) := by decide +kernel
theorem d_Mo_literal_19 : decode prog_13_method_13_code 19 = .ok (.iconst 1, 1) := by decide +kernel
theorem d_Mo_literal_20 : decode prog_13_method_13_code 20 = .ok (.isub, 1) := by decide +kernel
theorem d_Mo_literal_21 : decode prog_13_method_13_code 21 = .ok (.iaload, 1) := by decide +kernel
theorem d_Mo_literal_22 : decode prog_13_method_13_code 22 = .ok (.bipush 6, 2) := by decide +kernel
theorem d_Mo_literal_24 : decode prog_13_method_13_code 24 = .ok (.ishr, 1) := by decide +kernel
theorem d_Mo_literal_25 : decode prog_13_method_13_code 25 = .ok (.istore_n 2, 1) := by decide +kernel
theorem d_Mo_literal_26 : decode prog_13_method_13_code 26 = .ok (.bipush 72, 2) := by decide +kernel
theorem d_Mo_literal_28 : decode prog_13_method_13_code 28 = .ok (.sipush 768, 3) := by decide +kernel
theorem d_Mo_literal_31 : decode prog_13_method_13_code 31 = .ok (.iload_n 2, 1) := by decide +kernel
theorem d_Mo_literal_32 : decode prog_13_method_13_code 32 = .ok (.imul, 1) := by decide +kernel
theorem d_Mo_literal_33 : decode prog_13_method_13_code 33 = .ok (.iadd, 1) := by decide +kernel
theorem d_Mo_literal_34 : decode prog_13_method_13_code 34 = .ok (.istore_n 3, 1) := by decide +kernel
theorem d_Mo_literal_35 : decode prog_13_method_13_code 35 = .ok (.aload_n 0, 1) := by decide +kernel
theorem d_Mo_literal_36 : decode prog_13_method_13_code 36 = .ok (.getfield 82, 3) := by decide +kernel
theorem d_Mo_literal_39 : decode prog_13_method_13_code 39 = .ok (.bipush 7, 2) := by decide +kernel
theorem d_Mo_literal_41 : decode prog_13_method_13_code 41 = .ok (.if_icmp .ge 12, 3) := by decide +kernel
theorem d_Mo_literal_44 : decode prog_13_method_13_code 44 = .ok (.aload_n 0, 1) := by decide +kernel
theorem d_Mo_literal_45 : decode prog_13_method_13_code 45 = .ok (.iload_n 3, 1) := by decide +kernel
theorem d_Mo_literal_46 : decode prog_13_method_13_code 46 = .ok (.bipush 8, 2) := by decide +kernel
theorem d_Mo_literal_48 : decode prog_13_method_13_code 48 = .ok (.iload_n 1, 1) := by decide +kernel
theorem d_Mo_literal_49 : decode prog_13_method_13_code 49 = .ok (.invokevirtual 120, 3) := by decide +kernel
theorem d_Mo_literal_52 : decode prog_13_method_13_code 52 = .ok (.ireturn, 1) := by decide +kernel
theorem d_Mo_literal_53 : decode prog_13_method_13_code 53 = .ok (.aload_n 0, 1) := by decide +kernel
theorem d_Mo_literal_54 : decode prog_13_method_13_code 54 = .ok (.getfield 37, 3) := by decide +kernel
theorem d_Mo_literal_57 : decode prog_13_method_13_code 57 = .ok (.aload_n 0, 1) := by decide +kernel
theorem d_Mo_literal_58 : decode prog_13_method_13_code 58 = .ok (.getfield 79, 3) := by decide +kernel
theorem d_Mo_literal_61 : decode prog_13_method_13_code 61 = .ok (.aload_n 0, 1) := by decide +kernel
theorem d_Mo_literal_62 : decode prog_13_method_13_code 62 = .ok (.getfield 40, 3) := by decide +kernel
theorem d_Mo_literal_65 : decode prog_13_method_13_code 65 = .ok (.iconst 0, 1) := by decide +kernel
theorem d_Mo_literal_66 : decode prog_13_method_13_code 66 = .ok (.iaload, 1) := by decide +kernel
theorem d_Mo_literal_67 : decode prog_13_method_13_code 67 = .ok (.isub, 1) := by decide +kernel
theorem d_Mo_literal_68 : decode prog_13_method_13_code 68 = .ok (.iaload, 1) := by decide +kernel
theorem d_Mo_literal_69 : decode prog_13_method_13_code 69 = .ok (.istore 4, 2) := by decide +kernel
theorem d_Mo_literal_71 : decode prog_13_method_13_code 71 = .ok (.iconst 1, 1) := by decide +kernel
theorem d_Mo_literal_72 : decode prog_13_method_13_code 72 = .ok (.istore 5, 2) := by decide +kernel
theorem d_Mo_literal_74 : decode prog_13_method_13_code 74 = .ok (.iconst 1, 1) := by decide +kernel
theorem d_Mo_literal_75 : decode prog_13_method_13_code 75 = .ok (.istore 6, 2) := by decide +kernel
theorem d_Mo_literal_77 : decode prog_13_method_13_code 77 = .ok (.bipush 7, 2) := by decide +kernel
theorem d_Mo_literal_79 : decode prog_13_method_13_code 79 = .ok (.istore 7, 2) := by decide +kernel
theorem d_Mo_literal_81 : decode prog_13_method_13_code 81 = .ok (.iload 7, 2) := by decide +kernel
theorem d_Mo_literal_83 : decode prog_13_method_13_code 83 = .ok (.ifCond .lt 83, 3) := by decide +kernel
theorem d_Mo_literal_86 : decode prog_13_method_13_code 86 = .ok (.iload 4, 2) := by decide +kernel
theorem d_Mo_literal_88 : decode prog_13_method_13_code 88 = .ok (.iload 7, 2) := by decide +kernel
theorem d_Mo_literal_90 : decode prog_13_method_13_code 90 = .ok (.ishr, 1) := by decide +kernel
theorem d_Mo_literal_91 : decode prog_13_method_13_code 91 = .ok (.iconst 1, 1) := by decide +kernel
theorem d_Mo_literal_92 : decode prog_13_method_13_code 92 = .ok (.iand, 1) := by decide +kernel
theorem d_Mo_literal_93 : decode prog_13_method_13_code 93 = .ok (.istore 8, 2) := by decide +kernel
theorem d_Mo_literal_95 : decode prog_13_method_13_code 95 = .ok (.aload_n 0, 1) := by decide +kernel
theorem d_Mo_literal_96 : decode prog_13_method_13_code 96 = .ok (.iload 5, 2) := by decide +kernel
theorem d_Mo_literal_98 : decode prog_13_method_13_code 98 = .ok (.ifCond .eq 19, 3) := by decide +kernel
theorem d_Mo_literal_101 : decode prog_13_method_13_code 101 = .ok (.iload_n 3, 1) := by decide +kernel
theorem d_Mo_literal_102 : decode prog_13_method_13_code 102 = .ok (.sipush 256, 3) := by decide +kernel
theorem d_Mo_literal_105 : decode prog_13_method_13_code 105 = .ok (.iconst 1, 1) := by decide +kernel
theorem d_Mo_literal_106 : decode prog_13_method_13_code 106 = .ok (.iload 8, 2) := by decide +kernel
theorem d_Mo_literal_108 : decode prog_13_method_13_code 108 = .ok (.iadd, 1) := by decide +kernel
theorem d_Mo_literal_109 : decode prog_13_method_13_code 109 = .ok (.imul, 1) := by decide +kernel
theorem d_Mo_literal_110 : decode prog_13_method_13_code 110 = .ok (.iadd, 1) := by decide +kernel
theorem d_Mo_literal_111 : decode prog_13_method_13_code 111 = .ok (.iload 6, 2) := by decide +kernel
theorem d_Mo_literal_113 : decode prog_13_method_13_code 113 = .ok (.iadd, 1) := by decide +kernel
theorem d_Mo_literal_114 : decode prog_13_method_13_code 114 = .ok (.goto 7, 3) := by decide +kernel
theorem d_Mo_literal_117 : decode prog_13_method_13_code 117 = .ok (.iload_n 3, 1) := by decide +kernel
theorem d_Mo_literal_118 : decode prog_13_method_13_code 118 = .ok (.iload 6, 2) := by decide +kernel
theorem d_Mo_literal_120 : decode prog_13_method_13_code 120 = .ok (.iadd, 1) := by decide +kernel
theorem d_Mo_literal_121 : decode prog_13_method_13_code 121 = .ok (.iload_n 1, 1) := by decide +kernel
theorem d_Mo_literal_122 : decode prog_13_method_13_code 122 = .ok (.iload 7, 2) := by decide +kernel
theorem d_Mo_literal_124 : decode prog_13_method_13_code 124 = .ok (.ishr, 1) := by decide +kernel
theorem d_Mo_literal_125 : decode prog_13_method_13_code 125 = .ok (.iconst 1, 1) := by decide +kernel
theorem d_Mo_literal_126 : decode prog_13_method_13_code 126 = .ok (.iand, 1) := by decide +kernel
theorem d_Mo_literal_127 : decode prog_13_method_13_code 127 = .ok (.invokevirtual 116, 3) := by decide +kernel
theorem d_Mo_literal_130 : decode prog_13_method_13_code 130 = .ok (.istore 9, 2) := by decide +kernel
theorem d_Mo_literal_132 : decode prog_13_method_13_code 132 = .ok (.iload 5, 2) := by decide +kernel
theorem d_Mo_literal_134 : decode prog_13_method_13_code 134 = .ok (.ifCond .eq 14, 3) := by decide +kernel
theorem d_Mo_literal_137 : decode prog_13_method_13_code 137 = .ok (.iload 9, 2) := by decide +kernel
theorem d_Mo_literal_139 : decode prog_13_method_13_code 139 = .ok (.iload 8, 2) := by decide +kernel
theorem d_Mo_literal_141 : decode prog_13_method_13_code 141 = .ok (.if_icmp .ne 7, 3) := by decide +kernel
theorem d_Mo_literal_144 : decode prog_13_method_13_code 144 = .ok (.iconst 1, 1) := by decide +kernel
theorem d_Mo_literal_145 : decode prog_13_method_13_code 145 = .ok (.goto 4, 3) := by decide +kernel
theorem d_Mo_literal_148 : decode prog_13_method_13_code 148 = .ok (.iconst 0, 1) := by decide +kernel
theorem d_Mo_literal_149 : decode prog_13_method_13_code 149 = .ok (.istore 5, 2) := by decide +kernel
theorem d_Mo_literal_151 : decode prog_13_method_13_code 151 = .ok (.iconst 2, 1) := by decide +kernel
theorem d_Mo_literal_152 : decode prog_13_method_13_code 152 = .ok (.iload 6, 2) := by decide +kernel
theorem d_Mo_literal_154 : decode prog_13_method_13_code 154 = .ok (.imul, 1) := by decide +kernel
theorem d_Mo_literal_155 : decode prog_13_method_13_code 155 = .ok (.iload 9, 2) := by decide +kernel
theorem d_Mo_literal_157 : decode prog_13_method_13_code 157 = .ok (.iadd, 1) := by decide +kernel
theorem d_Mo_literal_158 : decode prog_13_method_13_code 158 = .ok (.istore 6, 2) := by decide +kernel
theorem d_Mo_literal_160 : decode prog_13_method_13_code 160 = .ok (.iinc 7 (-1), 3) := by decide +kernel
theorem d_Mo_literal_163 : decode prog_13_method_13_code 163 = .ok (.goto (-82), 3) := by decide +kernel
theorem d_Mo_literal_166 : decode prog_13_method_13_code 166 = .ok (.iload 6, 2) := by decide +kernel
theorem d_Mo_literal_168 : decode prog_13_method_13_code 168 = .ok (.sipush 256, 3) := by decide +kernel
theorem d_Mo_literal_171 : decode prog_13_method_13_code 171 = .ok (.isub, 1) := by decide +kernel
theorem d_Mo_literal_172 : decode prog_13_method_13_code 172 = .ok (.ireturn, 1) := by decide +kernel
theorem d_Mo_length_0 : decode prog_13_method_14_code 0 = .ok (.sipush 3144, 3) := by decide +kernel
theorem d_Mo_length_3 : decode prog_13_method_14_code 3 = .ok (.sipush 146, 3) := by decide +kernel
theorem d_Mo_length_6 : decode prog_13_method_14_code 6 = .ok (.iload_n 1, 1) := by decide +kernel
theorem d_Mo_length_7 : decode prog_13_method_14_code 7 = .ok (.imul, 1) := by decide +kernel
theorem d_Mo_length_8 : decode prog_13_method_14_code 8 = .ok (.iadd, 1) := by decide +kernel
theorem d_Mo_length_9 : decode prog_13_method_14_code 9 = .ok (.istore_n 3, 1) := by decide +kernel
theorem d_Mo_length_10 : decode prog_13_method_14_code 10 = .ok (.aload_n 0, 1) := by decide +kernel
theorem d_Mo_length_11 : decode prog_13_method_14_code 11 = .ok (.iload_n 3, 1) := by decide +kernel
theorem d_Mo_length_12 : decode prog_13_method_14_code 12 = .ok (.iload_n 2, 1) := by decide +kernel
theorem d_Mo_length_13 : decode prog_13_method_14_code 13 = .ok (.bipush 8, 2) := by decide +kernel
theorem d_Mo_length_15 : decode prog_13_method_14_code 15 = .ok (.if_icmp .ge 7, 3) := by decide +kernel
theorem d_Mo_length_18 : decode prog_13_method_14_code 18 = .ok (.iconst 0, 1) := by decide +kernel
theorem d_Mo_length_19 : decode prog_13_method_14_code 19 = .ok (.goto 4, 3) := by decide +kernel
theorem d_Mo_length_22 : decode prog_13_method_14_code 22 = .ok (.iconst 1, 1) := by decide +kernel
theorem d_Mo_length_23 : decode prog_13_method_14_code 23 = .ok (.invokevirtual 116, 3) := by decide +kernel
theorem d_Mo_length_26 : decode prog_13_method_14_code 26 = .ok (.ifCond .ne 13, 3) := by decide +kernel
theorem d_Mo_length_29 : decode prog_13_method_14_code 29 = .ok (.aload_n 0, 1) := by decide +kernel
theorem d_Mo_length_30 : decode prog_13_method_14_code 30 = .ok (.iload_n 3, 1) := by decide +kernel
theorem d_Mo_length_31 : decode prog_13_method_14_code 31 = .ok (.iconst 2, 1) := by decide +kernel
theorem d_Mo_length_32 : decode prog_13_method_14_code 32 = .ok (.iadd, 1) := by decide +kernel
theorem d_Mo_length_33 : decode prog_13_method_14_code 33 = .ok (.iconst 3, 1) := by decide +kernel
theorem d_Mo_length_34 : decode prog_13_method_14_code 34 = .ok (.iload_n 2, 1) := by decide +kernel
theorem d_Mo_length_35 : decode prog_13_method_14_code 35 = .ok (.invokevirtual 120, 3) := by decide +kernel
theorem d_Mo_length_38 : decode prog_13_method_14_code 38 = .ok (.ireturn, 1) := by decide +kernel
theorem d_Mo_length_39 : decode prog_13_method_14_code 39 = .ok (.aload_n 0, 1) := by decide +kernel
theorem d_Mo_length_40 : decode prog_13_method_14_code 40 = .ok (.iload_n 3, 1) := by decide +kernel
theorem d_Mo_length_41 : decode prog_13_method_14_code 41 = .ok (.iconst 1, 1) := by decide +kernel
theorem d_Mo_length_42 : decode prog_13_method_14_code 42 = .ok (.iadd, 1) := by decide +kernel
theorem d_Mo_length_43 : decode prog_13_method_14_code 43 = .ok (.iload_n 2, 1) := by decide +kernel
theorem d_Mo_length_44 : decode prog_13_method_14_code 44 = .ok (.bipush 16, 2) := by decide +kernel
theorem d_Mo_length_46 : decode prog_13_method_14_code 46 = .ok (.if_icmp .ge 7, 3) := by decide +kernel
theorem d_Mo_length_49 : decode prog_13_method_14_code 49 = .ok (.iconst 0, 1) := by decide +kernel
theorem d_Mo_length_50 : decode prog_13_method_14_code 50 = .ok (.goto 4, 3) := by decide +kernel
theorem d_Mo_length_53 : decode prog_13_method_14_code 53 = .ok (.iconst 1, 1) := by decide +kernel
theorem d_Mo_length_54 : decode prog_13_method_14_code 54 = .ok (.invokevirtual 116, 3) := by decide +kernel
theorem d_Mo_length_57 : decode prog_13_method_14_code 57 = .ok (.ifCond .ne 20, 3) := by decide +kernel
theorem d_Mo_length_60 : decode prog_13_method_14_code 60 = .ok (.bipush 8, 2) := by decide +kernel
theorem d_Mo_length_62 : decode prog_13_method_14_code 62 = .ok (.aload_n 0, 1) := by decide +kernel
theorem d_Mo_length_63 : decode prog_13_method_14_code 63 = .ok (.iload_n 3, 1) := by decide +kernel
theorem d_Mo_length_64 : decode prog_13_method_14_code 64 = .ok (.bipush 10, 2) := by decide +kernel
theorem d_Mo_length_66 : decode prog_13_method_14_code 66 = .ok (.iadd, 1) := by decide +kernel
theorem d_Mo_length_67 : decode prog_13_method_14_code 67 = .ok (.iconst 3, 1) := by decide +kernel
theorem d_Mo_length_68 : decode prog_13_method_14_code 68 = .ok (.iload_n 2, 1) := by decide +kernel
theorem d_Mo_length_69 : decode prog_13_method_14_code 69 = .ok (.bipush 8, 2) := by decide +kernel
theorem d_Mo_length_71 : decode prog_13_method_14_code 71 = .ok (.isub, 1) := by decide +kernel
theorem d_Mo_length_72 : decode prog_13_method_14_code 72 = .ok (.invokevirtual 120, 3) := by decide +kernel
theorem d_Mo_length_75 : decode prog_13_method_14_code 75 = .ok (.iadd, 1) := by decide +kernel
theorem d_Mo_length_76 : decode prog_13_method_14_code 76 = .ok (.ireturn, 1) := by decide +kernel
theorem d_Mo_length_77 : decode prog_13_method_14_code 77 = .ok (.bipush 16, 2) := by decide +kernel
theorem d_Mo_length_79 : decode prog_13_method_14_code 79 = .ok (.aload_n 0, 1) := by decide +kernel
theorem d_Mo_length_80 : decode prog_13_method_14_code 80 = .ok (.iload_n 3, 1) := by decide +kernel
theorem d_Mo_length_81 : decode prog_13_method_14_code 81 = .ok (.bipush 18, 2) := by decide +kernel
theorem d_Mo_length_83 : decode prog_13_method_14_code 83 = .ok (.iadd, 1) := by decide +kernel
theorem d_Mo_length_84 : decode prog_13_method_14_code 84 = .ok (.bipush 7, 2) := by decide +kernel
theorem d_Mo_length_86 : decode prog_13_method_14_code 86 = .ok (.iload_n 2, 1) := by decide +kernel
theorem d_Mo_length_87 : decode prog_13_method_14_code 87 = .ok (.bipush 16, 2) := by decide +kernel
theorem d_Mo_length_89 : decode prog_13_method_14_code 89 = .ok (.isub, 1) := by decide +kernel
theorem d_Mo_length_90 : decode prog_13_method_14_code 90 = .ok (.invokevirtual 120, 3) := by decide +kernel
theorem d_Mo_length_93 : decode prog_13_method_14_code 93 = .ok (.iadd, 1) := by decide +kernel
theorem d_Mo_length_94 : decode prog_13_method_14_code 94 = .ok (.ireturn, 1) := by decide +kernel
theorem d_Mo_below_0 : decode prog_13_method_15_code 0 = .ok (.iconst 0, 1) := by decide +kernel
theorem d_Mo_below_1 : decode prog_13_method_15_code 1 = .ok (.istore_n 1, 1) := by decide +kernel
theorem d_Mo_below_2 : decode prog_13_method_15_code 2 = .ok (.iload_n 0, 1) := by decide +kernel
theorem d_Mo_below_3 : decode prog_13_method_15_code 3 = .ok (.iload_n 1, 1) := by decide +kernel
theorem d_Mo_below_4 : decode prog_13_method_15_code 4 = .ok (.iconst 1, 1) := by decide +kernel
theorem d_Mo_below_5 : decode prog_13_method_15_code 5 = .ok (.iadd, 1) := by decide +kernel
theorem d_Mo_below_6 : decode prog_13_method_15_code 6 = .ok (.ishr, 1) := by decide +kernel
theorem d_Mo_below_7 : decode prog_13_method_15_code 7 = .ok (.ifCond .le 9, 3) := by decide +kernel
theorem d_Mo_below_10 : decode prog_13_method_15_code 10 = .ok (.iinc 1 1, 3) := by decide +kernel
theorem d_Mo_below_13 : decode prog_13_method_15_code 13 = .ok (.goto (-11), 3) := by decide +kernel
theorem d_Mo_below_16 : decode prog_13_method_15_code 16 = .ok (.iload_n 1, 1) := by decide +kernel
theorem d_Mo_below_17 : decode prog_13_method_15_code 17 = .ok (.ireturn, 1) := by decide +kernel
theorem d_Mo_distance_0 : decode prog_13_method_16_code 0 = .ok (.iload_n 2, 1) := by decide +kernel
theorem d_Mo_distance_1 : decode prog_13_method_16_code 1 = .ok (.iconst 4, 1) := by decide +kernel
theorem d_Mo_distance_2 : decode prog_13_method_16_code 2 = .ok (.if_icmp .ge 7, 3) := by decide +kernel
theorem d_Mo_distance_5 : decode prog_13_method_16_code 5 = .ok (.iconst 0, 1) := by decide +kernel
theorem d_Mo_distance_6 : decode prog_13_method_16_code 6 = .ok (.goto 7, 3) := by decide +kernel
theorem d_Mo_distance_9 : decode prog_13_method_16_code 9 = .ok (.iload_n 2, 1) := by decide +kernel
theorem d_Mo_distance_10 : decode prog_13_method_16_code 10 = .ok (.invokestatic 124, 3) := by decide +kernel
theorem d_Mo_distance_13 : decode prog_13_method_16_code 13 = .ok (.istore_n 3, 1) := by decide +kernel
theorem d_Mo_distance_14 : decode prog_13_method_16_code 14 = .ok (.iload_n 2, 1) := by decide +kernel
theorem d_Mo_distance_15 : decode prog_13_method_16_code 15 = .ok (.ifCond .ge 8, 3) := by decide +kernel
theorem d_Mo_distance_18 : decode prog_13_method_16_code 18 = .ok (.bipush 15, 2) := by decide +kernel
theorem d_Mo_distance_20 : decode prog_13_method_16_code 20 = .ok (.goto 23, 3) := by decide +kernel
theorem d_Mo_distance_23 : decode prog_13_method_16_code 23 = .ok (.iload_n 2, 1) := by decide +kernel
theorem d_Mo_distance_24 : decode prog_13_method_16_code 24 = .ok (.iconst 4, 1) := by decide +kernel
theorem d_Mo_distance_25 : decode prog_13_method_16_code 25 = .ok (.if_icmp .ge 7, 3) := by decide +kernel
theorem d_Mo_distance_28 : decode prog_13_method_16_code 28 = .ok (.iload_n 2, 1) := by decide +kernel
theorem d_Mo_distance_29 : decode prog_13_method_16_code 29 = .ok (.goto 14, 3) := by decide +kernel
theorem d_Mo_distance_32 : decode prog_13_method_16_code 32 = .ok (.iconst 2, 1) := by decide +kernel
theorem d_Mo_distance_33 : decode prog_13_method_16_code 33 = .ok (.iload_n 3, 1) := by decide +kernel
theorem d_Mo_distance_34 : decode prog_13_method_16_code 34 = .ok (.imul, 1) := by decide +kernel
theorem d_Mo_distance_35 : decode prog_13_method_16_code 35 = .ok (.iload_n 2, 1) := by decide +kernel
theorem d_Mo_distance_36 : decode prog_13_method_16_code 36 = .ok (.iload_n 3, 1) := by decide +kernel
theorem d_Mo_distance_37 : decode prog_13_method_16_code 37 = .ok (.iconst 1, 1) := by decide +kernel
theorem d_Mo_distance_38 : decode prog_13_method_16_code 38 = .ok (.isub, 1) := by decide +kernel
theorem d_Mo_distance_39 : decode prog_13_method_16_code 39 = .ok (.ishr, 1) := by decide +kernel
theorem d_Mo_distance_40 : decode prog_13_method_16_code 40 = .ok (.iconst 1, 1) := by decide +kernel
theorem d_Mo_distance_41 : decode prog_13_method_16_code 41 = .ok (.iand, 1) := by decide +kernel
theorem d_Mo_distance_42 : decode prog_13_method_16_code 42 = .ok (.iadd, 1) := by decide +kernel
theorem d_Mo_distance_43 : decode prog_13_method_16_code 43 = .ok (.istore 4, 2) := by decide +kernel
theorem d_Mo_distance_45 : decode prog_13_method_16_code 45 = .ok (.aload_n 0, 1) := by decide +kernel
theorem d_Mo_distance_46 : decode prog_13_method_16_code 46 = .ok (.sipush 3436, 3) := by decide +kernel
theorem d_Mo_distance_49 : decode prog_13_method_16_code 49 = .ok (.bipush 16, 2) := by decide +kernel
theorem d_Mo_distance_51 : decode prog_13_method_16_code 51 = .ok (.iload_n 1, 1) := by decide +kernel
theorem d_Mo_distance_52 : decode prog_13_method_16_code 52 = .ok (.iconst 3, 1) := by decide +kernel
theorem d_Mo_distance_53 : decode prog_13_method_16_code 53 = .ok (.if_icmp .ge 7, 3) := by decide +kernel
theorem d_Mo_distance_56 : decode prog_13_method_16_code 56 = .ok (.iload_n 1, 1) := by decide +kernel
theorem d_Mo_distance_57 : decode prog_13_method_16_code 57 = .ok (.goto 4, 3) := by decide +kernel
theorem d_Mo_distance_60 : decode prog_13_method_16_code 60 = .ok (.iconst 3, 1) := by decide +kernel
theorem d_Mo_distance_61 : decode prog_13_method_16_code 61 = .ok (.imul, 1) := by decide +kernel
theorem d_Mo_distance_62 : decode prog_13_method_16_code 62 = .ok (.iadd, 1) := by decide +kernel
theorem d_Mo_distance_63 : decode prog_13_method_16_code 63 = .ok (.iconst 4, 1) := by decide +kernel
theorem d_Mo_distance_64 : decode prog_13_method_16_code 64 = .ok (.iload 4, 2) := by decide +kernel
theorem d_Mo_distance_66 : decode prog_13_method_16_code 66 = .ok (.invokevirtual 120, 3) := by decide +kernel
theorem d_Mo_distance_69 : decode prog_13_method_16_code 69 = .ok (.istore 5, 2) := by decide +kernel
theorem d_Mo_distance_71 : decode prog_13_method_16_code 71 = .ok (.iload 5, 2) := by decide +kernel
theorem d_Mo_distance_73 : decode prog_13_method_16_code 73 = .ok (.bipush 15, 2) := by decide +kernel
theorem d_Mo_distance_75 : decode prog_13_method_16_code 75 = .ok (.if_icmp .ne 5, 3) := by decide +kernel
theorem d_Mo_distance_78 : decode prog_13_method_16_code 78 = .ok (.iconst (-1), 1) := by decide +kernel
theorem d_Mo_distance_79 : decode prog_13_method_16_code 79 = .ok (.ireturn, 1) := by decide +kernel
theorem d_Mo_distance_80 : decode prog_13_method_16_code 80 = .ok (.iload 5, 2) := by decide +kernel
theorem d_Mo_distance_82 : decode prog_13_method_16_code 82 = .ok (.bipush 14, 2) := by decide +kernel
theorem d_Mo_distance_84 : decode prog_13_method_16_code 84 = .ok (.if_icmp .ne 15, 3) := by decide +kernel
theorem d_Mo_distance_87 : decode prog_13_method_16_code 87 = .ok (.aload_n 0, 1) := by decide +kernel
theorem d_Mo_distance_88 : decode prog_13_method_16_code 88 = .ok (.getfield 70, 3) := by decide +kernel
theorem d_Mo_distance_91 : decode prog_13_method_16_code 91 = .ok (.ifCond .ne 8, 3) := by decide +kernel
theorem d_Mo_distance_94 : decode prog_13_method_16_code 94 = .ok (.aload_n 0, 1) := by decide +kernel
theorem d_Mo_distance_95 : decode prog_13_method_16_code 95 = .ok (.iconst 3, 1) := by decide +kernel
theorem d_Mo_distance_96 : decode prog_13_method_16_code 96 = .ok (.putfield 70, 3) := by decide +kernel
theorem d_Mo_distance_99 : decode prog_13_method_16_code 99 = .ok (.iload 5, 2) := by decide +kernel
theorem d_Mo_distance_101 : decode prog_13_method_16_code 101 = .ok (.iconst 4, 1) := by decide +kernel
theorem d_Mo_distance_102 : decode prog_13_method_16_code 102 = .ok (.if_icmp .ge 6, 3) := by decide +kernel
theorem d_Mo_distance_105 : decode prog_13_method_16_code 105 = .ok (.iload 5, 2) := by decide +kernel
theorem d_Mo_distance_107 : decode prog_13_method_16_code 107 = .ok (.ireturn, 1) := by decide +kernel
theorem d_Mo_distance_108 : decode prog_13_method_16_code 108 = .ok (.iload 5, 2) := by decide +kernel
theorem d_Mo_distance_110 : decode prog_13_method_16_code 110 = .ok (.iconst 2, 1) := by decide +kernel
theorem d_Mo_distance_111 : decode prog_13_method_16_code 111 = .ok (.idiv, 1) := by decide +kernel
theorem d_Mo_distance_112 : decode prog_13_method_16_code 112 = .ok (.iconst 1, 1) := by decide +kernel
theorem d_Mo_distance_113 : decode prog_13_method_16_code 113 = .ok (.isub, 1) := by decide +kernel
theorem d_Mo_distance_114 : decode prog_13_method_16_code 114 = .ok (.istore 6, 2) := by decide +kernel
theorem d_Mo_distance_116 : decode prog_13_method_16_code 116 = .ok (.iconst 2, 1) := by decide +kernel
theorem d_Mo_distance_117 : decode prog_13_method_16_code 117 = .ok (.iload 5, 2) := by decide +kernel
theorem d_Mo_distance_119 : decode prog_13_method_16_code 119 = .ok (.iconst 2, 1) := by decide +kernel
theorem d_Mo_distance_120 : decode prog_13_method_16_code 120 = .ok (.irem, 1) := by decide +kernel
theorem d_Mo_distance_121 : decode prog_13_method_16_code 121 = .ok (.iadd, 1) := by decide +kernel
theorem d_Mo_distance_122 : decode prog_13_method_16_code 122 = .ok (.iload 6, 2) := by decide +kernel
theorem d_Mo_distance_124 : decode prog_13_method_16_code 124 = .ok (.ishl, 1) := by decide +kernel
theorem d_Mo_distance_125 : decode prog_13_method_16_code 125 = .ok (.istore 7, 2) := by decide +kernel
theorem d_Mo_distance_127 : decode prog_13_method_16_code 127 = .ok (.iload 7, 2) := by decide +kernel
theorem d_Mo_distance_129 : decode prog_13_method_16_code 129 = .ok (.aload_n 0, 1) := by decide +kernel
theorem d_Mo_distance_130 : decode prog_13_method_16_code 130 = .ok (.sipush 3500, 3) := by decide +kernel
theorem d_Mo_distance_133 : decode prog_13_method_16_code 133 = .ok (.bipush 32, 2) := by decide +kernel
theorem d_Mo_distance_135 : decode prog_13_method_16_code 135 = .ok (.iload 5, 2) := by decide +kernel
theorem d_Mo_distance_137 : decode prog_13_method_16_code 137 = .ok (.imul, 1) := by decide +kernel
theorem d_Mo_distance_138 : decode prog_13_method_16_code 138 = .ok (.iadd, 1) := by decide +kernel
theorem d_Mo_distance_139 : decode prog_13_method_16_code 139 = .ok (.iload 6, 2) := by decide +kernel
theorem d_Mo_distance_141 : decode prog_13_method_16_code 141 = .ok (.iload_n 2, 1) := by decide +kernel
theorem d_Mo_distance_142 : decode prog_13_method_16_code 142 = .ok (.iconst 1, 1) := by decide +kernel
theorem d_Mo_distance_143 : decode prog_13_method_16_code 143 = .ok (.iload 6, 2) := by decide +kernel
theorem d_Mo_distance_145 : decode prog_13_method_16_code 145 = .ok (.ishl, 1) := by decide +kernel
theorem d_Mo_distance_146 : decode prog_13_method_16_code 146 = .ok (.iconst 1, 1) := by decide +kernel
theorem d_Mo_distance_147 : decode prog_13_method_16_code 147 = .ok (.isub, 1) := by decide +kernel
theorem d_Mo_distance_148 : decode prog_13_method_16_code 148 = .ok (.iand, 1) := by decide +kernel
theorem d_Mo_distance_149 : decode prog_13_method_16_code 149 = .ok (.invokevirtual 128, 3) := by decide +kernel
theorem d_Mo_distance_152 : decode prog_13_method_16_code 152 = .ok (.iadd, 1) := by decide +kernel
theorem d_Mo_distance_153 : decode prog_13_method_16_code 153 = .ok (.ireturn, 1) := by decide +kernel
theorem d_Mo_echo_0 : decode prog_13_method_17_code 0 = .ok (.aload_n 0, 1) := by decide +kernel
theorem d_Mo_echo_1 : decode prog_13_method_17_code 1 = .ok (.bipush 24, 2) := by decide +kernel
theorem d_Mo_echo_3 : decode prog_13_method_17_code 3 = .ok (.aload_n 0, 1) := by decide +kernel
theorem d_Mo_echo_4 : decode prog_13_method_17_code 4 = .ok (.getfield 82, 3) := by decide +kernel
theorem d_Mo_echo_7 : decode prog_13_method_17_code 7 = .ok (.iadd, 1) := by decide +kernel
theorem d_Mo_echo_8 : decode prog_13_method_17_code 8 = .ok (.iload_n 1, 1) := by decide +kernel
theorem d_Mo_echo_9 : decode prog_13_method_17_code 9 = .ok (.ifCond .le 7, 3) := by decide +kernel
theorem d_Mo_echo_12 : decode prog_13_method_17_code 12 = .ok (.iconst 1, 1) := by decide +kernel
theorem d_Mo_echo_13 : decode prog_13_method_17_code 13 = .ok (.goto 4, 3) := by decide +kernel
theorem d_Mo_echo_16 : decode prog_13_method_17_code 16 = .ok (.iconst 0, 1) := by decide +kernel
theorem d_Mo_echo_17 : decode prog_13_method_17_code 17 = .ok (.invokevirtual 116, 3) := by decide +kernel
theorem d_Mo_echo_20 : decode prog_13_method_17_code 20 = .ok (.ifCond .ne 32, 3) := by decide +kernel
theorem d_Mo_echo_23 : decode prog_13_method_17_code 23 = .ok (.aload_n 0, 1) := by decide +kernel
theorem d_Mo_echo_24 : decode prog_13_method_17_code 24 = .ok (.bipush 36, 2) := by decide +kernel
theorem d_Mo_echo_26 : decode prog_13_method_17_code 26 = .ok (.aload_n 0, 1) := by decide +kernel
theorem d_Mo_echo_27 : decode prog_13_method_17_code 27 = .ok (.getfield 82, 3) := by decide +kernel
theorem d_Mo_echo_30 : decode prog_13_method_17_code 30 = .ok (.iadd, 1) := by decide +kernel
theorem d_Mo_echo_31 : decode prog_13_method_17_code 31 = .ok (.iload_n 1, 1) := by decide +kernel
theorem d_Mo_echo_32 : decode prog_13_method_17_code 32 = .ok (.ifCond .ge 7, 3) := by decide +kernel
theorem d_Mo_echo_35 : decode prog_13_method_17_code 35 = .ok (.iconst 0, 1) := by decide +kernel
theorem d_Mo_echo_36 : decode prog_13_method_17_code 36 = .ok (.goto 4, 3) := by decide +kernel
theorem d_Mo_echo_39 : decode prog_13_method_17_code 39 = .ok (.iconst 1, 1) := by decide +kernel
theorem d_Mo_echo_40 : decode prog_13_method_17_code 40 = .ok (.invokevirtual 116, 3) := by decide +kernel
theorem d_Mo_echo_43 : decode prog_13_method_17_code 43 = .ok (.ifCond .ne 7, 3) := by decide +kernel
theorem d_Mo_echo_46 : decode prog_13_method_17_code 46 = .ok (.iconst (-1), 1) := by decide +kernel
theorem d_Mo_echo_47 : decode prog_13_method_17_code 47 = .ok (.goto 4, 3) := by decide +kernel
theorem d_Mo_echo_50 : decode prog_13_method_17_code 50 = .ok (.iconst 0, 1) := by decide +kernel
theorem d_Mo_echo_51 : decode prog_13_method_17_code 51 = .ok (.ireturn, 1) := by decide +kernel
theorem d_Mo_echo_52 : decode prog_13_method_17_code 52 = .ok (.aload_n 0, 1) := by decide +kernel
theorem d_Mo_echo_53 : decode prog_13_method_17_code 53 = .ok (.bipush 48, 2) := by decide +kernel
theorem d_Mo_echo_55 : decode prog_13_method_17_code 55 = .ok (.aload_n 0, 1) := by decide +kernel
theorem d_Mo_echo_56 : decode prog_13_method_17_code 56 = .ok (.getfield 82, 3) := by decide +kernel
theorem d_Mo_echo_59 : decode prog_13_method_17_code 59 = .ok (.iadd, 1) := by decide +kernel
theorem d_Mo_echo_60 : decode prog_13_method_17_code 60 = .ok (.iload_n 1, 1) := by decide +kernel
theorem d_Mo_echo_61 : decode prog_13_method_17_code 61 = .ok (.iconst 1, 1) := by decide +kernel
theorem d_Mo_echo_62 : decode prog_13_method_17_code 62 = .ok (.if_icmp .le 7, 3) := by decide +kernel
theorem d_Mo_echo_65 : decode prog_13_method_17_code 65 = .ok (.iconst 1, 1) := by decide +kernel
theorem d_Mo_echo_66 : decode prog_13_method_17_code 66 = .ok (.goto 4, 3) := by decide +kernel
theorem d_Mo_echo_69 : decode prog_13_method_17_code 69 = .ok (.iconst 0, 1) := by decide +kernel
theorem d_Mo_echo_70 : decode prog_13_method_17_code 70 = .ok (.invokevirtual 116, 3) := by decide +kernel
theorem d_Mo_echo_73 : decode prog_13_method_17_code 73 = .ok (.ifCond .ne 5, 3) := by decide +kernel
theorem d_Mo_echo_76 : decode prog_13_method_17_code 76 = .ok (.iconst 1, 1) := by decide +kernel
theorem d_Mo_echo_77 : decode prog_13_method_17_code 77 = .ok (.ireturn, 1) := by decide +kernel
theorem d_Mo_echo_78 : decode prog_13_method_17_code 78 = .ok (.iconst 2, 1) := by decide +kernel
theorem d_Mo_echo_79 : decode prog_13_method_17_code 79 = .ok (.aload_n 0, 1) := by decide +kernel
theorem d_Mo_echo_80 : decode prog_13_method_17_code 80 = .ok (.bipush 60, 2) := by decide +kernel
theorem d_Mo_echo_82 : decode prog_13_method_17_code 82 = .ok (.aload_n 0, 1) := by decide +kernel
theorem d_Mo_echo_83 : decode prog_13_method_17_code 83 = .ok (.getfield 82, 3) := by decide +kernel
theorem d_Mo_echo_86 : decode prog_13_method_17_code 86 = .ok (.iadd, 1) := by decide +kernel
theorem d_Mo_echo_87 : decode prog_13_method_17_code 87 = .ok (.iload_n 1, 1) := by decide +kernel
theorem d_Mo_echo_88 : decode prog_13_method_17_code 88 = .ok (.iconst 2, 1) := by decide +kernel
theorem d_Mo_echo_89 : decode prog_13_method_17_code 89 = .ok (.if_icmp .le 7, 3) := by decide +kernel
theorem d_Mo_echo_92 : decode prog_13_method_17_code 92 = .ok (.iconst 1, 1) := by decide +kernel
theorem d_Mo_echo_93 : decode prog_13_method_17_code 93 = .ok (.goto 4, 3) := by decide +kernel
theorem d_Mo_echo_96 : decode prog_13_method_17_code 96 = .ok (.iconst 0, 1) := by decide +kernel
theorem d_Mo_echo_97 : decode prog_13_method_17_code 97 = .ok (.invokevirtual 116, 3) := by decide +kernel
theorem d_Mo_echo_100 : decode prog_13_method_17_code 100 = .ok (.iadd, 1) := by decide +kernel
theorem d_Mo_echo_101 : decode prog_13_method_17_code 101 = .ok (.ireturn, 1) := by decide +kernel
theorem d_Mo_tell_0 : decode prog_13_method_18_code 0 = .ok (.aload_n 0, 1) := by decide +kernel
theorem d_Mo_tell_1 : decode prog_13_method_18_code 1 = .ok (.getfield 37, 3) := by decide +kernel
theorem d_Mo_tell_4 : decode prog_13_method_18_code 4 = .ok (.aload_n 0, 1) := by decide +kernel
theorem d_Mo_tell_5 : decode prog_13_method_18_code 5 = .ok (.getfield 79, 3) := by decide +kernel
theorem d_Mo_tell_8 : decode prog_13_method_18_code 8 = .ok (.iload_n 1, 1) := by decide +kernel
theorem d_Mo_tell_9 : decode prog_13_method_18_code 9 = .ok (.iastore, 1) := by decide +kernel
theorem d_Mo_tell_10 : decode prog_13_method_18_code 10 = .ok (.aload_n 0, 1) := by decide +kernel
theorem d_Mo_tell_11 : decode prog_13_method_18_code 11 = .ok (.dup, 1) := by decide +kernel
theorem d_Mo_tell_12 : decode prog_13_method_18_code 12 = .ok (.getfield 79, 3) := by decide +kernel
theorem d_Mo_tell_15 : decode prog_13_method_18_code 15 = .ok (.iconst 1, 1) := by decide +kernel
theorem d_Mo_tell_16 : decode prog_13_method_18_code 16 = .ok (.iadd, 1) := by decide +kernel
theorem d_Mo_tell_17 : decode prog_13_method_18_code 17 = .ok (.putfield 79, 3) := by decide +kernel
theorem d_Mo_tell_20 : decode prog_13_method_18_code 20 = .ok (.return_, 1) := by decide +kernel
theorem d_Mo_note_0 : decode prog_13_method_19_code 0 = .ok (.aload_n 0, 1) := by decide +kernel
theorem d_Mo_note_1 : decode prog_13_method_19_code 1 = .ok (.getfield 43, 3) := by decide +kernel
theorem d_Mo_note_4 : decode prog_13_method_19_code 4 = .ok (.aload_n 0, 1) := by decide +kernel
theorem d_Mo_note_5 : decode prog_13_method_19_code 5 = .ok (.getfield 85, 3) := by decide +kernel
theorem d_Mo_note_8 : decode prog_13_method_19_code 8 = .ok (.iload_n 1, 1) := by decide +kernel
theorem d_Mo_note_9 : decode prog_13_method_19_code 9 = .ok (.iastore, 1) := by decide +kernel
theorem d_Mo_note_10 : decode prog_13_method_19_code 10 = .ok (.aload_n 0, 1) := by decide +kernel
theorem d_Mo_note_11 : decode prog_13_method_19_code 11 = .ok (.getfield 46, 3) := by decide +kernel
theorem d_Mo_note_14 : decode prog_13_method_19_code 14 = .ok (.aload_n 0, 1) := by decide +kernel
theorem d_Mo_note_15 : decode prog_13_method_19_code 15 = .ok (.getfield 85, 3) := by decide +kernel
theorem d_Mo_note_18 : decode prog_13_method_19_code 18 = .ok (.iload_n 2, 1) := by decide +kernel
theorem d_Mo_note_19 : decode prog_13_method_19_code 19 = .ok (.iastore, 1) := by decide +kernel
theorem d_Mo_note_20 : decode prog_13_method_19_code 20 = .ok (.aload_n 0, 1) := by decide +kernel
theorem d_Mo_note_21 : decode prog_13_method_19_code 21 = .ok (.getfield 49, 3) := by decide +kernel
theorem d_Mo_note_24 : decode prog_13_method_19_code 24 = .ok (.aload_n 0, 1) := by decide +kernel
theorem d_Mo_note_25 : decode prog_13_method_19_code 25 = .ok (.getfield 85, 3) := by decide +kernel
theorem d_Mo_note_28 : decode prog_13_method_19_code 28 = .ok (.iload_n 3, 1) := by decide +kernel
theorem d_Mo_note_29 : decode prog_13_method_19_code 29 = .ok (.iastore, 1) := by decide +kernel
theorem d_Mo_note_30 : decode prog_13_method_19_code 30 = .ok (.aload_n 0, 1) := by decide +kernel
theorem d_Mo_note_31 : decode prog_13_method_19_code 31 = .ok (.dup, 1) := by decide +kernel
theorem d_Mo_note_32 : decode prog_13_method_19_code 32 = .ok (.getfield 85, 3) := by decide +kernel
theorem d_Mo_note_35 : decode prog_13_method_19_code 35 = .ok (.iconst 1, 1) := by decide +kernel
theorem d_Mo_note_36 : decode prog_13_method_19_code 36 = .ok (.iadd, 1) := by decide +kernel
theorem d_Mo_note_37 : decode prog_13_method_19_code 37 = .ok (.putfield 85, 3) := by decide +kernel
theorem d_Mo_note_40 : decode prog_13_method_19_code 40 = .ok (.return_, 1) := by decide +kernel
theorem d_Mo_tellLiteral_0 : decode prog_13_method_20_code 0 = .ok (.aload_n 0, 1) := by decide +kernel
theorem d_Mo_tellLiteral_1 : decode prog_13_method_20_code 1 = .ok (.getfield 70, 3) := by decide +kernel
theorem d_Mo_tellLiteral_4 : decode prog_13_method_20_code 4 = .ok (.ifCond .ne 17, 3) := by decide +kernel
theorem d_Mo_tellLiteral_7 : decode prog_13_method_20_code 7 = .ok (.aload_n 0, 1) := by decide +kernel
theorem d_Mo_tellLiteral_8 : decode prog_13_method_20_code 8 = .ok (.getfield 79, 3) := by decide +kernel
theorem d_Mo_tellLiteral_11 : decode prog_13_method_20_code 11 = .ok (.bipush 120, 2) := by decide +kernel
theorem d_Mo_tellLiteral_13 : decode prog_13_method_20_code 13 = .ok (.if_icmp .ne 8, 3) := by decide +kernel
theorem d_Mo_tellLiteral_16 : decode prog_13_method_20_code 16 = .ok (.aload_n 0, 1) := by decide +kernel
theorem d_Mo_tellLiteral_17 : decode prog_13_method_20_code 17 = .ok (.iconst 4, 1) := by decide +kernel
theorem d_Mo_tellLiteral_18 : decode prog_13_method_20_code 18 = .ok (.putfield 70, 3) := by decide +kernel
theorem d_Mo_tellLiteral_21 : decode prog_13_method_20_code 21 = .ok (.aload_n 0, 1) := by decide +kernel
theorem d_Mo_tellLiteral_22 : decode prog_13_method_20_code 22 = .ok (.getfield 70, 3) := by decide +kernel
theorem d_Mo_tellLiteral_25 : decode prog_13_method_20_code 25 = .ok (.ifCond .le 4, 3) := by decide +kernel
theorem d_Mo_tellLiteral_28 : decode prog_13_method_20_code 28 = .ok (.return_, 1) := by decide +kernel
theorem d_Mo_tellLiteral_29 : decode prog_13_method_20_code 29 = .ok (.aload_n 0, 1) := by decide +kernel
theorem d_Mo_tellLiteral_30 : decode prog_13_method_20_code 30 = .ok (.iconst 0, 1) := by decide +kernel
theorem d_Mo_tellLiteral_31 : decode prog_13_method_20_code 31 = .ok (.iconst 1, 1) := by decide +kernel
theorem d_Mo_tellLiteral_32 : decode prog_13_method_20_code 32 = .ok (.iload_n 1, 1) := by decide +kernel
theorem d_Mo_tellLiteral_33 : decode prog_13_method_20_code 33 = .ok (.invokevirtual 131, 3) := by decide +kernel
theorem d_Mo_tellLiteral_36 : decode prog_13_method_20_code 36 = .ok (.aload_n 0, 1) := by decide +kernel
theorem d_Mo_tellLiteral_37 : decode prog_13_method_20_code 37 = .ok (.iload_n 1, 1) := by decide +kernel
theorem d_Mo_tellLiteral_38 : decode prog_13_method_20_code 38 = .ok (.invokevirtual 135, 3) := by decide +kernel
theorem d_Mo_tellLiteral_41 : decode prog_13_method_20_code 41 = .ok (.aload_n 0, 1) := by decide +kernel
theorem d_Mo_tellLiteral_42 : decode prog_13_method_20_code 42 = .ok (.aload_n 0, 1) := by decide +kernel
theorem d_Mo_tellLiteral_43 : decode prog_13_method_20_code 43 = .ok (.getfield 82, 3) := by decide +kernel
theorem d_Mo_tellLiteral_46 : decode prog_13_method_20_code 46 = .ok (.iconst 4, 1) := by decide +kernel
theorem d_Mo_tellLiteral_47 : decode prog_13_method_20_code 47 = .ok (.if_icmp .ge 7, 3) := by decide +kernel
theorem d_Mo_tellLiteral_50 : decode prog_13_method_20_code 50 = .ok (.iconst 0, 1) := by decide +kernel
theorem d_Mo_tellLiteral_51 : decode prog_13_method_20_code 51 = .ok (.goto 28, 3) := by decide +kernel
theorem d_Mo_tellLiteral_54 : decode prog_13_method_20_code 54 = .ok (.aload_n 0, 1) := by decide +kernel
theorem d_Mo_tellLiteral_55 : decode prog_13_method_20_code 55 = .ok (.getfield 82, 3) := by decide +kernel
theorem d_Mo_tellLiteral_58 : decode prog_13_method_20_code 58 = .ok (.bipush 10, 2) := by decide +kernel
theorem d_Mo_tellLiteral_60 : decode prog_13_method_20_code 60 = .ok (.if_icmp .ge 12, 3) := by decide +kernel
theorem d_Mo_tellLiteral_63 : decode prog_13_method_20_code 63 = .ok (.aload_n 0, 1) := by decide +kernel
theorem d_Mo_tellLiteral_64 : decode prog_13_method_20_code 64 = .ok (.getfield 82, 3) := by decide +kernel
theorem d_Mo_tellLiteral_67 : decode prog_13_method_20_code 67 = .ok (.iconst 3, 1) := by decide +kernel
theorem d_Mo_tellLiteral_68 : decode prog_13_method_20_code 68 = .ok (.isub, 1) := by decide +kernel
theorem d_Mo_tellLiteral_69 : decode prog_13_method_20_code 69 = .ok (.goto 10, 3) := by decide +kernel
theorem d_Mo_tellLiteral_72 : decode prog_13_method_20_code 72 = .ok (.aload_n 0, 1) := by decide +kernel
theorem d_Mo_tellLiteral_73 : decode prog_13_method_20_code 73 = .ok (.getfield 82, 3) := by decide +kernel
theorem d_Mo_tellLiteral_76 : decode prog_13_method_20_code 76 = .ok (.bipush 6, 2) := by decide +kernel
theorem d_Mo_tellLiteral_78 : decode prog_13_method_20_code 78 = .ok (.isub, 1) := by decide +kernel
theorem d_Mo_tellLiteral_79 : decode prog_13_method_20_code 79 = .ok (.putfield 82, 3) := by decide +kernel
theorem d_Mo_tellLiteral_82 : decode prog_13_method_20_code 82 = .ok (.return_, 1) := by decide +kernel
theorem d_Mo_tellFar_0 : decode prog_13_method_21_code 0 = .ok (.aload_n 0, 1) := by decide +kernel
theorem d_Mo_tellFar_1 : decode prog_13_method_21_code 1 = .ok (.getfield 70, 3) := by decide +kernel
theorem d_Mo_tellFar_4 : decode prog_13_method_21_code 4 = .ok (.ifCond .ne 16, 3) := by decide +kernel
theorem d_Mo_tellFar_7 : decode prog_13_method_21_code 7 = .ok (.iload_n 3, 1) := by decide +kernel
theorem d_Mo_tellFar_8 : decode prog_13_method_21_code 8 = .ok (.aload_n 0, 1) := by decide +kernel
theorem d_Mo_tellFar_9 : decode prog_13_method_21_code 9 = .ok (.getfield 79, 3) := by decide +kernel
theorem d_Mo_tellFar_12 : decode prog_13_method_21_code 12 = .ok (.if_icmp .le 8, 3) := by decide +kernel
theorem d_Mo_tellFar_15 : decode prog_13_method_21_code 15 = .ok (.aload_n 0, 1) := by decide +kernel
theorem d_Mo_tellFar_16 : decode prog_13_method_21_code 16 = .ok (.iconst 3, 1) := by decide +kernel
theorem d_Mo_tellFar_17 : decode prog_13_method_21_code 17 = .ok (.putfield 70, 3) := by decide +kernel
theorem d_Mo_tellFar_20 : decode prog_13_method_21_code 20 = .ok (.aload_n 0, 1) := by decide +kernel
theorem d_Mo_tellFar_21 : decode prog_13_method_21_code 21 = .ok (.getfield 70, 3) := by decide +kernel
theorem d_Mo_tellFar_24 : decode prog_13_method_21_code 24 = .ok (.ifCond .ne 19, 3) := by decide +kernel
theorem d_Mo_tellFar_27 : decode prog_13_method_21_code 27 = .ok (.aload_n 0, 1) := by decide +kernel
theorem d_Mo_tellFar_28 : decode prog_13_method_21_code 28 = .ok (.getfield 79, 3) := by decide +kernel
theorem d_Mo_tellFar_31 : decode prog_13_method_21_code 31 = .ok (.iload_n 2, 1) := by decide +kernel
theorem d_Mo_tellFar_32 : decode prog_13_method_21_code 32 = .ok (.iadd, 1) := by decide +kernel
theorem d_Mo_tellFar_33 : decode prog_13_method_21_code 33 = .ok (.bipush 120, 2) := by decide +kernel
theorem d_Mo_tellFar_35 : decode prog_13_method_21_code 35 = .ok (.if_icmp .le 8, 3) := by decide +kernel
theorem d_Mo_tellFar_38 : decode prog_13_method_21_code 38 = .ok (.aload_n 0, 1) := by decide +kernel
theorem d_Mo_tellFar_39 : decode prog_13_method_21_code 39 = .ok (.iconst 4, 1) := by decide +kernel
theorem d_Mo_tellFar_40 : decode prog_13_method_21_code 40 = .ok (.putfield 70, 3) := by decide +kernel
theorem d_Mo_tellFar_43 : decode prog_13_method_21_code 43 = .ok (.aload_n 0, 1) := by decide +kernel
theorem d_Mo_tellFar_44 : decode prog_13_method_21_code 44 = .ok (.getfield 70, 3) := by decide +kernel
theorem d_Mo_tellFar_47 : decode prog_13_method_21_code 47 = .ok (.ifCond .le 4, 3) := by decide +kernel
theorem d_Mo_tellFar_50 : decode prog_13_method_21_code 50 = .ok (.return_, 1) := by decide +kernel
theorem d_Mo_tellFar_51 : decode prog_13_method_21_code 51 = .ok (.aload_n 0, 1) := by decide +kernel
theorem d_Mo_tellFar_52 : decode prog_13_method_21_code 52 = .ok (.iload_n 1, 1) := by decide +kernel
theorem d_Mo_tellFar_53 : decode prog_13_method_21_code 53 = .ok (.iload_n 2, 1) := by decide +kernel
theorem d_Mo_tellFar_54 : decode prog_13_method_21_code 54 = .ok (.iload_n 3, 1) := by decide +kernel
theorem d_Mo_tellFar_55 : decode prog_13_method_21_code 55 = .ok (.invokevirtual 131, 3) := by decide +kernel
theorem d_Mo_tellFar_58 : decode prog_13_method_21_code 58 = .ok (.iconst 0, 1) := by decide +kernel
theorem d_Mo_tellFar_59 : decode prog_13_method_21_code 59 = .ok (.istore 5, 2) := by decide +kernel
theorem d_Mo_tellFar_61 : decode prog_13_method_21_code 61 = .ok (.iload 5, 2) := by decide +kernel
theorem d_Mo_tellFar_63 : decode prog_13_method_21_code 63 = .ok (.iload_n 2, 1) := by decide +kernel
theorem d_Mo_tellFar_64 : decode prog_13_method_21_code 64 = .ok (.if_icmp .ge 24, 3) := by decide +kernel
theorem d_Mo_tellFar_67 : decode prog_13_method_21_code 67 = .ok (.aload_n 0, 1) := by decide +kernel
theorem d_Mo_tellFar_68 : decode prog_13_method_21_code 68 = .ok (.aload_n 0, 1) := by decide +kernel
theorem d_Mo_tellFar_69 : decode prog_13_method_21_code 69 = .ok (.getfield 37, 3) := by decide +kernel
theorem d_Mo_tellFar_72 : decode prog_13_method_21_code 72 = .ok (.aload_n 0, 1) := by decide +kernel
theorem d_Mo_tellFar_73 : decode prog_13_method_21_code 73 = .ok (.getfield 79, 3) := by decide +kernel
theorem d_Mo_tellFar_76 : decode prog_13_method_21_code 76 = .ok (.iload_n 3, 1) := by decide +kernel
theorem d_Mo_tellFar_77 : decode prog_13_method_21_code 77 = .ok (.isub, 1) := by decide +kernel
theorem d_Mo_tellFar_78 : decode prog_13_method_21_code 78 = .ok (.iaload, 1) := by decide +kernel
theorem d_Mo_tellFar_79 : decode prog_13_method_21_code 79 = .ok (.invokevirtual 135, 3) := by decide +kernel
theorem d_Mo_tellFar_82 : decode prog_13_method_21_code 82 = .ok (.iinc 5 1, 3) := by decide +kernel
theorem d_Mo_tellFar_85 : decode prog_13_method_21_code 85 = .ok (.goto (-24), 3) := by decide +kernel
theorem d_Mo_tellFar_88 : decode prog_13_method_21_code 88 = .ok (.iload 4, 2) := by decide +kernel
theorem d_Mo_tellFar_90 : decode prog_13_method_21_code 90 = .ok (.istore 5, 2) := by decide +kernel
theorem d_Mo_tellFar_92 : decode prog_13_method_21_code 92 = .ok (.iload 5, 2) := by decide +kernel
theorem d_Mo_tellFar_94 : decode prog_13_method_21_code 94 = .ok (.ifCond .le 25, 3) := by decide +kernel
theorem d_Mo_tellFar_97 : decode prog_13_method_21_code 97 = .ok (.aload_n 0, 1) := by decide +kernel
theorem d_Mo_tellFar_98 : decode prog_13_method_21_code 98 = .ok (.getfield 40, 3) := by decide +kernel
theorem d_Mo_tellFar_101 : decode prog_13_method_21_code 101 = .ok (.iload 5, 2) := by decide +kernel
theorem d_Mo_tellFar_103 : decode prog_13_method_21_code 103 = .ok (.aload_n 0, 1) := by decide +kernel
theorem d_Mo_tellFar_104 : decode prog_13_method_21_code 104 = .ok (.getfield 40, 3) := by decide +kernel
theorem d_Mo_tellFar_107 : decode prog_13_method_21_code 107 = .ok (.iload 5, 2) := by decide +kernel
theorem d_Mo_tellFar_109 : decode prog_13_method_21_code 109 = .ok (.iconst 1, 1) := by decide +kernel
theorem d_Mo_tellFar_110 : decode prog_13_method_21_code 110 = .ok (.isub, 1) := by decide +kernel
theorem d_Mo_tellFar_111 : decode prog_13_method_21_code 111 = .ok (.iaload, 1) := by decide +kernel
theorem d_Mo_tellFar_112 : decode prog_13_method_21_code 112 = .ok (.iastore, 1) := by decide +kernel
theorem d_Mo_tellFar_113 : decode prog_13_method_21_code 113 = .ok (.iinc 5 (-1), 3) := by decide +kernel
theorem d_Mo_tellFar_116 : decode prog_13_method_21_code 116 = .ok (.goto (-24), 3) := by decide +kernel
theorem d_Mo_tellFar_119 : decode prog_13_method_21_code 119 = .ok (.aload_n 0, 1) := by decide +kernel
theorem d_Mo_tellFar_120 : decode prog_13_method_21_code 120 = .ok (.getfield 40, 3) := by decide +kernel
theorem d_Mo_tellFar_123 : decode prog_13_method_21_code 123 = .ok (.iconst 0, 1) := by decide +kernel
theorem d_Mo_tellFar_124 : decode prog_13_method_21_code 124 = .ok (.iload_n 3, 1) := by decide +kernel
theorem d_Mo_tellFar_125 : decode prog_13_method_21_code 125 = .ok (.iastore, 1) := by decide +kernel
theorem d_Mo_tellFar_126 : decode prog_13_method_21_code 126 = .ok (.iload_n 1, 1) := by decide +kernel
theorem d_Mo_tellFar_127 : decode prog_13_method_21_code 127 = .ok (.iconst 1, 1) := by decide +kernel
theorem d_Mo_tellFar_128 : decode prog_13_method_21_code 128 = .ok (.if_icmp .ne 8, 3) := by decide +kernel
theorem d_Mo_tellFar_131 : decode prog_13_method_21_code 131 = .ok (.bipush 7, 2) := by decide +kernel
theorem d_Mo_tellFar_133 : decode prog_13_method_21_code 133 = .ok (.goto 15, 3) := by decide +kernel
theorem d_Mo_tellFar_136 : decode prog_13_method_21_code 136 = .ok (.iload_n 1, 1) := by decide +kernel
theorem d_Mo_tellFar_137 : decode prog_13_method_21_code 137 = .ok (.iconst 2, 1) := by decide +kernel
theorem d_Mo_tellFar_138 : decode prog_13_method_21_code 138 = .ok (.if_icmp .ne 8, 3) := by decide +kernel
theorem d_Mo_tellFar_141 : decode prog_13_method_21_code 141 = .ok (.bipush 8, 2) := by decide +kernel
theorem d_Mo_tellFar_143 : decode prog_13_method_21_code 143 = .ok (.goto 5, 3) := by decide +kernel
theorem d_Mo_tellFar_146 : decode prog_13_method_21_code 146 = .ok (.bipush 9, 2) := by decide +kernel
theorem d_Mo_tellFar_148 : decode prog_13_method_21_code 148 = .ok (.istore 5, 2) := by decide +kernel
theorem d_Mo_tellFar_150 : decode prog_13_method_21_code 150 = .ok (.iload_n 1, 1) := by decide +kernel
theorem d_Mo_tellFar_151 : decode prog_13_method_21_code 151 = .ok (.iconst 1, 1) := by decide +kernel
theorem d_Mo_tellFar_152 : decode prog_13_method_21_code 152 = .ok (.if_icmp .ne 8, 3) := by decide +kernel
theorem d_Mo_tellFar_155 : decode prog_13_method_21_code 155 = .ok (.bipush 10, 2) := by decide +kernel
theorem d_Mo_tellFar_157 : decode prog_13_method_21_code 157 = .ok (.goto 5, 3) := by decide +kernel
theorem d_Mo_tellFar_160 : decode prog_13_method_21_code 160 = .ok (.bipush 11, 2) := by decide +kernel
theorem d_Mo_tellFar_162 : decode prog_13_method_21_code 162 = .ok (.istore 6, 2) := by decide +kernel
theorem d_Mo_tellFar_164 : decode prog_13_method_21_code 164 = .ok (.aload_n 0, 1) := by decide +kernel
theorem d_Mo_tellFar_165 : decode prog_13_method_21_code 165 = .ok (.aload_n 0, 1) := by decide +kernel
theorem d_Mo_tellFar_166 : decode prog_13_method_21_code 166 = .ok (.getfield 82, 3) := by decide +kernel
theorem d_Mo_tellFar_169 : decode prog_13_method_21_code 169 = .ok (.bipush 7, 2) := by decide +kernel
theorem d_Mo_tellFar_171 : decode prog_13_method_21_code 171 = .ok (.if_icmp .ge 8, 3) := by decide +kernel
theorem d_Mo_tellFar_174 : decode prog_13_method_21_code 174 = .ok (.iload 5, 2) := by decide +kernel
theorem d_Mo_tellFar_176 : decode prog_13_method_21_code 176 = .ok (.goto 5, 3) := by decide +kernel
theorem d_Mo_tellFar_179 : decode prog_13_method_21_code 179 = .ok (.iload 6, 2) := by decide +kernel
theorem d_Mo_tellFar_181 : decode prog_13_method_21_code 181 = .ok (.putfield 82, 3) := by decide +kernel
theorem d_Mo_tellFar_184 : decode prog_13_method_21_code 184 = .ok (.return_, 1) := by decide +kernel
theorem d_Mo_packet0_0 : decode prog_13_method_22_code 0 = .ok (.aload_n 0, 1) := by decide +kernel
theorem d_Mo_packet0_1 : decode prog_13_method_22_code 1 = .ok (.aload_n 0, 1) := by decide +kernel
theorem d_Mo_packet0_2 : decode prog_13_method_22_code 2 = .ok (.getfield 82, 3) := by decide +kernel
theorem d_Mo_packet0_5 : decode prog_13_method_22_code 5 = .ok (.aload_n 0, 1) := by decide +kernel
theorem d_Mo_packet0_6 : decode prog_13_method_22_code 6 = .ok (.getfield 139, 3) := by decide +kernel
theorem d_Mo_packet0_9 : decode prog_13_method_22_code 9 = .ok (.ifCond .ne 7, 3) := by decide +kernel
theorem d_Mo_packet0_12 : decode prog_13_method_22_code 12 = .ok (.iconst 0, 1) := by decide +kernel
theorem d_Mo_packet0_13 : decode prog_13_method_22_code 13 = .ok (.goto 4, 3) := by decide +kernel
theorem d_Mo_packet0_16 : decode prog_13_method_22_code 16 = .ok (.iconst 1, 1) := by decide +kernel
theorem d_Mo_packet0_17 : decode prog_13_method_22_code 17 = .ok (.invokevirtual 116, 3) := by decide +kernel
theorem d_Mo_packet0_20 : decode prog_13_method_22_code 20 = .ok (.ifCond .ne 28, 3) := by decide +kernel
theorem d_Mo_packet0_23 : decode prog_13_method_22_code 23 = .ok (.aload_n 0, 1) := by decide +kernel
theorem d_Mo_packet0_24 : decode prog_13_method_22_code 24 = .ok (.aload_n 0, 1) := by decide +kernel
theorem d_Mo_packet0_25 : decode prog_13_method_22_code 25 = .ok (.aload_n 0, 1) := by decide +kernel
theorem d_Mo_packet0_26 : decode prog_13_method_22_code 26 = .ok (.getfield 142, 3) := by decide +kernel
theorem d_Mo_packet0_29 : decode prog_13_method_22_code 29 = .ok (.invokevirtual 145, 3) := by decide +kernel
theorem d_Mo_packet0_32 : decode prog_13_method_22_code 32 = .ok (.invokevirtual 148, 3) := by decide +kernel
theorem d_Mo_packet0_35 : decode prog_13_method_22_code 35 = .ok (.aload_n 0, 1) := by decide +kernel
theorem d_Mo_packet0_36 : decode prog_13_method_22_code 36 = .ok (.getfield 70, 3) := by decide +kernel
theorem d_Mo_packet0_39 : decode prog_13_method_22_code 39 = .ok (.ifCond .ne 7, 3) := by decide +kernel
theorem d_Mo_packet0_42 : decode prog_13_method_22_code 42 = .ok (.iconst 1, 1) := by decide +kernel
theorem d_Mo_packet0_43 : decode prog_13_method_22_code 43 = .ok (.goto 4, 3) := by decide +kernel
theorem d_Mo_packet0_46 : decode prog_13_method_22_code 46 = .ok (.iconst 0, 1) := by decide +kernel
theorem d_Mo_packet0_47 : decode prog_13_method_22_code 47 = .ok (.ireturn, 1) := by decide +kernel
theorem d_Mo_packet0_48 : decode prog_13_method_22_code 48 = .ok (.aload_n 0, 1) := by decide +kernel
theorem d_Mo_packet0_49 : decode prog_13_method_22_code 49 = .ok (.bipush 12, 2) := by decide +kernel
theorem d_Mo_packet0_51 : decode prog_13_method_22_code 51 = .ok (.aload_n 0, 1) := by decide +kernel
theorem d_Mo_packet0_52 : decode prog_13_method_22_code 52 = .ok (.getfield 82, 3) := by decide +kernel
theorem d_Mo_packet0_55 : decode prog_13_method_22_code 55 = .ok (.iadd, 1) := by decide +kernel
theorem d_Mo_packet0_56 : decode prog_13_method_22_code 56 = .ok (.aload_n 0, 1) := by decide +kernel
theorem d_Mo_packet0_57 : decode prog_13_method_22_code 57 = .ok (.getfield 139, 3) := by decide +kernel
theorem d_Mo_packet0_60 : decode prog_13_method_22_code 60 = .ok (.iconst 1, 1) := by decide +kernel
theorem d_Mo_packet0_61 : decode prog_13_method_22_code 61 = .ok (.if_icmp .le 7, 3) := by decide +kernel
theorem d_Mo_packet0_64 : decode prog_13_method_22_code 64 = .ok (.iconst 1, 1) := by decide +kernel
theorem d_Mo_packet0_65 : decode prog_13_method_22_code 65 = .ok (.goto 4, 3) := by decide +kernel
theorem d_Mo_packet0_68 : decode prog_13_method_22_code 68 = .ok (.iconst 0, 1) := by decide +kernel
theorem d_Mo_packet0_69 : decode prog_13_method_22_code 69 = .ok (.invokevirtual 116, 3) := by decide +kernel
theorem d_Mo_packet0_72 : decode prog_13_method_22_code 72 = .ok (.ifCond .ne 60, 3) := by decide +kernel
theorem d_Mo_packet0_75 : decode prog_13_method_22_code 75 = .ok (.aload_n 0, 1) := by decide +kernel
theorem d_Mo_packet0_76 : decode prog_13_method_22_code 76 = .ok (.iconst 0, 1) := by decide +kernel
theorem d_Mo_packet0_77 : decode prog_13_method_22_code 77 = .ok (.aload_n 0, 1) := by decide +kernel
theorem d_Mo_packet0_78 : decode prog_13_method_22_code 78 = .ok (.getfield 151, 3) := by decide +kernel
theorem d_Mo_packet0_81 : decode prog_13_method_22_code 81 = .ok (.iconst 2, 1) := by decide +kernel
theorem d_Mo_packet0_82 : decode prog_13_method_22_code 82 = .ok (.isub, 1) := by decide +kernel
theorem d_Mo_packet0_83 : decode prog_13_method_22_code 83 = .ok (.invokevirtual 154, 3) := by decide +kernel
theorem d_Mo_packet0_86 : decode prog_13_method_22_code 86 = .ok (.istore_n 1, 1) := by decide +kernel
theorem d_Mo_packet0_87 : decode prog_13_method_22_code 87 = .ok (.aload_n 0, 1) := by decide +kernel
theorem d_Mo_packet0_88 : decode prog_13_method_22_code 88 = .ok (.iload_n 1, 1) := by decide +kernel
theorem d_Mo_packet0_89 : decode prog_13_method_22_code 89 = .ok (.aload_n 0, 1) := by decide +kernel
theorem d_Mo_packet0_90 : decode prog_13_method_22_code 90 = .ok (.getfield 142, 3) := by decide +kernel
theorem d_Mo_packet0_93 : decode prog_13_method_22_code 93 = .ok (.iconst 1, 1) := by decide +kernel
theorem d_Mo_packet0_94 : decode prog_13_method_22_code 94 = .ok (.isub, 1) := by decide +kernel
theorem d_Mo_packet0_95 : decode prog_13_method_22_code 95 = .ok (.invokevirtual 157, 3) := by decide +kernel
theorem d_Mo_packet0_98 : decode prog_13_method_22_code 98 = .ok (.istore_n 2, 1) := by decide +kernel
theorem d_Mo_packet0_99 : decode prog_13_method_22_code 99 = .ok (.iload_n 2, 1) := by decide +kernel
theorem d_Mo_packet0_100 : decode prog_13_method_22_code 100 = .ok (.ifCond .lt 15, 3) := by decide +kernel
theorem d_Mo_packet0_103 : decode prog_13_method_22_code 103 = .ok (.aload_n 0, 1) := by decide +kernel
theorem d_Mo_packet0_104 : decode prog_13_method_22_code 104 = .ok (.iconst 1, 1) := by decide +kernel
theorem d_Mo_packet0_105 : decode prog_13_method_22_code 105 = .ok (.iload_n 1, 1) := by decide +kernel
theorem d_Mo_packet0_106 : decode prog_13_method_22_code 106 = .ok (.iconst 2, 1) := by decide +kernel
theorem d_Mo_packet0_107 : decode prog_13_method_22_code 107 = .ok (.iadd, 1) := by decide +kernel
theorem d_Mo_packet0_108 : decode prog_13_method_22_code 108 = .ok (.iload_n 2, 1) := by decide +kernel
theorem d_Mo_packet0_109 : decode prog_13_method_22_code 109 = .ok (.iconst 1, 1) := by decide +kernel
theorem d_Mo_packet0_110 : decode prog_13_method_22_code 110 = .ok (.iadd, 1) := by decide +kernel
theorem d_Mo_packet0_111 : decode prog_13_method_22_code 111 = .ok (.iconst 3, 1) := by decide +kernel
theorem d_Mo_packet0_112 : decode prog_13_method_22_code 112 = .ok (.invokevirtual 160, 3) := by decide +kernel
theorem d_Mo_packet0_115 : decode prog_13_method_22_code 115 = .ok (.iload_n 2, 1) := by decide +kernel
theorem d_Mo_packet0_116 : decode prog_13_method_22_code 116 = .ok (.ifCond .lt 14, 3) := by decide +kernel
theorem d_Mo_packet0_119 : decode prog_13_method_22_code 119 = .ok (.aload_n 0, 1) := by decide +kernel
theorem d_Mo_packet0_120 : decode prog_13_method_22_code 120 = .ok (.getfield 70, 3) := by decide +kernel
theorem d_Mo_packet0_123 : decode prog_13_method_22_code 123 = .ok (.ifCond .ne 7, 3) := by decide +kernel
theorem d_Mo_packet0_126 : decode prog_13_method_22_code 126 = .ok (.iconst 1, 1) := by decide +kernel
theorem d_Mo_packet0_127 : decode prog_13_method_22_code 127 = .ok (.goto 4, 3) := by decide +kernel
theorem d_Mo_packet0_130 : decode prog_13_method_22_code 130 = .ok (.iconst 0, 1) := by decide +kernel
theorem d_Mo_packet0_131 : decode prog_13_method_22_code 131 = .ok (.ireturn, 1) := by decide +kernel
theorem d_Mo_packet0_132 : decode prog_13_method_22_code 132 = .ok (.aload_n 0, 1) := by decide +kernel
theorem d_Mo_packet0_133 : decode prog_13_method_22_code 133 = .ok (.aload_n 0, 1) := by decide +kernel
theorem d_Mo_packet0_134 : decode prog_13_method_22_code 134 = .ok (.getfield 139, 3) := by decide +kernel
theorem d_Mo_packet0_137 : decode prog_13_method_22_code 137 = .ok (.iconst 3, 1) := by decide +kernel
theorem d_Mo_packet0_138 : decode prog_13_method_22_code 138 = .ok (.if_icmp .ne 7, 3) := by decide +kernel
theorem d_Mo_packet0_141 : decode prog_13_method_22_code 141 = .ok (.iconst (-1), 1) := by decide +kernel
theorem d_Mo_packet0_142 : decode prog_13_method_22_code 142 = .ok (.goto 7, 3) := by decide +kernel
theorem d_Mo_packet0_145 : decode prog_13_method_22_code 145 = .ok (.aload_n 0, 1) := by decide +kernel
theorem d_Mo_packet0_146 : decode prog_13_method_22_code 146 = .ok (.getfield 164, 3) := by decide +kernel
theorem d_Mo_packet0_149 : decode prog_13_method_22_code 149 = .ok (.invokevirtual 167, 3) := by decide +kernel
theorem d_Mo_packet0_152 : decode prog_13_method_22_code 152 = .ok (.istore_n 1, 1) := by decide +kernel
