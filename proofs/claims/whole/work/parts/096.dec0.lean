theorem d_Np_init_0 : decode prog_1_method_1_code 0 = .ok (.aload_n 0, 1) := by decide +kernel
theorem d_Np_init_1 : decode prog_1_method_1_code 1 = .ok (.invokespecial 3, 3) := by decide +kernel
theorem d_Np_init_4 : decode prog_1_method_1_code 4 = .ok (.aload_n 0, 1) := by decide +kernel
theorem d_Np_init_5 : decode prog_1_method_1_code 5 = .ok (.new 9, 3) := by decide +kernel
theorem d_Np_init_8 : decode prog_1_method_1_code 8 = .ok (.dup, 1) := by decide +kernel
theorem d_Np_init_9 : decode prog_1_method_1_code 9 = .ok (.bipush 120, 2) := by decide +kernel
theorem d_Np_init_11 : decode prog_1_method_1_code 11 = .ok (.invokespecial 11, 3) := by decide +kernel
theorem d_Np_init_14 : decode prog_1_method_1_code 14 = .ok (.putfield 14, 3) := by decide +kernel
theorem d_Np_init_17 : decode prog_1_method_1_code 17 = .ok (.aload_n 0, 1) := by decide +kernel
theorem d_Np_init_18 : decode prog_1_method_1_code 18 = .ok (.new 9, 3) := by decide +kernel
theorem d_Np_init_21 : decode prog_1_method_1_code 21 = .ok (.dup, 1) := by decide +kernel
theorem d_Np_init_22 : decode prog_1_method_1_code 22 = .ok (.sipush 200, 3) := by decide +kernel
theorem d_Np_init_25 : decode prog_1_method_1_code 25 = .ok (.invokespecial 11, 3) := by decide +kernel
theorem d_Np_init_28 : decode prog_1_method_1_code 28 = .ok (.putfield 18, 3) := by decide +kernel
theorem d_Np_init_31 : decode prog_1_method_1_code 31 = .ok (.aload_n 0, 1) := by decide +kernel
theorem d_Np_init_32 : decode prog_1_method_1_code 32 = .ok (.new 9, 3) := by decide +kernel
theorem d_Np_init_35 : decode prog_1_method_1_code 35 = .ok (.dup, 1) := by decide +kernel
theorem d_Np_init_36 : decode prog_1_method_1_code 36 = .ok (.bipush 120, 2) := by decide +kernel
theorem d_Np_init_38 : decode prog_1_method_1_code 38 = .ok (.invokespecial 11, 3) := by decide +kernel
theorem d_Np_init_41 : decode prog_1_method_1_code 41 = .ok (.putfield 21, 3) := by decide +kernel
theorem d_Np_init_44 : decode prog_1_method_1_code 44 = .ok (.aload_n 0, 1) := by decide +kernel
theorem d_Np_init_45 : decode prog_1_method_1_code 45 = .ok (.bipush 72, 2) := by decide +kernel
theorem d_Np_init_47 : decode prog_1_method_1_code 47 = .ok (.newarray .int, 2) := by decide +kernel
theorem d_Np_init_49 : decode prog_1_method_1_code 49 = .ok (.putfield 24, 3) := by decide +kernel
theorem d_Np_init_52 : decode prog_1_method_1_code 52 = .ok (.aload_n 0, 1) := by decide +kernel
theorem d_Np_init_53 : decode prog_1_method_1_code 53 = .ok (.new 28, 3) := by decide +kernel
theorem d_Np_init_56 : decode prog_1_method_1_code 56 = .ok (.dup, 1) := by decide +kernel
theorem d_Np_init_57 : decode prog_1_method_1_code 57 = .ok (.invokespecial 30, 3) := by decide +kernel
theorem d_Np_init_60 : decode prog_1_method_1_code 60 = .ok (.putfield 31, 3) := by decide +kernel
theorem d_Np_init_63 : decode prog_1_method_1_code 63 = .ok (.aload_n 0, 1) := by decide +kernel
theorem d_Np_init_64 : decode prog_1_method_1_code 64 = .ok (.new 28, 3) := by decide +kernel
theorem d_Np_init_67 : decode prog_1_method_1_code 67 = .ok (.dup, 1) := by decide +kernel
theorem d_Np_init_68 : decode prog_1_method_1_code 68 = .ok (.invokespecial 30, 3) := by decide +kernel
theorem d_Np_init_71 : decode prog_1_method_1_code 71 = .ok (.putfield 35, 3) := by decide +kernel
theorem d_Np_init_74 : decode prog_1_method_1_code 74 = .ok (.aload_n 0, 1) := by decide +kernel
theorem d_Np_init_75 : decode prog_1_method_1_code 75 = .ok (.new 38, 3) := by decide +kernel
theorem d_Np_init_78 : decode prog_1_method_1_code 78 = .ok (.dup, 1) := by decide +kernel
theorem d_Np_init_79 : decode prog_1_method_1_code 79 = .ok (.invokespecial 40, 3) := by decide +kernel
theorem d_Np_init_82 : decode prog_1_method_1_code 82 = .ok (.putfield 41, 3) := by decide +kernel
theorem d_Np_init_85 : decode prog_1_method_1_code 85 = .ok (.aload_n 0, 1) := by decide +kernel
theorem d_Np_init_86 : decode prog_1_method_1_code 86 = .ok (.new 45, 3) := by decide +kernel
theorem d_Np_init_89 : decode prog_1_method_1_code 89 = .ok (.dup, 1) := by decide +kernel
theorem d_Np_init_90 : decode prog_1_method_1_code 90 = .ok (.invokespecial 47, 3) := by decide +kernel
theorem d_Np_init_93 : decode prog_1_method_1_code 93 = .ok (.putfield 48, 3) := by decide +kernel
theorem d_Np_init_96 : decode prog_1_method_1_code 96 = .ok (.aload_n 0, 1) := by decide +kernel
theorem d_Np_init_97 : decode prog_1_method_1_code 97 = .ok (.new 52, 3) := by decide +kernel
theorem d_Np_init_100 : decode prog_1_method_1_code 100 = .ok (.dup, 1) := by decide +kernel
theorem d_Np_init_101 : decode prog_1_method_1_code 101 = .ok (.iconst 1, 1) := by decide +kernel
theorem d_Np_init_102 : decode prog_1_method_1_code 102 = .ok (.bipush 16, 2) := by decide +kernel
theorem d_Np_init_104 : decode prog_1_method_1_code 104 = .ok (.iload_n 1, 1) := by decide +kernel
theorem d_Np_init_105 : decode prog_1_method_1_code 105 = .ok (.invokestatic 54, 3) := by decide +kernel
theorem d_Np_init_108 : decode prog_1_method_1_code 108 = .ok (.invokestatic 60, 3) := by decide +kernel
theorem d_Np_init_111 : decode prog_1_method_1_code 111 = .ok (.invokespecial 63, 3) := by decide +kernel
theorem d_Np_init_114 : decode prog_1_method_1_code 114 = .ok (.putfield 64, 3) := by decide +kernel
theorem d_Np_init_117 : decode prog_1_method_1_code 117 = .ok (.aload_n 0, 1) := by decide +kernel
theorem d_Np_init_118 : decode prog_1_method_1_code 118 = .ok (.new 68, 3) := by decide +kernel
theorem d_Np_init_121 : decode prog_1_method_1_code 121 = .ok (.dup, 1) := by decide +kernel
theorem d_Np_init_122 : decode prog_1_method_1_code 122 = .ok (.invokespecial 70, 3) := by decide +kernel
theorem d_Np_init_125 : decode prog_1_method_1_code 125 = .ok (.putfield 71, 3) := by decide +kernel
theorem d_Np_init_128 : decode prog_1_method_1_code 128 = .ok (.aload_n 0, 1) := by decide +kernel
theorem d_Np_init_129 : decode prog_1_method_1_code 129 = .ok (.new 75, 3) := by decide +kernel
theorem d_Np_init_132 : decode prog_1_method_1_code 132 = .ok (.dup, 1) := by decide +kernel
theorem d_Np_init_133 : decode prog_1_method_1_code 133 = .ok (.invokespecial 77, 3) := by decide +kernel
theorem d_Np_init_136 : decode prog_1_method_1_code 136 = .ok (.putfield 78, 3) := by decide +kernel
theorem d_Np_init_139 : decode prog_1_method_1_code 139 = .ok (.return_, 1) := by decide +kernel
theorem d_Np_type_0 : decode prog_1_method_2_code 0 = .ok (.aload_n 0, 1) := by decide +kernel
theorem d_Np_type_1 : decode prog_1_method_2_code 1 = .ok (.getfield 14, 3) := by decide +kernel
theorem d_Np_type_4 : decode prog_1_method_2_code 4 = .ok (.iload_n 1, 1) := by decide +kernel
theorem d_Np_type_5 : decode prog_1_method_2_code 5 = .ok (.invokevirtual 82, 3) := by decide +kernel
theorem d_Np_type_8 : decode prog_1_method_2_code 8 = .ok (.ireturn, 1) := by decide +kernel
theorem d_Np_wipe_0 : decode prog_1_method_3_code 0 = .ok (.aload_n 0, 1) := by decide +kernel
theorem d_Np_wipe_1 : decode prog_1_method_3_code 1 = .ok (.getfield 14, 3) := by decide +kernel
theorem d_Np_wipe_4 : decode prog_1_method_3_code 4 = .ok (.iconst 0, 1) := by decide +kernel
theorem d_Np_wipe_5 : decode prog_1_method_3_code 5 = .ok (.invokevirtual 86, 3) := by decide +kernel
theorem d_Np_wipe_8 : decode prog_1_method_3_code 8 = .ok (.ireturn, 1) := by decide +kernel
theorem d_Np_pack_0 : decode prog_1_method_4_code 0 = .ok (.aload_n 0, 1) := by decide +kernel
theorem d_Np_pack_1 : decode prog_1_method_4_code 1 = .ok (.getfield 48, 3) := by decide +kernel
theorem d_Np_pack_4 : decode prog_1_method_4_code 4 = .ok (.invokevirtual 90, 3) := by decide +kernel
theorem d_Np_pack_7 : decode prog_1_method_4_code 7 = .ok (.aload_n 0, 1) := by decide +kernel
theorem d_Np_pack_8 : decode prog_1_method_4_code 8 = .ok (.getfield 35, 3) := by decide +kernel
theorem d_Np_pack_11 : decode prog_1_method_4_code 11 = .ok (.invokevirtual 93, 3) := by decide +kernel
theorem d_Np_pack_14 : decode prog_1_method_4_code 14 = .ok (.aload_n 0, 1) := by decide +kernel
theorem d_Np_pack_15 : decode prog_1_method_4_code 15 = .ok (.getfield 71, 3) := by decide +kernel
theorem d_Np_pack_18 : decode prog_1_method_4_code 18 = .ok (.getfield 96, 3) := by decide +kernel
theorem d_Np_pack_21 : decode prog_1_method_4_code 21 = .ok (.invokevirtual 100, 3) := by decide +kernel
theorem d_Np_pack_24 : decode prog_1_method_4_code 24 = .ok (.aload_n 0, 1) := by decide +kernel
theorem d_Np_pack_25 : decode prog_1_method_4_code 25 = .ok (.invokevirtual 103, 3) := by decide +kernel
theorem d_Np_pack_28 : decode prog_1_method_4_code 28 = .ok (.aload_n 0, 1) := by decide +kernel
theorem d_Np_pack_29 : decode prog_1_method_4_code 29 = .ok (.getfield 71, 3) := by decide +kernel
theorem d_Np_pack_32 : decode prog_1_method_4_code 32 = .ok (.getfield 96, 3) := by decide +kernel
theorem d_Np_pack_35 : decode prog_1_method_4_code 35 = .ok (.invokevirtual 106, 3) := by decide +kernel
theorem d_Np_pack_38 : decode prog_1_method_4_code 38 = .ok (.ifCond .ne 13, 3) := by decide +kernel
theorem d_Np_pack_41 : decode prog_1_method_4_code 41 = .ok (.new 110, 3) := by decide +kernel
theorem d_Np_pack_44 : decode prog_1_method_4_code 44 = .ok (.dup, 1) := by decide +kernel
theorem d_Np_pack_45 : decode prog_1_method_4_code 45 = .ok (.ldc 112, 2) := by decide +kernel
theorem d_Np_pack_47 : decode prog_1_method_4_code 47 = .ok (.invokespecial 114, 3) := by decide +kernel
theorem d_Np_pack_50 : decode prog_1_method_4_code 50 = .ok (.athrow, 1) := by decide +kernel
theorem d_Np_pack_51 : decode prog_1_method_4_code 51 = .ok (.aload_n 0, 1) := by decide +kernel
theorem d_Np_pack_52 : decode prog_1_method_4_code 52 = .ok (.aload_n 0, 1) := by decide +kernel
theorem d_Np_pack_53 : decode prog_1_method_4_code 53 = .ok (.getfield 71, 3) := by decide +kernel
theorem d_Np_pack_56 : decode prog_1_method_4_code 56 = .ok (.getfield 96, 3) := by decide +kernel
theorem d_Np_pack_59 : decode prog_1_method_4_code 59 = .ok (.invokevirtual 117, 3) := by decide +kernel
theorem d_Np_pack_62 : decode prog_1_method_4_code 62 = .ok (.aload_n 0, 1) := by decide +kernel
theorem d_Np_pack_63 : decode prog_1_method_4_code 63 = .ok (.getfield 18, 3) := by decide +kernel
theorem d_Np_pack_66 : decode prog_1_method_4_code 66 = .ok (.getfield 121, 3) := by decide +kernel
theorem d_Np_pack_69 : decode prog_1_method_4_code 69 = .ok (.ireturn, 1) := by decide +kernel
theorem d_Np_packets_0 : decode prog_1_method_5_code 0 = .ok (.aload_n 0, 1) := by decide +kernel
theorem d_Np_packets_1 : decode prog_1_method_5_code 1 = .ok (.getfield 31, 3) := by decide +kernel
theorem d_Np_packets_4 : decode prog_1_method_5_code 4 = .ok (.getfield 125, 3) := by decide +kernel
theorem d_Np_packets_7 : decode prog_1_method_5_code 7 = .ok (.ireturn, 1) := by decide +kernel
theorem d_Np_packet_0 : decode prog_1_method_6_code 0 = .ok (.aload_n 0, 1) := by decide +kernel
theorem d_Np_packet_1 : decode prog_1_method_6_code 1 = .ok (.getfield 31, 3) := by decide +kernel
theorem d_Np_packet_4 : decode prog_1_method_6_code 4 = .ok (.iload_n 1, 1) := by decide +kernel
theorem d_Np_packet_5 : decode prog_1_method_6_code 5 = .ok (.iload_n 2, 1) := by decide +kernel
theorem d_Np_packet_6 : decode prog_1_method_6_code 6 = .ok (.invokevirtual 126, 3) := by decide +kernel
theorem d_Np_packet_9 : decode prog_1_method_6_code 9 = .ok (.ireturn, 1) := by decide +kernel
theorem d_Np_chance_0 : decode prog_1_method_7_code 0 = .ok (.aload_n 0, 1) := by decide +kernel
theorem d_Np_chance_1 : decode prog_1_method_7_code 1 = .ok (.getfield 129, 3) := by decide +kernel
theorem d_Np_chance_4 : decode prog_1_method_7_code 4 = .ok (.ifCond .eq 13, 3) := by decide +kernel
theorem d_Np_chance_7 : decode prog_1_method_7_code 7 = .ok (.iload_n 1, 1) := by decide +kernel
theorem d_Np_chance_8 : decode prog_1_method_7_code 8 = .ok (.ifCond .lt 9, 3) := by decide +kernel
theorem d_Np_chance_11 : decode prog_1_method_7_code 11 = .ok (.iload_n 1, 1) := by decide +kernel
theorem d_Np_chance_12 : decode prog_1_method_7_code 12 = .ok (.bipush 6, 2) := by decide +kernel
theorem d_Np_chance_14 : decode prog_1_method_7_code 14 = .ok (.if_icmp .lt 5, 3) := by decide +kernel
theorem d_Np_chance_17 : decode prog_1_method_7_code 17 = .ok (.iconst (-1), 1) := by decide +kernel
theorem d_Np_chance_18 : decode prog_1_method_7_code 18 = .ok (.ireturn, 1) := by decide +kernel
theorem d_Np_chance_19 : decode prog_1_method_7_code 19 = .ok (.iload_n 2, 1) := by decide +kernel
theorem d_Np_chance_20 : decode prog_1_method_7_code 20 = .ok (.ifCond .lt 9, 3) := by decide +kernel
theorem d_Np_chance_23 : decode prog_1_method_7_code 23 = .ok (.iload_n 2, 1) := by decide +kernel
theorem d_Np_chance_24 : decode prog_1_method_7_code 24 = .ok (.bipush 12, 2) := by decide +kernel
theorem d_Np_chance_26 : decode prog_1_method_7_code 26 = .ok (.if_icmp .lt 5, 3) := by decide +kernel
theorem d_Np_chance_29 : decode prog_1_method_7_code 29 = .ok (.iconst (-1), 1) := by decide +kernel
theorem d_Np_chance_30 : decode prog_1_method_7_code 30 = .ok (.ireturn, 1) := by decide +kernel
theorem d_Np_chance_31 : decode prog_1_method_7_code 31 = .ok (.aload_n 0, 1) := by decide +kernel
theorem d_Np_chance_32 : decode prog_1_method_7_code 32 = .ok (.getfield 24, 3) := by decide +kernel
theorem d_Np_chance_35 : decode prog_1_method_7_code 35 = .ok (.iload_n 1, 1) := by decide +kernel
theorem d_Np_chance_36 : decode prog_1_method_7_code 36 = .ok (.bipush 12, 2) := by decide +kernel
theorem d_Np_chance_38 : decode prog_1_method_7_code 38 = .ok (.imul, 1) := by decide +kernel
theorem d_Np_chance_39 : decode prog_1_method_7_code 39 = .ok (.iload_n 2, 1) := by decide +kernel
theorem d_Np_chance_40 : decode prog_1_method_7_code 40 = .ok (.iadd, 1) := by decide +kernel
theorem d_Np_chance_41 : decode prog_1_method_7_code 41 = .ok (.iaload, 1) := by decide +kernel
theorem d_Np_chance_42 : decode prog_1_method_7_code 42 = .ok (.ireturn, 1) := by decide +kernel
theorem d_Np_size_0 : decode prog_1_method_8_code 0 = .ok (.aload_n 0, 1) := by decide +kernel
theorem d_Np_size_1 : decode prog_1_method_8_code 1 = .ok (.getfield 18, 3) := by decide +kernel
theorem d_Np_size_4 : decode prog_1_method_8_code 4 = .ok (.getfield 121, 3) := by decide +kernel
theorem d_Np_size_7 : decode prog_1_method_8_code 7 = .ok (.ireturn, 1) := by decide +kernel
theorem d_Np_at_0 : decode prog_1_method_9_code 0 = .ok (.aload_n 0, 1) := by decide +kernel
theorem d_Np_at_1 : decode prog_1_method_9_code 1 = .ok (.getfield 18, 3) := by decide +kernel
theorem d_Np_at_4 : decode prog_1_method_9_code 4 = .ok (.iload_n 1, 1) := by decide +kernel
theorem d_Np_at_5 : decode prog_1_method_9_code 5 = .ok (.invokevirtual 133, 3) := by decide +kernel
theorem d_Np_at_8 : decode prog_1_method_9_code 8 = .ok (.ireturn, 1) := by decide +kernel
theorem d_Np_add_0 : decode prog_1_method_10_code 0 = .ok (.aload_n 0, 1) := by decide +kernel
theorem d_Np_add_1 : decode prog_1_method_10_code 1 = .ok (.getfield 18, 3) := by decide +kernel
theorem d_Np_add_4 : decode prog_1_method_10_code 4 = .ok (.iload_n 1, 1) := by decide +kernel
theorem d_Np_add_5 : decode prog_1_method_10_code 5 = .ok (.invokevirtual 82, 3) := by decide +kernel
theorem d_Np_add_8 : decode prog_1_method_10_code 8 = .ok (.ireturn, 1) := by decide +kernel
theorem d_Np_put_0 : decode prog_1_method_11_code 0 = .ok (.aload_n 0, 1) := by decide +kernel
theorem d_Np_put_1 : decode prog_1_method_11_code 1 = .ok (.getfield 18, 3) := by decide +kernel
theorem d_Np_put_4 : decode prog_1_method_11_code 4 = .ok (.iload_n 1, 1) := by decide +kernel
theorem d_Np_put_5 : decode prog_1_method_11_code 5 = .ok (.invokevirtual 136, 3) := by decide +kernel
theorem d_Np_put_8 : decode prog_1_method_11_code 8 = .ok (.ifCond .ne 13, 3) := by decide +kernel
theorem d_Np_put_11 : decode prog_1_method_11_code 11 = .ok (.new 139, 3) := by decide +kernel
theorem d_Np_put_14 : decode prog_1_method_11_code 14 = .ok (.dup, 1) := by decide +kernel
theorem d_Np_put_15 : decode prog_1_method_11_code 15 = .ok (.ldc 141, 2) := by decide +kernel
theorem d_Np_put_17 : decode prog_1_method_11_code 17 = .ok (.invokespecial 143, 3) := by decide +kernel
theorem d_Np_put_20 : decode prog_1_method_11_code 20 = .ok (.athrow, 1) := by decide +kernel
theorem d_Np_put_21 : decode prog_1_method_11_code 21 = .ok (.iload_n 2, 1) := by decide +kernel
theorem d_Np_put_22 : decode prog_1_method_11_code 22 = .ok (.invokestatic 144, 3) := by decide +kernel
theorem d_Np_put_25 : decode prog_1_method_11_code 25 = .ok (.ifCond .ne 13, 3) := by decide +kernel
theorem d_Np_put_28 : decode prog_1_method_11_code 28 = .ok (.new 147, 3) := by decide +kernel
theorem d_Np_put_31 : decode prog_1_method_11_code 31 = .ok (.dup, 1) := by decide +kernel
theorem d_Np_put_32 : decode prog_1_method_11_code 32 = .ok (.ldc 149, 2) := by decide +kernel
theorem d_Np_put_34 : decode prog_1_method_11_code 34 = .ok (.invokespecial 151, 3) := by decide +kernel
theorem d_Np_put_37 : decode prog_1_method_11_code 37 = .ok (.athrow, 1) := by decide +kernel
theorem d_Np_put_38 : decode prog_1_method_11_code 38 = .ok (.aload_n 0, 1) := by decide +kernel
theorem d_Np_put_39 : decode prog_1_method_11_code 39 = .ok (.getfield 18, 3) := by decide +kernel
theorem d_Np_put_42 : decode prog_1_method_11_code 42 = .ok (.getfield 152, 3) := by decide +kernel
theorem d_Np_put_45 : decode prog_1_method_11_code 45 = .ok (.iload_n 1, 1) := by decide +kernel
theorem d_Np_put_46 : decode prog_1_method_11_code 46 = .ok (.iaload, 1) := by decide +kernel
theorem d_Np_put_47 : decode prog_1_method_11_code 47 = .ok (.istore_n 3, 1) := by decide +kernel
theorem d_Np_put_48 : decode prog_1_method_11_code 48 = .ok (.aload_n 0, 1) := by decide +kernel
theorem d_Np_put_49 : decode prog_1_method_11_code 49 = .ok (.getfield 18, 3) := by decide +kernel
theorem d_Np_put_52 : decode prog_1_method_11_code 52 = .ok (.getfield 152, 3) := by decide +kernel
theorem d_Np_put_55 : decode prog_1_method_11_code 55 = .ok (.iload_n 1, 1) := by decide +kernel
theorem d_Np_put_56 : decode prog_1_method_11_code 56 = .ok (.iload_n 2, 1) := by decide +kernel
theorem d_Np_put_57 : decode prog_1_method_11_code 57 = .ok (.iastore, 1) := by decide +kernel
theorem d_Np_put_58 : decode prog_1_method_11_code 58 = .ok (.iload_n 3, 1) := by decide +kernel
theorem d_Np_put_59 : decode prog_1_method_11_code 59 = .ok (.ireturn, 1) := by decide +kernel
theorem d_Np_cut_0 : decode prog_1_method_12_code 0 = .ok (.iload_n 1, 1) := by decide +kernel
theorem d_Np_cut_1 : decode prog_1_method_12_code 1 = .ok (.ifCond .ge 13, 3) := by decide +kernel
theorem d_Np_cut_4 : decode prog_1_method_12_code 4 = .ok (.new 147, 3) := by decide +kernel
theorem d_Np_cut_7 : decode prog_1_method_12_code 7 = .ok (.dup, 1) := by decide +kernel
theorem d_Np_cut_8 : decode prog_1_method_12_code 8 = .ok (.ldc 155, 2) := by decide +kernel
theorem d_Np_cut_10 : decode prog_1_method_12_code 10 = .ok (.invokespecial 151, 3) := by decide +kernel
theorem d_Np_cut_13 : decode prog_1_method_12_code 13 = .ok (.athrow, 1) := by decide +kernel
theorem d_Np_cut_14 : decode prog_1_method_12_code 14 = .ok (.aload_n 0, 1) := by decide +kernel
theorem d_Np_cut_15 : decode prog_1_method_12_code 15 = .ok (.getfield 18, 3) := by decide +kernel
theorem d_Np_cut_18 : decode prog_1_method_12_code 18 = .ok (.iload_n 1, 1) := by decide +kernel
theorem d_Np_cut_19 : decode prog_1_method_12_code 19 = .ok (.invokevirtual 86, 3) := by decide +kernel
theorem d_Np_cut_22 : decode prog_1_method_12_code 22 = .ok (.ireturn, 1) := by decide +kernel
theorem d_Np_unpack_0 : decode prog_1_method_13_code 0 = .ok (.aload_n 0, 1) := by decide +kernel
theorem d_Np_unpack_1 : decode prog_1_method_13_code 1 = .ok (.getfield 48, 3) := by decide +kernel
theorem d_Np_unpack_4 : decode prog_1_method_13_code 4 = .ok (.invokevirtual 90, 3) := by decide +kernel
theorem d_Np_unpack_7 : decode prog_1_method_13_code 7 = .ok (.aload_n 0, 1) := by decide +kernel
theorem d_Np_unpack_8 : decode prog_1_method_13_code 8 = .ok (.getfield 78, 3) := by decide +kernel
theorem d_Np_unpack_11 : decode prog_1_method_13_code 11 = .ok (.getfield 157, 3) := by decide +kernel
theorem d_Np_unpack_14 : decode prog_1_method_13_code 14 = .ok (.aload_n 0, 1) := by decide +kernel
theorem d_Np_unpack_15 : decode prog_1_method_13_code 15 = .ok (.getfield 18, 3) := by decide +kernel
theorem d_Np_unpack_18 : decode prog_1_method_13_code 18 = .ok (.invokevirtual 161, 3) := by decide +kernel
theorem d_Np_unpack_21 : decode prog_1_method_13_code 21 = .ok (.iconst 0, 1) := by decide +kernel
theorem d_Np_unpack_22 : decode prog_1_method_13_code 22 = .ok (.istore_n 1, 1) := by decide +kernel
theorem d_Np_unpack_23 : decode prog_1_method_13_code 23 = .ok (.iload_n 1, 1) := by decide +kernel
theorem d_Np_unpack_24 : decode prog_1_method_13_code 24 = .ok (.bipush 120, 2) := by decide +kernel
theorem d_Np_unpack_26 : decode prog_1_method_13_code 26 = .ok (.if_icmp .gt 53, 3) := by decide +kernel
theorem d_Np_unpack_29 : decode prog_1_method_13_code 29 = .ok (.aload_n 0, 1) := by decide +kernel
theorem d_Np_unpack_30 : decode prog_1_method_13_code 30 = .ok (.getfield 78, 3) := by decide +kernel
theorem d_Np_unpack_33 : decode prog_1_method_13_code 33 = .ok (.aload_n 0, 1) := by decide +kernel
theorem d_Np_unpack_34 : decode prog_1_method_13_code 34 = .ok (.getfield 41, 3) := by decide +kernel
theorem d_Np_unpack_37 : decode prog_1_method_13_code 37 = .ok (.aload_n 0, 1) := by decide +kernel
theorem d_Np_unpack_38 : decode prog_1_method_13_code 38 = .ok (.getfield 48, 3) := by decide +kernel
theorem d_Np_unpack_41 : decode prog_1_method_13_code 41 = .ok (.invokevirtual 166, 3) := by decide +kernel
theorem d_Np_unpack_44 : decode prog_1_method_13_code 44 = .ok (.aload_n 0, 1) := by decide +kernel
theorem d_Np_unpack_45 : decode prog_1_method_13_code 45 = .ok (.getfield 41, 3) := by decide +kernel
theorem d_Np_unpack_48 : decode prog_1_method_13_code 48 = .ok (.getfield 170, 3) := by decide +kernel
theorem d_Np_unpack_51 : decode prog_1_method_13_code 51 = .ok (.iconst 4, 1) := by decide +kernel
theorem d_Np_unpack_52 : decode prog_1_method_13_code 52 = .ok (.if_icmp .ne 6, 3) := by decide +kernel
theorem d_Np_unpack_55 : decode prog_1_method_13_code 55 = .ok (.goto 24, 3) := by decide +kernel
theorem d_Np_unpack_58 : decode prog_1_method_13_code 58 = .ok (.aload_n 0, 1) := by decide +kernel
theorem d_Np_unpack_59 : decode prog_1_method_13_code 59 = .ok (.invokevirtual 173, 3) := by decide +kernel
theorem d_Np_unpack_62 : decode prog_1_method_13_code 62 = .ok (.aload_n 0, 1) := by decide +kernel
theorem d_Np_unpack_63 : decode prog_1_method_13_code 63 = .ok (.getfield 48, 3) := by decide +kernel
theorem d_Np_unpack_66 : decode prog_1_method_13_code 66 = .ok (.aload_n 0, 1) := by decide +kernel
theorem d_Np_unpack_67 : decode prog_1_method_13_code 67 = .ok (.getfield 41, 3) := by decide +kernel
theorem d_Np_unpack_70 : decode prog_1_method_13_code 70 = .ok (.invokevirtual 176, 3) := by decide +kernel
theorem d_Np_unpack_73 : decode prog_1_method_13_code 73 = .ok (.iinc 1 1, 3) := by decide +kernel
theorem d_Np_unpack_76 : decode prog_1_method_13_code 76 = .ok (.goto (-53), 3) := by decide +kernel
theorem d_Np_unpack_79 : decode prog_1_method_13_code 79 = .ok (.aload_n 0, 1) := by decide +kernel
theorem d_Np_unpack_80 : decode prog_1_method_13_code 80 = .ok (.getfield 78, 3) := by decide +kernel
theorem d_Np_unpack_83 : decode prog_1_method_13_code 83 = .ok (.getfield 157, 3) := by decide +kernel
theorem d_Np_unpack_86 : decode prog_1_method_13_code 86 = .ok (.invokevirtual 180, 3) := by decide +kernel
theorem d_Np_unpack_89 : decode prog_1_method_13_code 89 = .ok (.aload_n 0, 1) := by decide +kernel
theorem d_Np_unpack_90 : decode prog_1_method_13_code 90 = .ok (.getfield 21, 3) := by decide +kernel
theorem d_Np_unpack_93 : decode prog_1_method_13_code 93 = .ok (.aload_n 0, 1) := by decide +kernel
theorem d_Np_unpack_94 : decode prog_1_method_13_code 94 = .ok (.getfield 48, 3) := by decide +kernel
theorem d_Np_unpack_97 : decode prog_1_method_13_code 97 = .ok (.getfield 183, 3) := by decide +kernel
theorem d_Np_unpack_100 : decode prog_1_method_13_code 100 = .ok (.getfield 152, 3) := by decide +kernel
theorem d_Np_unpack_103 : decode prog_1_method_13_code 103 = .ok (.aload_n 0, 1) := by decide +kernel
theorem d_Np_unpack_104 : decode prog_1_method_13_code 104 = .ok (.getfield 48, 3) := by decide +kernel
theorem d_Np_unpack_107 : decode prog_1_method_13_code 107 = .ok (.getfield 183, 3) := by decide +kernel
theorem d_Np_unpack_110 : decode prog_1_method_13_code 110 = .ok (.getfield 121, 3) := by decide +kernel
theorem d_Np_unpack_113 : decode prog_1_method_13_code 113 = .ok (.invokevirtual 186, 3) := by decide +kernel
theorem d_Np_unpack_116 : decode prog_1_method_13_code 116 = .ok (.aload_n 0, 1) := by decide +kernel
theorem d_Np_unpack_117 : decode prog_1_method_13_code 117 = .ok (.getfield 21, 3) := by decide +kernel
theorem d_Np_unpack_120 : decode prog_1_method_13_code 120 = .ok (.getfield 121, 3) := by decide +kernel
theorem d_Np_unpack_123 : decode prog_1_method_13_code 123 = .ok (.ireturn, 1) := by decide +kernel
theorem d_Np_told_0 : decode prog_1_method_14_code 0 = .ok (.aload_n 0, 1) := by decide +kernel
theorem d_Np_told_1 : decode prog_1_method_14_code 1 = .ok (.getfield 21, 3) := by decide +kernel
theorem d_Np_told_4 : decode prog_1_method_14_code 4 = .ok (.getfield 121, 3) := by decide +kernel
theorem d_Np_told_7 : decode prog_1_method_14_code 7 = .ok (.ireturn, 1) := by decide +kernel
theorem d_Np_byteAt_0 : decode prog_1_method_15_code 0 = .ok (.aload_n 0, 1) := by decide +kernel
theorem d_Np_byteAt_1 : decode prog_1_method_15_code 1 = .ok (.getfield 21, 3) := by decide +kernel
theorem d_Np_byteAt_4 : decode prog_1_method_15_code 4 = .ok (.iload_n 1, 1) := by decide +kernel
theorem d_Np_byteAt_5 : decode prog_1_method_15_code 5 = .ok (.invokevirtual 133, 3) := by decide +kernel
theorem d_Np_byteAt_8 : decode prog_1_method_15_code 8 = .ok (.ireturn, 1) := by decide +kernel
theorem d_Np_isByte_0 : decode prog_1_method_16_code 0 = .ok (.iload_n 0, 1) := by decide +kernel
theorem d_Np_isByte_1 : decode prog_1_method_16_code 1 = .ok (.ifCond .lt 14, 3) := by decide +kernel
theorem d_Np_isByte_4 : decode prog_1_method_16_code 4 = .ok (.iload_n 0, 1) := by decide +kernel
theorem d_Np_isByte_5 : decode prog_1_method_16_code 5 = .ok (.sipush 255, 3) := by decide +kernel
theorem d_Np_isByte_8 : decode prog_1_method_16_code 8 = .ok (.if_icmp .gt 7, 3) := by decide +kernel
theorem d_Np_isByte_11 : decode prog_1_method_16_code 11 = .ok (.iconst 1, 1) := by decide +kernel
theorem d_Np_isByte_12 : decode prog_1_method_16_code 12 = .ok (.goto 4, 3) := by decide +kernel
theorem d_Np_isByte_15 : decode prog_1_method_16_code 15 = .ok (.iconst 0, 1) := by decide +kernel
theorem d_Np_isByte_16 : decode prog_1_method_16_code 16 = .ok (.ireturn, 1) := by decide +kernel
theorem d_Np_writeSource_0 : decode prog_1_method_17_code 0 = .ok (.iconst 0, 1) := by decide +kernel
theorem d_Np_writeSource_1 : decode prog_1_method_17_code 1 = .ok (.istore_n 1, 1) := by decide +kernel
theorem d_Np_writeSource_2 : decode prog_1_method_17_code 2 = .ok (.iload_n 1, 1) := by decide +kernel
theorem d_Np_writeSource_3 : decode prog_1_method_17_code 3 = .ok (.bipush 120, 2) := by decide +kernel
theorem d_Np_writeSource_5 : decode prog_1_method_17_code 5 = .ok (.if_icmp .ge 85, 3) := by decide +kernel
theorem d_Np_writeSource_8 : decode prog_1_method_17_code 8 = .ok (.aload_n 0, 1) := by decide +kernel
theorem d_Np_writeSource_9 : decode prog_1_method_17_code 9 = .ok (.getfield 48, 3) := by decide +kernel
theorem d_Np_writeSource_12 : decode prog_1_method_17_code 12 = .ok (.getfield 183, 3) := by decide +kernel
theorem d_Np_writeSource_15 : decode prog_1_method_17_code 15 = .ok (.getfield 121, 3) := by decide +kernel
theorem d_Np_writeSource_18 : decode prog_1_method_17_code 18 = .ok (.aload_n 0, 1) := by decide +kernel
theorem d_Np_writeSource_19 : decode prog_1_method_17_code 19 = .ok (.getfield 14, 3) := by decide +kernel
theorem d_Np_writeSource_22 : decode prog_1_method_17_code 22 = .ok (.getfield 121, 3) := by decide +kernel
theorem d_Np_writeSource_25 : decode prog_1_method_17_code 25 = .ok (.if_icmp .ge 65, 3) := by decide +kernel
theorem d_Np_writeSource_28 : decode prog_1_method_17_code 28 = .ok (.aload_n 0, 1) := by decide +kernel
theorem d_Np_writeSource_29 : decode prog_1_method_17_code 29 = .ok (.getfield 64, 3) := by decide +kernel
theorem d_Np_writeSource_32 : decode prog_1_method_17_code 32 = .ok (.aload_n 0, 1) := by decide +kernel
theorem d_Np_writeSource_33 : decode prog_1_method_17_code 33 = .ok (.getfield 41, 3) := by decide +kernel
theorem d_Np_writeSource_36 : decode prog_1_method_17_code 36 = .ok (.aload_n 0, 1) := by decide +kernel
theorem d_Np_writeSource_37 : decode prog_1_method_17_code 37 = .ok (.getfield 14, 3) := by decide +kernel
theorem d_Np_writeSource_40 : decode prog_1_method_17_code 40 = .ok (.aload_n 0, 1) := by decide +kernel
theorem d_Np_writeSource_41 : decode prog_1_method_17_code 41 = .ok (.getfield 48, 3) := by decide +kernel
theorem d_Np_writeSource_44 : decode prog_1_method_17_code 44 = .ok (.invokevirtual 190, 3) := by decide +kernel
theorem d_Np_writeSource_47 : decode prog_1_method_17_code 47 = .ok (.aload_n 0, 1) := by decide +kernel
theorem d_Np_writeSource_48 : decode prog_1_method_17_code 48 = .ok (.getfield 71, 3) := by decide +kernel
theorem d_Np_writeSource_51 : decode prog_1_method_17_code 51 = .ok (.aload_n 0, 1) := by decide +kernel
theorem d_Np_writeSource_52 : decode prog_1_method_17_code 52 = .ok (.getfield 41, 3) := by decide +kernel
theorem d_Np_writeSource_55 : decode prog_1_method_17_code 55 = .ok (.aload_n 0, 1) := by decide +kernel
theorem d_Np_writeSource_56 : decode prog_1_method_17_code 56 = .ok (.getfield 48, 3) := by decide +kernel
theorem d_Np_writeSource_59 : decode prog_1_method_17_code 59 = .ok (.invokevirtual 194, 3) := by decide +kernel
theorem d_Np_writeSource_62 : decode prog_1_method_17_code 62 = .ok (.aload_n 0, 1) := by decide +kernel
theorem d_Np_writeSource_63 : decode prog_1_method_17_code 63 = .ok (.getfield 48, 3) := by decide +kernel
theorem d_Np_writeSource_66 : decode prog_1_method_17_code 66 = .ok (.aload_n 0, 1) := by decide +kernel
theorem d_Np_writeSource_67 : decode prog_1_method_17_code 67 = .ok (.getfield 41, 3) := by decide +kernel
theorem d_Np_writeSource_70 : decode prog_1_method_17_code 70 = .ok (.invokevirtual 176, 3) := by decide +kernel
theorem d_Np_writeSource_73 : decode prog_1_method_17_code 73 = .ok (.aload_n 0, 1) := by decide +kernel
theorem d_Np_writeSource_74 : decode prog_1_method_17_code 74 = .ok (.getfield 35, 3) := by decide +kernel
theorem d_Np_writeSource_77 : decode prog_1_method_17_code 77 = .ok (.aload_n 0, 1) := by decide +kernel
theorem d_Np_writeSource_78 : decode prog_1_method_17_code 78 = .ok (.getfield 41, 3) := by decide +kernel
theorem d_Np_writeSource_81 : decode prog_1_method_17_code 81 = .ok (.invokevirtual 197, 3) := by decide +kernel
theorem d_Np_writeSource_84 : decode prog_1_method_17_code 84 = .ok (.iinc 1 1, 3) := by decide +kernel
theorem d_Np_writeSource_87 : decode prog_1_method_17_code 87 = .ok (.goto (-85), 3) := by decide +kernel
theorem d_Np_writeSource_90 : decode prog_1_method_17_code 90 = .ok (.aload_n 0, 1) := by decide +kernel
theorem d_Np_writeSource_91 : decode prog_1_method_17_code 91 = .ok (.getfield 41, 3) := by decide +kernel
theorem d_Np_writeSource_94 : decode prog_1_method_17_code 94 = .ok (.invokevirtual 199, 3) := by decide +kernel
theorem d_Np_writeSource_97 : decode prog_1_method_17_code 97 = .ok (.aload_n 0, 1) := by decide +kernel
theorem d_Np_writeSource_98 : decode prog_1_method_17_code 98 = .ok (.getfield 71, 3) := by decide +kernel
theorem d_Np_writeSource_101 : decode prog_1_method_17_code 101 = .ok (.aload_n 0, 1) := by decide +kernel
theorem d_Np_writeSource_102 : decode prog_1_method_17_code 102 = .ok (.getfield 41, 3) := by decide +kernel
theorem d_Np_writeSource_105 : decode prog_1_method_17_code 105 = .ok (.aload_n 0, 1) := by decide +kernel
theorem d_Np_writeSource_106 : decode prog_1_method_17_code 106 = .ok (.getfield 48, 3) := by decide +kernel
theorem d_Np_writeSource_109 : decode prog_1_method_17_code 109 = .ok (.invokevirtual 194, 3) := by decide +kernel
theorem d_Np_writeSource_112 : decode prog_1_method_17_code 112 = .ok (.return_, 1) := by decide +kernel
theorem d_Np_keepPacking_0 : decode prog_1_method_18_code 0 = .ok (.aload_n 0, 1) := by decide +kernel
theorem d_Np_keepPacking_1 : decode prog_1_method_18_code 1 = .ok (.getfield 18, 3) := by decide +kernel
theorem d_Np_keepPacking_4 : decode prog_1_method_18_code 4 = .ok (.aload_n 1, 1) := by decide +kernel
theorem d_Np_keepPacking_5 : decode prog_1_method_18_code 5 = .ok (.getfield 202, 3) := by decide +kernel
theorem d_Np_keepPacking_8 : decode prog_1_method_18_code 8 = .ok (.aload_n 1, 1) := by decide +kernel
theorem d_Np_keepPacking_9 : decode prog_1_method_18_code 9 = .ok (.getfield 205, 3) := by decide +kernel
theorem d_Np_keepPacking_12 : decode prog_1_method_18_code 12 = .ok (.invokevirtual 186, 3) := by decide +kernel
theorem d_Np_keepPacking_15 : decode prog_1_method_18_code 15 = .ok (.aload_n 1, 1) := by decide +kernel
theorem d_Np_keepPacking_16 : decode prog_1_method_18_code 16 = .ok (.getfield 208, 3) := by decide +kernel
theorem d_Np_keepPacking_19 : decode prog_1_method_18_code 19 = .ok (.getfield 212, 3) := by decide +kernel
theorem d_Np_keepPacking_22 : decode prog_1_method_18_code 22 = .ok (.iconst 0, 1) := by decide +kernel
theorem d_Np_keepPacking_23 : decode prog_1_method_18_code 23 = .ok (.aload_n 0, 1) := by decide +kernel
theorem d_Np_keepPacking_24 : decode prog_1_method_18_code 24 = .ok (.getfield 24, 3) := by decide +kernel
theorem d_Np_keepPacking_27 : decode prog_1_method_18_code 27 = .ok (.iconst 0, 1) := by decide +kernel
theorem d_Np_keepPacking_28 : decode prog_1_method_18_code 28 = .ok (.bipush 72, 2) := by decide +kernel
theorem d_Np_keepPacking_30 : decode prog_1_method_18_code 30 = .ok (.invokestatic 215, 3) := by decide +kernel
theorem d_Np_keepPacking_33 : decode prog_1_method_18_code 33 = .ok (.aload_n 0, 1) := by decide +kernel
theorem d_Np_keepPacking_34 : decode prog_1_method_18_code 34 = .ok (.getfield 31, 3) := by decide +kernel
theorem d_Np_keepPacking_37 : decode prog_1_method_18_code 37 = .ok (.astore_n 2, 1) := by decide +kernel
theorem d_Np_keepPacking_38 : decode prog_1_method_18_code 38 = .ok (.aload_n 0, 1) := by decide +kernel
theorem d_Np_keepPacking_39 : decode prog_1_method_18_code 39 = .ok (.aload_n 0, 1) := by decide +kernel
theorem d_Np_keepPacking_40 : decode prog_1_method_18_code 40 = .ok (.getfield 35, 3) := by decide +kernel
theorem d_Np_keepPacking_43 : decode prog_1_method_18_code 43 = .ok (.putfield 31, 3) := by decide +kernel
theorem d_Np_keepPacking_46 : decode prog_1_method_18_code 46 = .ok (.aload_n 0, 1) := by decide +kernel
theorem d_Np_keepPacking_47 : decode prog_1_method_18_code 47 = .ok (.aload_n 2, 1) := by decide +kernel
theorem d_Np_keepPacking_48 : decode prog_1_method_18_code 48 = .ok (.putfield 35, 3) := by decide +kernel
theorem d_Np_keepPacking_51 : decode prog_1_method_18_code 51 = .ok (.aload_n 0, 1) := by decide +kernel
theorem d_Np_keepPacking_52 : decode prog_1_method_18_code 52 = .ok (.iconst 1, 1) := by decide +kernel
theorem d_Np_keepPacking_53 : decode prog_1_method_18_code 53 = .ok (.putfield 129, 3) := by decide +kernel
theorem d_Np_keepPacking_56 : decode prog_1_method_18_code 56 = .ok (.return_, 1) := by decide +kernel
theorem d_Np_refuseWhatCannotBeTold_0 : decode prog_1_method_19_code 0 = .ok (.aload_n 0, 1) := by decide +kernel
theorem d_Np_refuseWhatCannotBeTold_1 : decode prog_1_method_19_code 1 = .ok (.getfield 41, 3) := by decide +kernel
theorem d_Np_refuseWhatCannotBeTold_4 : decode prog_1_method_19_code 4 = .ok (.getfield 170, 3) := by decide +kernel
theorem d_Np_refuseWhatCannotBeTold_7 : decode prog_1_method_19_code 7 = .ok (.ifCond .eq 33, 3) := by decide +kernel
theorem d_Np_refuseWhatCannotBeTold_10 : decode prog_1_method_19_code 10 = .ok (.aload_n 0, 1) := by decide +kernel
theorem d_Np_refuseWhatCannotBeTold_11 : decode prog_1_method_19_code 11 = .ok (.getfield 41, 3) := by decide +kernel
theorem d_Np_refuseWhatCannotBeTold_14 : decode prog_1_method_19_code 14 = .ok (.getfield 221, 3) := by decide +kernel
theorem d_Np_refuseWhatCannotBeTold_17 : decode prog_1_method_19_code 17 = .ok (.aload_n 0, 1) := by decide +kernel
theorem d_Np_refuseWhatCannotBeTold_18 : decode prog_1_method_19_code 18 = .ok (.getfield 48, 3) := by decide +kernel
theorem d_Np_refuseWhatCannotBeTold_21 : decode prog_1_method_19_code 21 = .ok (.getfield 183, 3) := by decide +kernel
theorem d_Np_refuseWhatCannotBeTold_24 : decode prog_1_method_19_code 24 = .ok (.getfield 121, 3) := by decide +kernel
theorem d_Np_refuseWhatCannotBeTold_27 : decode prog_1_method_19_code 27 = .ok (.if_icmp .le 13, 3) := by decide +kernel
theorem d_Np_refuseWhatCannotBeTold_30 : decode prog_1_method_19_code 30 = .ok (.new 139, 3) := by decide +kernel
theorem d_Np_refuseWhatCannotBeTold_33 : decode prog_1_method_19_code 33 = .ok (.dup, 1) := by decide +kernel
theorem d_Np_refuseWhatCannotBeTold_34 : decode prog_1_method_19_code 34 = .ok (.ldc 224, 2) := by decide +kernel
theorem d_Np_refuseWhatCannotBeTold_36 : decode prog_1_method_19_code 36 = .ok (.invokespecial 143, 3) := by decide +kernel
theorem d_Np_refuseWhatCannotBeTold_39 : decode prog_1_method_19_code 39 = .ok (.athrow, 1) := by decide +kernel
theorem d_Np_refuseWhatCannotBeTold_40 : decode prog_1_method_19_code 40 = .ok (.aload_n 0, 1) := by decide +kernel
theorem d_Np_refuseWhatCannotBeTold_41 : decode prog_1_method_19_code 41 = .ok (.getfield 41, 3) := by decide +kernel
theorem d_Np_refuseWhatCannotBeTold_44 : decode prog_1_method_19_code 44 = .ok (.getfield 226, 3) := by decide +kernel
theorem d_Np_refuseWhatCannotBeTold_47 : decode prog_1_method_19_code 47 = .ok (.bipush 120, 2) := by decide +kernel
theorem d_Np_refuseWhatCannotBeTold_49 : decode prog_1_method_19_code 49 = .ok (.aload_n 0, 1) := by decide +kernel
theorem d_Np_refuseWhatCannotBeTold_50 : decode prog_1_method_19_code 50 = .ok (.getfield 48, 3) := by decide +kernel
theorem d_Np_refuseWhatCannotBeTold_53 : decode prog_1_method_19_code 53 = .ok (.getfield 183, 3) := by decide +kernel
theorem d_Np_refuseWhatCannotBeTold_56 : decode prog_1_method_19_code 56 = .ok (.getfield 121, 3) := by decide +kernel
theorem d_Np_refuseWhatCannotBeTold_59 : decode prog_1_method_19_code 59 = .ok (.isub, 1) := by decide +kernel
theorem d_Np_refuseWhatCannotBeTold_60 : decode prog_1_method_19_code 60 = .ok (.if_icmp .le 13, 3) := by decide +kernel
theorem d_Np_refuseWhatCannotBeTold_63 : decode prog_1_method_19_code 63 = .ok (.new 110, 3) := by decide +kernel
theorem d_Np_refuseWhatCannotBeTold_66 : decode prog_1_method_19_code 66 = .ok (.dup, 1) := by decide +kernel
theorem d_Np_refuseWhatCannotBeTold_67 : decode prog_1_method_19_code 67 = .ok (.ldc 227, 2) := by decide +kernel
theorem d_Np_refuseWhatCannotBeTold_69 : decode prog_1_method_19_code 69 = .ok (.invokespecial 114, 3) := by decide +kernel
theorem d_Np_refuseWhatCannotBeTold_72 : decode prog_1_method_19_code 72 = .ok (.athrow, 1) := by decide +kernel
theorem d_Np_refuseWhatCannotBeTold_73 : decode prog_1_method_19_code 73 = .ok (.return_, 1) := by decide +kernel
theorem d_Mo_init_0 : decode prog_13_method_1_code 0 = .ok (.aload_n 0, 1) := by decide +kernel
theorem d_Mo_init_1 : decode prog_13_method_1_code 1 = .ok (.invokespecial 1, 3) := by decide +kernel
theorem d_Mo_init_4 : decode prog_13_method_1_code 4 = .ok (.aload_n 0, 1) := by decide +kernel
theorem d_Mo_init_5 : decode prog_13_method_1_code 5 = .ok (.bipush 120, 2) := by decide +kernel
theorem d_Mo_init_7 : decode prog_13_method_1_code 7 = .ok (.newarray .int, 2) := by decide +kernel
theorem d_Mo_init_9 : decode prog_13_method_1_code 9 = .ok (.putfield 7, 3) := by decide +kernel
theorem d_Mo_init_12 : decode prog_13_method_1_code 12 = .ok (.aload_n 0, 1) := by decide +kernel
theorem d_Mo_init_13 : decode prog_13_method_1_code 13 = .ok (.sipush 200, 3) := by decide +kernel
theorem d_Mo_init_16 : decode prog_13_method_1_code 16 = .ok (.newarray .int, 2) := by decide +kernel
theorem d_Mo_init_18 : decode prog_13_method_1_code 18 = .ok (.putfield 13, 3) := by decide +kernel
theorem d_Mo_init_21 : decode prog_13_method_1_code 21 = .ok (.aload_n 0, 1) := by decide +kernel
theorem d_Mo_init_22 : decode prog_13_method_1_code 22 = .ok (.bipush 120, 2) := by decide +kernel
theorem d_Mo_init_24 : decode prog_13_method_1_code 24 = .ok (.newarray .int, 2) := by decide +kernel
theorem d_Mo_init_26 : decode prog_13_method_1_code 26 = .ok (.putfield 16, 3) := by decide +kernel
theorem d_Mo_init_29 : decode prog_13_method_1_code 29 = .ok (.aload_n 0, 1) := by decide +kernel
theorem d_Mo_init_30 : decode prog_13_method_1_code 30 = .ok (.bipush 121, 2) := by decide +kernel
theorem d_Mo_init_32 : decode prog_13_method_1_code 32 = .ok (.newarray .int, 2) := by decide +kernel
theorem d_Mo_init_34 : decode prog_13_method_1_code 34 = .ok (.putfield 19, 3) := by decide +kernel
theorem d_Mo_init_37 : decode prog_13_method_1_code 37 = .ok (.aload_n 0, 1) := by decide +kernel
theorem d_Mo_init_38 : decode prog_13_method_1_code 38 = .ok (.bipush 121, 2) := by decide +kernel
theorem d_Mo_init_40 : decode prog_13_method_1_code 40 = .ok (.newarray .int, 2) := by decide +kernel
theorem d_Mo_init_42 : decode prog_13_method_1_code 42 = .ok (.putfield 22, 3) := by decide +kernel
theorem d_Mo_init_45 : decode prog_13_method_1_code 45 = .ok (.aload_n 0, 1) := by decide +kernel
theorem d_Mo_init_46 : decode prog_13_method_1_code 46 = .ok (.bipush 121, 2) := by decide +kernel
theorem d_Mo_init_48 : decode prog_13_method_1_code 48 = .ok (.newarray .int, 2) := by decide +kernel
theorem d_Mo_init_50 : decode prog_13_method_1_code 50 = .ok (.putfield 25, 3) := by decide +kernel
theorem d_Mo_init_53 : decode prog_13_method_1_code 53 = .ok (.aload_n 0, 1) := by decide +kernel
theorem d_Mo_init_54 : decode prog_13_method_1_code 54 = .ok (.bipush 72, 2) := by decide +kernel
theorem d_Mo_init_56 : decode prog_13_method_1_code 56 = .ok (.newarray .int, 2) := by decide +kernel
theorem d_Mo_init_58 : decode prog_13_method_1_code 58 = .ok (.putfield 28, 3) := by decide +kernel
theorem d_Mo_init_61 : decode prog_13_method_1_code 61 = .ok (.aload_n 0, 1) := by decide +kernel
theorem d_Mo_init_62 : decode prog_13_method_1_code 62 = .ok (.sipush 3948, 3) := by decide +kernel
theorem d_Mo_init_65 : decode prog_13_method_1_code 65 = .ok (.newarray .int, 2) := by decide +kernel
theorem d_Mo_init_67 : decode prog_13_method_1_code 67 = .ok (.putfield 31, 3) := by decide +kernel
theorem d_Mo_init_70 : decode prog_13_method_1_code 70 = .ok (.aload_n 0, 1) := by decide +kernel
theorem d_Mo_init_71 : decode prog_13_method_1_code 71 = .ok (.sipush 1600, 3) := by decide +kernel
theorem d_Mo_init_74 : decode prog_13_method_1_code 74 = .ok (.newarray .int, 2) := by decide +kernel
theorem d_Mo_init_76 : decode prog_13_method_1_code 76 = .ok (.putfield 34, 3) := by decide +kernel
theorem d_Mo_init_79 : decode prog_13_method_1_code 79 = .ok (.aload_n 0, 1) := by decide +kernel
theorem d_Mo_init_80 : decode prog_13_method_1_code 80 = .ok (.bipush 120, 2) := by decide +kernel
theorem d_Mo_init_82 : decode prog_13_method_1_code 82 = .ok (.newarray .int, 2) := by decide +kernel
theorem d_Mo_init_84 : decode prog_13_method_1_code 84 = .ok (.putfield 37, 3) := by decide +kernel
theorem d_Mo_init_87 : decode prog_13_method_1_code 87 = .ok (.aload_n 0, 1) := by decide +kernel
theorem d_Mo_init_88 : decode prog_13_method_1_code 88 = .ok (.iconst 4, 1) := by decide +kernel
theorem d_Mo_init_89 : decode prog_13_method_1_code 89 = .ok (.newarray .int, 2) := by decide +kernel
theorem d_Mo_init_91 : decode prog_13_method_1_code 91 = .ok (.putfield 40, 3) := by decide +kernel
theorem d_Mo_init_94 : decode prog_13_method_1_code 94 = .ok (.aload_n 0, 1) := by decide +kernel
theorem d_Mo_init_95 : decode prog_13_method_1_code 95 = .ok (.bipush 121, 2) := by decide +kernel
theorem d_Mo_init_97 : decode prog_13_method_1_code 97 = .ok (.newarray .int, 2) := by decide +kernel
theorem d_Mo_init_99 : decode prog_13_method_1_code 99 = .ok (.putfield 43, 3) := by decide +kernel
theorem d_Mo_init_102 : decode prog_13_method_1_code 102 = .ok (.aload_n 0, 1) := by decide +kernel
theorem d_Mo_init_103 : decode prog_13_method_1_code 103 = .ok (.bipush 121, 2) := by decide +kernel
theorem d_Mo_init_105 : decode prog_13_method_1_code 105 = .ok (.newarray .int, 2) := by decide +kernel
theorem d_Mo_init_107 : decode prog_13_method_1_code 107 = .ok (.putfield 46, 3) := by decide +kernel
theorem d_Mo_init_110 : decode prog_13_method_1_code 110 = .ok (.aload_n 0, 1) := by decide +kernel
theorem d_Mo_init_111 : decode prog_13_method_1_code 111 = .ok (.bipush 121, 2) := by decide +kernel
theorem d_Mo_init_113 : decode prog_13_method_1_code 113 = .ok (.newarray .int, 2) := by decide +kernel
theorem d_Mo_init_115 : decode prog_13_method_1_code 115 = .ok (.putfield 49, 3) := by decide +kernel
theorem d_Mo_init_118 : decode prog_13_method_1_code 118 = .ok (.aload_n 0, 1) := by decide +kernel
theorem d_Mo_init_119 : decode prog_13_method_1_code 119 = .ok (.iload_n 1, 1) := by decide +kernel
theorem d_Mo_init_120 : decode prog_13_method_1_code 120 = .ok (.iconst 1, 1) := by decide +kernel
theorem d_Mo_init_121 : decode prog_13_method_1_code 121 = .ok (.if_icmp .ge 7, 3) := by decide +kernel
theorem d_Mo_init_124 : decode prog_13_method_1_code 124 = .ok (.iconst 1, 1) := by decide +kernel
theorem d_Mo_init_125 : decode prog_13_method_1_code 125 = .ok (.goto 15, 3) := by decide +kernel
theorem d_Mo_init_128 : decode prog_13_method_1_code 128 = .ok (.iload_n 1, 1) := by decide +kernel
theorem d_Mo_init_129 : decode prog_13_method_1_code 129 = .ok (.bipush 16, 2) := by decide +kernel
theorem d_Mo_init_131 : decode prog_13_method_1_code 131 = .ok (.if_icmp .le 8, 3) := by decide +kernel
theorem d_Mo_init_134 : decode prog_13_method_1_code 134 = .ok (.bipush 16, 2) := by decide +kernel
theorem d_Mo_init_136 : decode prog_13_method_1_code 136 = .ok (.goto 4, 3) := by decide +kernel
theorem d_Mo_init_139 : decode prog_13_method_1_code 139 = .ok (.iload_n 1, 1) := by decide +kernel
theorem d_Mo_init_140 : decode prog_13_method_1_code 140 = .ok (.putfield 52, 3) := by decide +kernel
theorem d_Mo_init_143 : decode prog_13_method_1_code 143 = .ok (.return_, 1) := by decide +kernel
theorem d_Mo_thrown_0 : decode prog_13_method_2_code 0 = .ok (.aload_n 0, 1) := by decide +kernel
theorem d_Mo_thrown_1 : decode prog_13_method_2_code 1 = .ok (.getfield 56, 3) := by decide +kernel
theorem d_Mo_thrown_4 : decode prog_13_method_2_code 4 = .ok (.ireturn, 1) := by decide +kernel
theorem d_Mo_isByte_0 : decode prog_13_method_3_code 0 = .ok (.iload_n 0, 1) := by decide +kernel
theorem d_Mo_isByte_1 : decode prog_13_method_3_code 1 = .ok (.ifCond .lt 14, 3) := by decide +kernel
theorem d_Mo_isByte_4 : decode prog_13_method_3_code 4 = .ok (.iload_n 0, 1) := by decide +kernel
theorem d_Mo_isByte_5 : decode prog_13_method_3_code 5 = .ok (.sipush 255, 3) := by decide +kernel
theorem d_Mo_isByte_8 : decode prog_13_method_3_code 8 = .ok (.if_icmp .gt 7, 3) := by decide +kernel
theorem d_Mo_isByte_11 : decode prog_13_method_3_code 11 = .ok (.iconst 1, 1) := by decide +kernel
theorem d_Mo_isByte_12 : decode prog_13_method_3_code 12 = .ok (.goto 4, 3) := by decide +kernel
theorem d_Mo_isByte_15 : decode prog_13_method_3_code 15 = .ok (.iconst 0, 1) := by decide +kernel
theorem d_Mo_isByte_16 : decode prog_13_method_3_code 16 = .ok (.ireturn, 1) := by decide +kernel
theorem d_Mo_type_0 : decode prog_13_method_4_code 0 = .ok (.aload_n 0, 1) := by decide +kernel
theorem d_Mo_type_1 : decode prog_13_method_4_code 1 = .ok (.iconst 0, 1) := by decide +kernel
theorem d_Mo_type_2 : decode prog_13_method_4_code 2 = .ok (.putfield 56, 3) := by decide +kernel
theorem d_Mo_type_5 : decode prog_13_method_4_code 5 = .ok (.iload_n 1, 1) := by decide +kernel
theorem d_Mo_type_6 : decode prog_13_method_4_code 6 = .ok (.invokestatic 59, 3) := by decide +kernel
theorem d_Mo_type_9 : decode prog_13_method_4_code 9 = .ok (.ifCond .eq 12, 3) := by decide +kernel
theorem d_Mo_type_12 : decode prog_13_method_4_code 12 = .ok (.aload_n 0, 1) := by decide +kernel
theorem d_Mo_type_13 : decode prog_13_method_4_code 13 = .ok (.getfield 63, 3) := by decide +kernel
theorem d_Mo_type_16 : decode prog_13_method_4_code 16 = .ok (.bipush 120, 2) := by decide +kernel
theorem d_Mo_type_18 : decode prog_13_method_4_code 18 = .ok (.if_icmp .ne 5, 3) := by decide +kernel
theorem d_Mo_type_21 : decode prog_13_method_4_code 21 = .ok (.iconst 0, 1) := by decide +kernel
theorem d_Mo_type_22 : decode prog_13_method_4_code 22 = .ok (.ireturn, 1) := by decide +kernel
theorem d_Mo_type_23 : decode prog_13_method_4_code 23 = .ok (.aload_n 0, 1) := by decide +kernel
theorem d_Mo_type_24 : decode prog_13_method_4_code 24 = .ok (.getfield 7, 3) := by decide +kernel
theorem d_Mo_type_27 : decode prog_13_method_4_code 27 = .ok (.aload_n 0, 1) := by decide +kernel
theorem d_Mo_type_28 : decode prog_13_method_4_code 28 = .ok (.getfield 63, 3) := by decide +kernel
theorem d_Mo_type_31 : decode prog_13_method_4_code 31 = .ok (.iload_n 1, 1) := by decide +kernel
theorem d_Mo_type_32 : decode prog_13_method_4_code 32 = .ok (.iastore, 1) := by decide +kernel
theorem d_Mo_type_33 : decode prog_13_method_4_code 33 = .ok (.aload_n 0, 1) := by decide +kernel
theorem d_Mo_type_34 : decode prog_13_method_4_code 34 = .ok (.dup, 1) := by decide +kernel
theorem d_Mo_type_35 : decode prog_13_method_4_code 35 = .ok (.getfield 63, 3) := by decide +kernel
theorem d_Mo_type_38 : decode prog_13_method_4_code 38 = .ok (.iconst 1, 1) := by decide +kernel
theorem d_Mo_type_39 : decode prog_13_method_4_code 39 = .ok (.iadd, 1) := by decide +kernel
theorem d_Mo_type_40 : decode prog_13_method_4_code 40 = .ok (.putfield 63, 3) := by decide +kernel
theorem d_Mo_type_43 : decode prog_13_method_4_code 43 = .ok (.iconst 1, 1) := by decide +kernel
theorem d_Mo_type_44 : decode prog_13_method_4_code 44 = .ok (.ireturn, 1) := by decide +kernel
theorem d_Mo_wipe_0 : decode prog_13_method_5_code 0 = .ok (.aload_n 0, 1) := by decide +kernel
theorem d_Mo_wipe_1 : decode prog_13_method_5_code 1 = .ok (.iconst 0, 1) := by decide +kernel
theorem d_Mo_wipe_2 : decode prog_13_method_5_code 2 = .ok (.putfield 56, 3) := by decide +kernel
theorem d_Mo_wipe_5 : decode prog_13_method_5_code 5 = .ok (.aload_n 0, 1) := by decide +kernel
theorem d_Mo_wipe_6 : decode prog_13_method_5_code 6 = .ok (.getfield 63, 3) := by decide +kernel
theorem d_Mo_wipe_9 : decode prog_13_method_5_code 9 = .ok (.istore_n 1, 1) := by decide +kernel
theorem d_Mo_wipe_10 : decode prog_13_method_5_code 10 = .ok (.aload_n 0, 1) := by decide +kernel
theorem d_Mo_wipe_11 : decode prog_13_method_5_code 11 = .ok (.iconst 0, 1) := by decide +kernel
theorem d_Mo_wipe_12 : decode prog_13_method_5_code 12 = .ok (.putfield 63, 3) := by decide +kernel
theorem d_Mo_wipe_15 : decode prog_13_method_5_code 15 = .ok (.iload_n 1, 1) := by decide +kernel
theorem d_Mo_wipe_16 : decode prog_13_method_5_code 16 = .ok (.ireturn, 1) := by decide +kernel
theorem d_Mo_begin_0 : decode prog_13_method_6_code 0 = .ok (.aload_n 0, 1) := by decide +kernel
theorem d_Mo_begin_1 : decode prog_13_method_6_code 1 = .ok (.iload_n 1, 1) := by decide +kernel
theorem d_Mo_begin_2 : decode prog_13_method_6_code 2 = .ok (.putfield 66, 3) := by decide +kernel
theorem d_Mo_begin_5 : decode prog_13_method_6_code 5 = .ok (.aload_n 0, 1) := by decide +kernel
theorem d_Mo_begin_6 : decode prog_13_method_6_code 6 = .ok (.iconst 0, 1) := by decide +kernel
theorem d_Mo_begin_7 : decode prog_13_method_6_code 7 = .ok (.putfield 70, 3) := by decide +kernel
theorem d_Mo_begin_10 : decode prog_13_method_6_code 10 = .ok (.iconst 0, 1) := by decide +kernel
theorem d_Mo_begin_11 : decode prog_13_method_6_code 11 = .ok (.istore_n 2, 1) := by decide +kernel
theorem d_Mo_begin_12 : decode prog_13_method_6_code 12 = .ok (.iload_n 2, 1) := by decide +kernel
theorem d_Mo_begin_13 : decode prog_13_method_6_code 13 = .ok (.sipush 3948, 3) := by decide +kernel
theorem d_Mo_begin_16 : decode prog_13_method_6_code 16 = .ok (.if_icmp .ge 18, 3) := by decide +kernel
theorem d_Mo_begin_19 : decode prog_13_method_6_code 19 = .ok (.aload_n 0, 1) := by decide +kernel
theorem d_Mo_begin_20 : decode prog_13_method_6_code 20 = .ok (.getfield 31, 3) := by decide +kernel
theorem d_Mo_begin_23 : decode prog_13_method_6_code 23 = .ok (.iload_n 2, 1) := by decide +kernel
theorem d_Mo_begin_24 : decode prog_13_method_6_code 24 = .ok (.sipush 1024, 3) := by decide +kernel
theorem d_Mo_begin_27 : decode prog_13_method_6_code 27 = .ok (.iastore, 1) := by decide +kernel
theorem d_Mo_begin_28 : decode prog_13_method_6_code 28 = .ok (.iinc 2 1, 3) := by decide +kernel
theorem d_Mo_begin_31 : decode prog_13_method_6_code 31 = .ok (.goto (-19), 3) := by decide +kernel
theorem d_Mo_begin_34 : decode prog_13_method_6_code 34 = .ok (.aload_n 0, 1) := by decide +kernel
theorem d_Mo_begin_35 : decode prog_13_method_6_code 35 = .ok (.ldc2_w 73, 3) := by decide +kernel
theorem d_Mo_begin_38 : decode prog_13_method_6_code 38 = .ok (.putfield 75, 3) := by decide +kernel
theorem d_Mo_begin_41 : decode prog_13_method_6_code 41 = .ok (.aload_n 0, 1) := by decide +kernel
theorem d_Mo_begin_42 : decode prog_13_method_6_code 42 = .ok (.iconst 0, 1) := by decide +kernel
theorem d_Mo_begin_43 : decode prog_13_method_6_code 43 = .ok (.putfield 79, 3) := by decide +kernel
theorem d_Mo_begin_46 : decode prog_13_method_6_code 46 = .ok (.aload_n 0, 1) := by decide +kernel
theorem d_Mo_begin_47 : decode prog_13_method_6_code 47 = .ok (.iconst 0, 1) := by decide +kernel
theorem d_Mo_begin_48 : decode prog_13_method_6_code 48 = .ok (.putfield 82, 3) := by decide +kernel
theorem d_Mo_begin_51 : decode prog_13_method_6_code 51 = .ok (.aload_n 0, 1) := by decide +kernel
theorem d_Mo_begin_52 : decode prog_13_method_6_code 52 = .ok (.iconst 0, 1) := by decide +kernel
theorem d_Mo_begin_53 : decode prog_13_method_6_code 53 = .ok (.putfield 85, 3) := by decide +kernel
theorem d_Mo_begin_56 : decode prog_13_method_6_code 56 = .ok (.iconst 0, 1) := by decide +kernel
theorem d_Mo_begin_57 : decode prog_13_method_6_code 57 = .ok (.istore_n 2, 1) := by decide +kernel
theorem d_Mo_begin_58 : decode prog_13_method_6_code 58 = .ok (.iload_n 2, 1) := by decide +kernel
theorem d_Mo_begin_59 : decode prog_13_method_6_code 59 = .ok (.iconst 4, 1) := by decide +kernel
theorem d_Mo_begin_60 : decode prog_13_method_6_code 60 = .ok (.if_icmp .ge 23, 3) := by decide +kernel
theorem d_Mo_begin_63 : decode prog_13_method_6_code 63 = .ok (.aload_n 0, 1) := by decide +kernel
theorem d_Mo_begin_64 : decode prog_13_method_6_code 64 = .ok (.getfield 40, 3) := by decide +kernel
theorem d_Mo_begin_67 : decode prog_13_method_6_code 67 = .ok (.iload_n 2, 1) := by decide +kernel
theorem d_Mo_begin_68 : decode prog_13_method_6_code 68 = .ok (.iconst 1, 1) := by decide +kernel
theorem d_Mo_begin_69 : decode prog_13_method_6_code 69 = .ok (.iastore, 1) := by decide +kernel
theorem d_Mo_begin_70 : decode prog_13_method_6_code 70 = .ok (.aload_n 0, 1) := by decide +kernel
theorem d_Mo_begin_71 : decode prog_13_method_6_code 71 = .ok (.getfield 34, 3) := by decide +kernel
theorem d_Mo_begin_74 : decode prog_13_method_6_code 74 = .ok (.iload_n 2, 1) := by decide +kernel
theorem d_Mo_begin_75 : decode prog_13_method_6_code 75 = .ok (.iconst 0, 1) := by decide +kernel
theorem d_Mo_begin_76 : decode prog_13_method_6_code 76 = .ok (.iastore, 1) := by decide +kernel
theorem d_Mo_begin_77 : decode prog_13_method_6_code 77 = .ok (.iinc 2 1, 3) := by decide +kernel
theorem d_Mo_begin_80 : decode prog_13_method_6_code 80 = .ok (.goto (-22), 3) := by decide +kernel
theorem d_Mo_begin_83 : decode prog_13_method_6_code 83 = .ok (.aload_n 0, 1) := by decide +kernel
theorem d_Mo_begin_84 : decode prog_13_method_6_code 84 = .ok (.iconst 4, 1) := by decide +kernel
theorem d_Mo_begin_85 : decode prog_13_method_6_code 85 = .ok (.putfield 88, 3) := by decide +kernel
theorem d_Mo_begin_88 : decode prog_13_method_6_code 88 = .ok (.aload_n 0, 1) := by decide +kernel
theorem d_Mo_begin_89 : decode prog_13_method_6_code 89 = .ok (.lconst 0, 1) := by decide +kernel
theorem d_Mo_begin_90 : decode prog_13_method_6_code 90 = .ok (.putfield 91, 3) := by decide +kernel
theorem d_Mo_begin_93 : decode prog_13_method_6_code 93 = .ok (.aload_n 0, 1) := by decide +kernel
theorem d_Mo_begin_94 : decode prog_13_method_6_code 94 = .ok (.iconst 0, 1) := by decide +kernel
theorem d_Mo_begin_95 : decode prog_13_method_6_code 95 = .ok (.putfield 94, 3) := by decide +kernel
theorem d_Mo_begin_98 : decode prog_13_method_6_code 98 = .ok (.return_, 1) := by decide +kernel
theorem d_Mo_grow_0 : decode prog_13_method_7_code 0 = .ok (.lload_n 1, 1) := by decide +kernel
theorem d_Mo_grow_1 : decode prog_13_method_7_code 1 = .ok (.lstore_n 3, 1) := by decide +kernel
theorem d_Mo_grow_2 : decode prog_13_method_7_code 2 = .ok (.aload_n 0, 1) := by decide +kernel
theorem d_Mo_grow_3 : decode prog_13_method_7_code 3 = .ok (.getfield 88, 3) := by decide +kernel
theorem d_Mo_grow_6 : decode prog_13_method_7_code 6 = .ok (.iconst 1, 1) := by decide +kernel
theorem d_Mo_grow_7 : decode prog_13_method_7_code 7 = .ok (.isub, 1) := by decide +kernel
theorem d_Mo_grow_8 : decode prog_13_method_7_code 8 = .ok (.istore 5, 2) := by decide +kernel
theorem d_Mo_grow_10 : decode prog_13_method_7_code 10 = .ok (.iload 5, 2) := by decide +kernel
theorem d_Mo_grow_12 : decode prog_13_method_7_code 12 = .ok (.ifCond .lt 45, 3) := by decide +kernel
theorem d_Mo_grow_15 : decode prog_13_method_7_code 15 = .ok (.lload_n 3, 1) := by decide +kernel
theorem d_Mo_grow_16 : decode prog_13_method_7_code 16 = .ok (.lconst 0, 1) := by decide +kernel
theorem d_Mo_grow_17 : decode prog_13_method_7_code 17 = .ok (.lcmp, 1) := by decide +kernel
theorem d_Mo_grow_18 : decode prog_13_method_7_code 18 = .ok (.ifCond .le 39, 3) := by decide +kernel
theorem d_Mo_grow_21 : decode prog_13_method_7_code 21 = .ok (.lload_n 3, 1) := by decide +kernel
theorem d_Mo_grow_22 : decode prog_13_method_7_code 22 = .ok (.aload_n 0, 1) := by decide +kernel
theorem d_Mo_grow_23 : decode prog_13_method_7_code 23 = .ok (.getfield 34, 3) := by decide +kernel
theorem d_Mo_grow_26 : decode prog_13_method_7_code 26 = .ok (.iload 5, 2) := by decide +kernel
theorem d_Mo_grow_28 : decode prog_13_method_7_code 28 = .ok (.iaload, 1) := by decide +kernel
theorem d_Mo_grow_29 : decode prog_13_method_7_code 29 = .ok (.i2l, 1) := by decide +kernel
theorem d_Mo_grow_30 : decode prog_13_method_7_code 30 = .ok (.ladd, 1) := by decide +kernel
theorem d_Mo_grow_31 : decode prog_13_method_7_code 31 = .ok (.lstore_n 3, 1) := by decide +kernel
theorem d_Mo_grow_32 : decode prog_13_method_7_code 32 = .ok (.aload_n 0, 1) := by decide +kernel
theorem d_Mo_grow_33 : decode prog_13_method_7_code 33 = .ok (.getfield 34, 3) := by decide +kernel
theorem d_Mo_grow_36 : decode prog_13_method_7_code 36 = .ok (.iload 5, 2) := by decide +kernel
theorem d_Mo_grow_38 : decode prog_13_method_7_code 38 = .ok (.lload_n 3, 1) := by decide +kernel
theorem d_Mo_grow_39 : decode prog_13_method_7_code 39 = .ok (.ldc2_w 97, 3) := by decide +kernel
theorem d_Mo_grow_42 : decode prog_13_method_7_code 42 = .ok (.lrem, 1) := by decide +kernel
theorem d_Mo_grow_43 : decode prog_13_method_7_code 43 = .ok (.l2i, 1) := by decide +kernel
theorem d_Mo_grow_44 : decode prog_13_method_7_code 44 = .ok (.iastore, 1) := by decide +kernel
theorem d_Mo_grow_45 : decode prog_13_method_7_code 45 = .ok (.lload_n 3, 1) := by decide +kernel
theorem d_Mo_grow_46 : decode prog_13_method_7_code 46 = .ok (.ldc2_w 97, 3) := by decide +kernel
theorem d_Mo_grow_49 : decode prog_13_method_7_code 49 = .ok (.ldiv, 1) := by decide +kernel
theorem d_Mo_grow_50 : decode prog_13_method_7_code 50 = .ok (.lstore_n 3, 1) := by decide +kernel
theorem d_Mo_grow_51 : decode prog_13_method_7_code 51 = .ok (.iinc 5 (-1), 3) := by decide +kernel
theorem d_Mo_grow_54 : decode prog_13_method_7_code 54 = .ok (.goto (-44), 3) := by decide +kernel
theorem d_Mo_grow_57 : decode prog_13_method_7_code 57 = .ok (.return_, 1) := by decide +kernel
theorem d_Mo_read_0 : decode prog_13_method_8_code 0 = .ok (.aload_n 0, 1) := by decide +kernel
theorem d_Mo_read_1 : decode prog_13_method_8_code 1 = .ok (.getfield 94, 3) := by decide +kernel
theorem d_Mo_read_4 : decode prog_13_method_8_code 4 = .ok (.aload_n 0, 1) := by decide +kernel
theorem d_Mo_read_5 : decode prog_13_method_8_code 5 = .ok (.getfield 99, 3) := by decide +kernel
theorem d_Mo_read_8 : decode prog_13_method_8_code 8 = .ok (.if_icmp .ne 9, 3) := by decide +kernel
theorem d_Mo_read_11 : decode prog_13_method_8_code 11 = .ok (.aload_n 0, 1) := by decide +kernel
theorem d_Mo_read_12 : decode prog_13_method_8_code 12 = .ok (.iconst 1, 1) := by decide +kernel
theorem d_Mo_read_13 : decode prog_13_method_8_code 13 = .ok (.putfield 70, 3) := by decide +kernel
theorem d_Mo_read_16 : decode prog_13_method_8_code 16 = .ok (.return_, 1) := by decide +kernel
theorem d_Mo_read_17 : decode prog_13_method_8_code 17 = .ok (.aload_n 0, 1) := by decide +kernel
theorem d_Mo_read_18 : decode prog_13_method_8_code 18 = .ok (.ldc2_w 97, 3) := by decide +kernel
theorem d_Mo_read_21 : decode prog_13_method_8_code 21 = .ok (.aload_n 0, 1) := by decide +kernel
theorem d_Mo_read_22 : decode prog_13_method_8_code 22 = .ok (.getfield 91, 3) := by decide +kernel
theorem d_Mo_read_25 : decode prog_13_method_8_code 25 = .ok (.lmul, 1) := by decide +kernel
theorem d_Mo_read_26 : decode prog_13_method_8_code 26 = .ok (.aload_n 0, 1) := by decide +kernel
theorem d_Mo_read_27 : decode prog_13_method_8_code 27 = .ok (.getfield 13, 3) := by decide +kernel
theorem d_Mo_read_30 : decode prog_13_method_8_code 30 = .ok (.aload_n 0, 1) := by decide +kernel
theorem d_Mo_read_31 : decode prog_13_method_8_code 31 = .ok (.getfield 94, 3) := by decide +kernel
theorem d_Mo_read_34 : decode prog_13_method_8_code 34 = .ok (.iaload, 1) := by decide +kernel
theorem d_Mo_read_35 : decode prog_13_method_8_code 35 = .ok (.i2l, 1) := by decide +kernel
theorem d_Mo_read_36 : decode prog_13_method_8_code 36 = .ok (.ladd, 1) := by decide +kernel
theorem d_Mo_read_37 : decode prog_13_method_8_code 37 = .ok (.putfield 91, 3) := by decide +kernel
theorem d_Mo_read_40 : decode prog_13_method_8_code 40 = .ok (.aload_n 0, 1) := by decide +kernel
theorem d_Mo_read_41 : decode prog_13_method_8_code 41 = .ok (.dup, 1) := by decide +kernel
theorem d_Mo_read_42 : decode prog_13_method_8_code 42 = .ok (.getfield 94, 3) := by decide +kernel
theorem d_Mo_read_45 : decode prog_13_method_8_code 45 = .ok (.iconst 1, 1) := by decide +kernel
theorem d_Mo_read_46 : decode prog_13_method_8_code 46 = .ok (.iadd, 1) := by decide +kernel
theorem d_Mo_read_47 : decode prog_13_method_8_code 47 = .ok (.putfield 94, 3) := by decide +kernel
theorem d_Mo_read_50 : decode prog_13_method_8_code 50 = .ok (.return_, 1) := by decide +kernel
theorem d_Mo_widen_0 : decode prog_13_method_9_code 0 = .ok (.aload_n 0, 1) := by decide +kernel
theorem d_Mo_widen_1 : decode prog_13_method_9_code 1 = .ok (.getfield 75, 3) := by decide +kernel
theorem d_Mo_widen_4 : decode prog_13_method_9_code 4 = .ok (.ldc2_w 102, 3) := by decide +kernel
theorem d_Mo_widen_7 : decode prog_13_method_9_code 7 = .ok (.lcmp, 1) := by decide +kernel
theorem d_Mo_widen_8 : decode prog_13_method_9_code 8 = .ok (.ifCond .lt 4, 3) := by decide +kernel
theorem d_Mo_widen_11 : decode prog_13_method_9_code 11 = .ok (.return_, 1) := by decide +kernel
theorem d_Mo_widen_12 : decode prog_13_method_9_code 12 = .ok (.aload_n 0, 1) := by decide +kernel
theorem d_Mo_widen_13 : decode prog_13_method_9_code 13 = .ok (.ldc2_w 97, 3) := by decide +kernel
theorem d_Mo_widen_16 : decode prog_13_method_9_code 16 = .ok (.aload_n 0, 1) := by decide +kernel
theorem d_Mo_widen_17 : decode prog_13_method_9_code 17 = .ok (.getfield 75, 3) := by decide +kernel
theorem d_Mo_widen_20 : decode prog_13_method_9_code 20 = .ok (.lmul, 1) := by decide +kernel
theorem d_Mo_widen_21 : decode prog_13_method_9_code 21 = .ok (.putfield 75, 3) := by decide +kernel
theorem d_Mo_widen_24 : decode prog_13_method_9_code 24 = .ok (.aload_n 0, 1) := by decide +kernel
theorem d_Mo_widen_25 : decode prog_13_method_9_code 25 = .ok (.getfield 66, 3) := by decide +kernel
theorem d_Mo_widen_28 : decode prog_13_method_9_code 28 = .ok (.ifCond .eq 26, 3) := by decide +kernel
theorem d_Mo_widen_31 : decode prog_13_method_9_code 31 = .ok (.aload_n 0, 1) := by decide +kernel
theorem d_Mo_widen_32 : decode prog_13_method_9_code 32 = .ok (.getfield 34, 3) := by decide +kernel
theorem d_Mo_widen_35 : decode prog_13_method_9_code 35 = .ok (.aload_n 0, 1) := by decide +kernel
theorem d_Mo_widen_36 : decode prog_13_method_9_code 36 = .ok (.getfield 88, 3) := by decide +kernel
theorem d_Mo_widen_39 : decode prog_13_method_9_code 39 = .ok (.iconst 0, 1) := by decide +kernel
theorem d_Mo_widen_40 : decode prog_13_method_9_code 40 = .ok (.iastore, 1) := by decide +kernel
theorem d_Mo_widen_41 : decode prog_13_method_9_code 41 = .ok (.aload_n 0, 1) := by decide +kernel
theorem d_Mo_widen_42 : decode prog_13_method_9_code 42 = .ok (.dup, 1) := by decide +kernel
theorem d_Mo_widen_43 : decode prog_13_method_9_code 43 = .ok (.getfield 88, 3) := by decide +kernel
theorem d_Mo_widen_46 : decode prog_13_method_9_code 46 = .ok (.iconst 1, 1) := by decide +kernel
theorem d_Mo_widen_47 : decode prog_13_method_9_code 47 = .ok (.iadd, 1) := by decide +kernel
theorem d_Mo_widen_48 : decode prog_13_method_9_code 48 = .ok (.putfield 88, 3) := by decide +kernel
theorem d_Mo_widen_51 : decode prog_13_method_9_code 51 = .ok (.goto 7, 3) := by decide +kernel
theorem d_Mo_widen_54 : decode prog_13_method_9_code 54 = .ok (.aload_n 0, 1) := by decide +kernel
theorem d_Mo_widen_55 : decode prog_13_method_9_code 55 = .ok (.invokevirtual 104, 3) := by decide +kernel
theorem d_Mo_widen_58 : decode prog_13_method_9_code 58 = .ok (.return_, 1) := by decide +kernel
theorem d_Mo_bit_0 : decode prog_13_method_10_code 0 = .ok (.aload_n 0, 1) := by decide +kernel
theorem d_Mo_bit_1 : decode prog_13_method_10_code 1 = .ok (.getfield 70, 3) := by decide +kernel
theorem d_Mo_bit_4 : decode prog_13_method_10_code 4 = .ok (.ifCond .le 5, 3) := by decide +kernel
theorem d_Mo_bit_7 : decode prog_13_method_10_code 7 = .ok (.iconst 0, 1) := by decide +kernel
theorem d_Mo_bit_8 : decode prog_13_method_10_code 8 = .ok (.ireturn, 1) := by decide +kernel
theorem d_Mo_bit_9 : decode prog_13_method_10_code 9 = .ok (.aload_n 0, 1) := by decide +kernel
theorem d_Mo_bit_10 : decode prog_13_method_10_code 10 = .ok (.getfield 31, 3) := by decide +kernel
theorem d_Mo_bit_13 : decode prog_13_method_10_code 13 = .ok (.iload_n 1, 1) := by decide +kernel
theorem d_Mo_bit_14 : decode prog_13_method_10_code 14 = .ok (.iaload, 1) := by decide +kernel
theorem d_Mo_bit_15 : decode prog_13_method_10_code 15 = .ok (.istore_n 3, 1) := by decide +kernel
theorem d_Mo_bit_16 : decode prog_13_method_10_code 16 = .ok (.aload_n 0, 1) := by decide +kernel
theorem d_Mo_bit_17 : decode prog_13_method_10_code 17 = .ok (.getfield 75, 3) := by decide +kernel
theorem d_Mo_bit_20 : decode prog_13_method_10_code 20 = .ok (.ldc2_w 107, 3) := by decide +kernel
theorem d_Mo_bit_23 : decode prog_13_method_10_code 23 = .ok (.ldiv, 1) := by decide +kernel
theorem d_Mo_bit_24 : decode prog_13_method_10_code 24 = .ok (.iload_n 3, 1) := by decide +kernel
theorem d_Mo_bit_25 : decode prog_13_method_10_code 25 = .ok (.i2l, 1) := by decide +kernel
theorem d_Mo_bit_26 : decode prog_13_method_10_code 26 = .ok (.lmul, 1) := by decide +kernel
theorem d_Mo_bit_27 : decode prog_13_method_10_code 27 = .ok (.lstore 4, 2) := by decide +kernel
theorem d_Mo_bit_29 : decode prog_13_method_10_code 29 = .ok (.aload_n 0, 1) := by decide +kernel
theorem d_Mo_bit_30 : decode prog_13_method_10_code 30 = .ok (.getfield 66, 3) := by decide +kernel
theorem d_Mo_bit_33 : decode prog_13_method_10_code 33 = .ok (.ifCond .eq 7, 3) := by decide +kernel
theorem d_Mo_bit_36 : decode prog_13_method_10_code 36 = .ok (.iload_n 2, 1) := by decide +kernel
theorem d_Mo_bit_37 : decode prog_13_method_10_code 37 = .ok (.goto 18, 3) := by decide +kernel
theorem d_Mo_bit_40 : decode prog_13_method_10_code 40 = .ok (.aload_n 0, 1) := by decide +kernel
theorem d_Mo_bit_41 : decode prog_13_method_10_code 41 = .ok (.getfield 91, 3) := by decide +kernel
theorem d_Mo_bit_44 : decode prog_13_method_10_code 44 = .ok (.lload 4, 2) := by decide +kernel
theorem d_Mo_bit_46 : decode prog_13_method_10_code 46 = .ok (.lcmp, 1) := by decide +kernel
theorem d_Mo_bit_47 : decode prog_13_method_10_code 47 = .ok (.ifCond .ge 7, 3) := by decide +kernel
theorem d_Mo_bit_50 : decode prog_13_method_10_code 50 = .ok (.iconst 0, 1) := by decide +kernel
theorem d_Mo_bit_51 : decode prog_13_method_10_code 51 = .ok (.goto 4, 3) := by decide +kernel
theorem d_Mo_bit_54 : decode prog_13_method_10_code 54 = .ok (.iconst 1, 1) := by decide +kernel
theorem d_Mo_bit_55 : decode prog_13_method_10_code 55 = .ok (.istore 6, 2) := by decide +kernel
theorem d_Mo_bit_57 : decode prog_13_method_10_code 57 = .ok (.iload 6, 2) := by decide +kernel
theorem d_Mo_bit_59 : decode prog_13_method_10_code 59 = .ok (.ifCond .ne 28, 3) := by decide +kernel
theorem d_Mo_bit_62 : decode prog_13_method_10_code 62 = .ok (.aload_n 0, 1) := by decide +kernel
theorem d_Mo_bit_63 : decode prog_13_method_10_code 63 = .ok (.lload 4, 2) := by decide +kernel
theorem d_Mo_bit_65 : decode prog_13_method_10_code 65 = .ok (.putfield 75, 3) := by decide +kernel
theorem d_Mo_bit_68 : decode prog_13_method_10_code 68 = .ok (.aload_n 0, 1) := by decide +kernel
