theorem d_Na_restart_11 : decode prog_7_method_2_code 11 = .ok (.iconst 0, 1) := by decide +kernel
theorem d_Na_restart_12 : decode prog_7_method_2_code 12 = .ok (.invokestatic 25, 3) := by decide +kernel
theorem d_Na_restart_15 : decode prog_7_method_2_code 15 = .ok (.aload_n 0, 1) := by decide +kernel
theorem d_Na_restart_16 : decode prog_7_method_2_code 16 = .ok (.iconst 4, 1) := by decide +kernel
theorem d_Na_restart_17 : decode prog_7_method_2_code 17 = .ok (.putfield 31, 3) := by decide +kernel
theorem d_Na_restart_20 : decode prog_7_method_2_code 20 = .ok (.aload_n 0, 1) := by decide +kernel
theorem d_Na_restart_21 : decode prog_7_method_2_code 21 = .ok (.ldc2_w 35, 3) := by decide +kernel
theorem d_Na_restart_24 : decode prog_7_method_2_code 24 = .ok (.putfield 37, 3) := by decide +kernel
theorem d_Na_restart_27 : decode prog_7_method_2_code 27 = .ok (.return_, 1) := by decide +kernel
theorem d_Na_fits_0 : decode prog_7_method_3_code 0 = .ok (.aload_n 0, 1) := by decide +kernel
theorem d_Na_fits_1 : decode prog_7_method_3_code 1 = .ok (.getfield 31, 3) := by decide +kernel
theorem d_Na_fits_4 : decode prog_7_method_3_code 4 = .ok (.sipush 200, 3) := by decide +kernel
theorem d_Na_fits_7 : decode prog_7_method_3_code 7 = .ok (.if_icmp .gt 7, 3) := by decide +kernel
theorem d_Na_fits_10 : decode prog_7_method_3_code 10 = .ok (.iconst 1, 1) := by decide +kernel
theorem d_Na_fits_11 : decode prog_7_method_3_code 11 = .ok (.goto 4, 3) := by decide +kernel
theorem d_Na_fits_14 : decode prog_7_method_3_code 14 = .ok (.iconst 0, 1) := by decide +kernel
theorem d_Na_fits_15 : decode prog_7_method_3_code 15 = .ok (.ireturn, 1) := by decide +kernel
theorem d_Na_writeBit_0 : decode prog_7_method_4_code 0 = .ok (.aload_n 0, 1) := by decide +kernel
theorem d_Na_writeBit_1 : decode prog_7_method_4_code 1 = .ok (.getfield 12, 3) := by decide +kernel
theorem d_Na_writeBit_4 : decode prog_7_method_4_code 4 = .ok (.aload_n 0, 1) := by decide +kernel
theorem d_Na_writeBit_5 : decode prog_7_method_4_code 5 = .ok (.getfield 37, 3) := by decide +kernel
theorem d_Na_writeBit_8 : decode prog_7_method_4_code 8 = .ok (.iload_n 1, 1) := by decide +kernel
theorem d_Na_writeBit_9 : decode prog_7_method_4_code 9 = .ok (.invokevirtual 41, 3) := by decide +kernel
theorem d_Na_writeBit_12 : decode prog_7_method_4_code 12 = .ok (.lstore_n 3, 1) := by decide +kernel
theorem d_Na_writeBit_13 : decode prog_7_method_4_code 13 = .ok (.iload_n 2, 1) := by decide +kernel
theorem d_Na_writeBit_14 : decode prog_7_method_4_code 14 = .ok (.ifCond .ne 11, 3) := by decide +kernel
theorem d_Na_writeBit_17 : decode prog_7_method_4_code 17 = .ok (.aload_n 0, 1) := by decide +kernel
theorem d_Na_writeBit_18 : decode prog_7_method_4_code 18 = .ok (.lload_n 3, 1) := by decide +kernel
theorem d_Na_writeBit_19 : decode prog_7_method_4_code 19 = .ok (.putfield 37, 3) := by decide +kernel
theorem d_Na_writeBit_22 : decode prog_7_method_4_code 22 = .ok (.goto 18, 3) := by decide +kernel
theorem d_Na_writeBit_25 : decode prog_7_method_4_code 25 = .ok (.aload_n 0, 1) := by decide +kernel
theorem d_Na_writeBit_26 : decode prog_7_method_4_code 26 = .ok (.lload_n 3, 1) := by decide +kernel
theorem d_Na_writeBit_27 : decode prog_7_method_4_code 27 = .ok (.invokevirtual 45, 3) := by decide +kernel
theorem d_Na_writeBit_30 : decode prog_7_method_4_code 30 = .ok (.aload_n 0, 1) := by decide +kernel
theorem d_Na_writeBit_31 : decode prog_7_method_4_code 31 = .ok (.dup, 1) := by decide +kernel
theorem d_Na_writeBit_32 : decode prog_7_method_4_code 32 = .ok (.getfield 37, 3) := by decide +kernel
theorem d_Na_writeBit_35 : decode prog_7_method_4_code 35 = .ok (.lload_n 3, 1) := by decide +kernel
theorem d_Na_writeBit_36 : decode prog_7_method_4_code 36 = .ok (.lsub, 1) := by decide +kernel
theorem d_Na_writeBit_37 : decode prog_7_method_4_code 37 = .ok (.putfield 37, 3) := by decide +kernel
theorem d_Na_writeBit_40 : decode prog_7_method_4_code 40 = .ok (.aload_n 0, 1) := by decide +kernel
theorem d_Na_writeBit_41 : decode prog_7_method_4_code 41 = .ok (.getfield 12, 3) := by decide +kernel
theorem d_Na_writeBit_44 : decode prog_7_method_4_code 44 = .ok (.iload_n 1, 1) := by decide +kernel
theorem d_Na_writeBit_45 : decode prog_7_method_4_code 45 = .ok (.iload_n 2, 1) := by decide +kernel
theorem d_Na_writeBit_46 : decode prog_7_method_4_code 46 = .ok (.invokevirtual 49, 3) := by decide +kernel
theorem d_Na_writeBit_49 : decode prog_7_method_4_code 49 = .ok (.aload_n 0, 1) := by decide +kernel
theorem d_Na_writeBit_50 : decode prog_7_method_4_code 50 = .ok (.getfield 37, 3) := by decide +kernel
theorem d_Na_writeBit_53 : decode prog_7_method_4_code 53 = .ok (.ldc2_w 53, 3) := by decide +kernel
theorem d_Na_writeBit_56 : decode prog_7_method_4_code 56 = .ok (.lcmp, 1) := by decide +kernel
theorem d_Na_writeBit_57 : decode prog_7_method_4_code 57 = .ok (.ifCond .ge 24, 3) := by decide +kernel
theorem d_Na_writeBit_60 : decode prog_7_method_4_code 60 = .ok (.aload_n 0, 1) := by decide +kernel
theorem d_Na_writeBit_61 : decode prog_7_method_4_code 61 = .ok (.dup, 1) := by decide +kernel
theorem d_Na_writeBit_62 : decode prog_7_method_4_code 62 = .ok (.getfield 37, 3) := by decide +kernel
theorem d_Na_writeBit_65 : decode prog_7_method_4_code 65 = .ok (.bipush 8, 2) := by decide +kernel
theorem d_Na_writeBit_67 : decode prog_7_method_4_code 67 = .ok (.lshl, 1) := by decide +kernel
theorem d_Na_writeBit_68 : decode prog_7_method_4_code 68 = .ok (.putfield 37, 3) := by decide +kernel
theorem d_Na_writeBit_71 : decode prog_7_method_4_code 71 = .ok (.aload_n 0, 1) := by decide +kernel
theorem d_Na_writeBit_72 : decode prog_7_method_4_code 72 = .ok (.dup, 1) := by decide +kernel
theorem d_Na_writeBit_73 : decode prog_7_method_4_code 73 = .ok (.getfield 31, 3) := by decide +kernel
theorem d_Na_writeBit_76 : decode prog_7_method_4_code 76 = .ok (.iconst 1, 1) := by decide +kernel
theorem d_Na_writeBit_77 : decode prog_7_method_4_code 77 = .ok (.iadd, 1) := by decide +kernel
theorem d_Na_writeBit_78 : decode prog_7_method_4_code 78 = .ok (.putfield 31, 3) := by decide +kernel
theorem d_Na_writeBit_81 : decode prog_7_method_4_code 81 = .ok (.return_, 1) := by decide +kernel
theorem d_Na_writeTree_0 : decode prog_7_method_5_code 0 = .ok (.iconst 1, 1) := by decide +kernel
theorem d_Na_writeTree_1 : decode prog_7_method_5_code 1 = .ok (.istore 4, 2) := by decide +kernel
theorem d_Na_writeTree_3 : decode prog_7_method_5_code 3 = .ok (.iload_n 2, 1) := by decide +kernel
theorem d_Na_writeTree_4 : decode prog_7_method_5_code 4 = .ok (.iconst 1, 1) := by decide +kernel
theorem d_Na_writeTree_5 : decode prog_7_method_5_code 5 = .ok (.isub, 1) := by decide +kernel
theorem d_Na_writeTree_6 : decode prog_7_method_5_code 6 = .ok (.istore 5, 2) := by decide +kernel
theorem d_Na_writeTree_8 : decode prog_7_method_5_code 8 = .ok (.iload 5, 2) := by decide +kernel
theorem d_Na_writeTree_10 : decode prog_7_method_5_code 10 = .ok (.ifCond .lt 36, 3) := by decide +kernel
theorem d_Na_writeTree_13 : decode prog_7_method_5_code 13 = .ok (.iload_n 3, 1) := by decide +kernel
theorem d_Na_writeTree_14 : decode prog_7_method_5_code 14 = .ok (.iload 5, 2) := by decide +kernel
theorem d_Na_writeTree_16 : decode prog_7_method_5_code 16 = .ok (.ishr, 1) := by decide +kernel
theorem d_Na_writeTree_17 : decode prog_7_method_5_code 17 = .ok (.iconst 1, 1) := by decide +kernel
theorem d_Na_writeTree_18 : decode prog_7_method_5_code 18 = .ok (.iand, 1) := by decide +kernel
theorem d_Na_writeTree_19 : decode prog_7_method_5_code 19 = .ok (.istore 6, 2) := by decide +kernel
theorem d_Na_writeTree_21 : decode prog_7_method_5_code 21 = .ok (.aload_n 0, 1) := by decide +kernel
theorem d_Na_writeTree_22 : decode prog_7_method_5_code 22 = .ok (.iload_n 1, 1) := by decide +kernel
theorem d_Na_writeTree_23 : decode prog_7_method_5_code 23 = .ok (.iload 4, 2) := by decide +kernel
theorem d_Na_writeTree_25 : decode prog_7_method_5_code 25 = .ok (.iadd, 1) := by decide +kernel
theorem d_Na_writeTree_26 : decode prog_7_method_5_code 26 = .ok (.iload 6, 2) := by decide +kernel
theorem d_Na_writeTree_28 : decode prog_7_method_5_code 28 = .ok (.invokevirtual 55, 3) := by decide +kernel
theorem d_Na_writeTree_31 : decode prog_7_method_5_code 31 = .ok (.iconst 2, 1) := by decide +kernel
theorem d_Na_writeTree_32 : decode prog_7_method_5_code 32 = .ok (.iload 4, 2) := by decide +kernel
theorem d_Na_writeTree_34 : decode prog_7_method_5_code 34 = .ok (.imul, 1) := by decide +kernel
theorem d_Na_writeTree_35 : decode prog_7_method_5_code 35 = .ok (.iload 6, 2) := by decide +kernel
theorem d_Na_writeTree_37 : decode prog_7_method_5_code 37 = .ok (.iadd, 1) := by decide +kernel
theorem d_Na_writeTree_38 : decode prog_7_method_5_code 38 = .ok (.istore 4, 2) := by decide +kernel
theorem d_Na_writeTree_40 : decode prog_7_method_5_code 40 = .ok (.iinc 5 (-1), 3) := by decide +kernel
theorem d_Na_writeTree_43 : decode prog_7_method_5_code 43 = .ok (.goto (-35), 3) := by decide +kernel
theorem d_Na_writeTree_46 : decode prog_7_method_5_code 46 = .ok (.return_, 1) := by decide +kernel
theorem d_Na_writeRow_0 : decode prog_7_method_6_code 0 = .ok (.iconst 1, 1) := by decide +kernel
theorem d_Na_writeRow_1 : decode prog_7_method_6_code 1 = .ok (.istore 4, 2) := by decide +kernel
theorem d_Na_writeRow_3 : decode prog_7_method_6_code 3 = .ok (.iconst 0, 1) := by decide +kernel
theorem d_Na_writeRow_4 : decode prog_7_method_6_code 4 = .ok (.istore 5, 2) := by decide +kernel
theorem d_Na_writeRow_6 : decode prog_7_method_6_code 6 = .ok (.iload 5, 2) := by decide +kernel
theorem d_Na_writeRow_8 : decode prog_7_method_6_code 8 = .ok (.iload_n 2, 1) := by decide +kernel
theorem d_Na_writeRow_9 : decode prog_7_method_6_code 9 = .ok (.if_icmp .ge 36, 3) := by decide +kernel
theorem d_Na_writeRow_12 : decode prog_7_method_6_code 12 = .ok (.iload_n 3, 1) := by decide +kernel
theorem d_Na_writeRow_13 : decode prog_7_method_6_code 13 = .ok (.iload 5, 2) := by decide +kernel
theorem d_Na_writeRow_15 : decode prog_7_method_6_code 15 = .ok (.ishr, 1) := by decide +kernel
theorem d_Na_writeRow_16 : decode prog_7_method_6_code 16 = .ok (.iconst 1, 1) := by decide +kernel
theorem d_Na_writeRow_17 : decode prog_7_method_6_code 17 = .ok (.iand, 1) := by decide +kernel
theorem d_Na_writeRow_18 : decode prog_7_method_6_code 18 = .ok (.istore 6, 2) := by decide +kernel
theorem d_Na_writeRow_20 : decode prog_7_method_6_code 20 = .ok (.aload_n 0, 1) := by decide +kernel
theorem d_Na_writeRow_21 : decode prog_7_method_6_code 21 = .ok (.iload_n 1, 1) := by decide +kernel
theorem d_Na_writeRow_22 : decode prog_7_method_6_code 22 = .ok (.iload 4, 2) := by decide +kernel
theorem d_Na_writeRow_24 : decode prog_7_method_6_code 24 = .ok (.iadd, 1) := by decide +kernel
theorem d_Na_writeRow_25 : decode prog_7_method_6_code 25 = .ok (.iload 6, 2) := by decide +kernel
theorem d_Na_writeRow_27 : decode prog_7_method_6_code 27 = .ok (.invokevirtual 55, 3) := by decide +kernel
theorem d_Na_writeRow_30 : decode prog_7_method_6_code 30 = .ok (.iconst 2, 1) := by decide +kernel
theorem d_Na_writeRow_31 : decode prog_7_method_6_code 31 = .ok (.iload 4, 2) := by decide +kernel
theorem d_Na_writeRow_33 : decode prog_7_method_6_code 33 = .ok (.imul, 1) := by decide +kernel
theorem d_Na_writeRow_34 : decode prog_7_method_6_code 34 = .ok (.iload 6, 2) := by decide +kernel
theorem d_Na_writeRow_36 : decode prog_7_method_6_code 36 = .ok (.iadd, 1) := by decide +kernel
theorem d_Na_writeRow_37 : decode prog_7_method_6_code 37 = .ok (.istore 4, 2) := by decide +kernel
theorem d_Na_writeRow_39 : decode prog_7_method_6_code 39 = .ok (.iinc 5 1, 3) := by decide +kernel
theorem d_Na_writeRow_42 : decode prog_7_method_6_code 42 = .ok (.goto (-36), 3) := by decide +kernel
theorem d_Na_writeRow_45 : decode prog_7_method_6_code 45 = .ok (.return_, 1) := by decide +kernel
theorem d_Na_raiseLow_0 : decode prog_7_method_7_code 0 = .ok (.aload_n 0, 1) := by decide +kernel
theorem d_Na_raiseLow_1 : decode prog_7_method_7_code 1 = .ok (.getfield 31, 3) := by decide +kernel
theorem d_Na_raiseLow_4 : decode prog_7_method_7_code 4 = .ok (.sipush 200, 3) := by decide +kernel
theorem d_Na_raiseLow_7 : decode prog_7_method_7_code 7 = .ok (.if_icmp .le 4, 3) := by decide +kernel
theorem d_Na_raiseLow_10 : decode prog_7_method_7_code 10 = .ok (.return_, 1) := by decide +kernel
theorem d_Na_raiseLow_11 : decode prog_7_method_7_code 11 = .ok (.lload_n 1, 1) := by decide +kernel
theorem d_Na_raiseLow_12 : decode prog_7_method_7_code 12 = .ok (.lstore_n 3, 1) := by decide +kernel
theorem d_Na_raiseLow_13 : decode prog_7_method_7_code 13 = .ok (.aload_n 0, 1) := by decide +kernel
theorem d_Na_raiseLow_14 : decode prog_7_method_7_code 14 = .ok (.getfield 31, 3) := by decide +kernel
theorem d_Na_raiseLow_17 : decode prog_7_method_7_code 17 = .ok (.iconst 1, 1) := by decide +kernel
theorem d_Na_raiseLow_18 : decode prog_7_method_7_code 18 = .ok (.isub, 1) := by decide +kernel
theorem d_Na_raiseLow_19 : decode prog_7_method_7_code 19 = .ok (.istore 5, 2) := by decide +kernel
theorem d_Na_raiseLow_21 : decode prog_7_method_7_code 21 = .ok (.iload 5, 2) := by decide +kernel
theorem d_Na_raiseLow_23 : decode prog_7_method_7_code 23 = .ok (.ifCond .lt 44, 3) := by decide +kernel
theorem d_Na_raiseLow_26 : decode prog_7_method_7_code 26 = .ok (.lload_n 3, 1) := by decide +kernel
theorem d_Na_raiseLow_27 : decode prog_7_method_7_code 27 = .ok (.lconst 0, 1) := by decide +kernel
theorem d_Na_raiseLow_28 : decode prog_7_method_7_code 28 = .ok (.lcmp, 1) := by decide +kernel
theorem d_Na_raiseLow_29 : decode prog_7_method_7_code 29 = .ok (.ifCond .le 38, 3) := by decide +kernel
theorem d_Na_raiseLow_32 : decode prog_7_method_7_code 32 = .ok (.lload_n 3, 1) := by decide +kernel
theorem d_Na_raiseLow_33 : decode prog_7_method_7_code 33 = .ok (.aload_n 0, 1) := by decide +kernel
theorem d_Na_raiseLow_34 : decode prog_7_method_7_code 34 = .ok (.getfield 18, 3) := by decide +kernel
theorem d_Na_raiseLow_37 : decode prog_7_method_7_code 37 = .ok (.iload 5, 2) := by decide +kernel
theorem d_Na_raiseLow_39 : decode prog_7_method_7_code 39 = .ok (.iaload, 1) := by decide +kernel
theorem d_Na_raiseLow_40 : decode prog_7_method_7_code 40 = .ok (.i2l, 1) := by decide +kernel
theorem d_Na_raiseLow_41 : decode prog_7_method_7_code 41 = .ok (.ladd, 1) := by decide +kernel
theorem d_Na_raiseLow_42 : decode prog_7_method_7_code 42 = .ok (.lstore_n 3, 1) := by decide +kernel
theorem d_Na_raiseLow_43 : decode prog_7_method_7_code 43 = .ok (.aload_n 0, 1) := by decide +kernel
theorem d_Na_raiseLow_44 : decode prog_7_method_7_code 44 = .ok (.getfield 18, 3) := by decide +kernel
theorem d_Na_raiseLow_47 : decode prog_7_method_7_code 47 = .ok (.iload 5, 2) := by decide +kernel
theorem d_Na_raiseLow_49 : decode prog_7_method_7_code 49 = .ok (.lload_n 3, 1) := by decide +kernel
theorem d_Na_raiseLow_50 : decode prog_7_method_7_code 50 = .ok (.ldc2_w 58, 3) := by decide +kernel
theorem d_Na_raiseLow_53 : decode prog_7_method_7_code 53 = .ok (.land, 1) := by decide +kernel
theorem d_Na_raiseLow_54 : decode prog_7_method_7_code 54 = .ok (.l2i, 1) := by decide +kernel
theorem d_Na_raiseLow_55 : decode prog_7_method_7_code 55 = .ok (.iastore, 1) := by decide +kernel
theorem d_Na_raiseLow_56 : decode prog_7_method_7_code 56 = .ok (.lload_n 3, 1) := by decide +kernel
theorem d_Na_raiseLow_57 : decode prog_7_method_7_code 57 = .ok (.bipush 8, 2) := by decide +kernel
theorem d_Na_raiseLow_59 : decode prog_7_method_7_code 59 = .ok (.lshr, 1) := by decide +kernel
theorem d_Na_raiseLow_60 : decode prog_7_method_7_code 60 = .ok (.lstore_n 3, 1) := by decide +kernel
theorem d_Na_raiseLow_61 : decode prog_7_method_7_code 61 = .ok (.iinc 5 (-1), 3) := by decide +kernel
theorem d_Na_raiseLow_64 : decode prog_7_method_7_code 64 = .ok (.goto (-43), 3) := by decide +kernel
theorem d_Na_raiseLow_67 : decode prog_7_method_7_code 67 = .ok (.return_, 1) := by decide +kernel
theorem d_Pa_init_0 : decode prog_8_method_1_code 0 = .ok (.aload_n 0, 1) := by decide +kernel
theorem d_Pa_init_1 : decode prog_8_method_1_code 1 = .ok (.invokespecial 3, 3) := by decide +kernel
theorem d_Pa_init_4 : decode prog_8_method_1_code 4 = .ok (.return_, 1) := by decide +kernel
theorem d_Pa_becomeLiteral_0 : decode prog_8_method_2_code 0 = .ok (.aload_n 0, 1) := by decide +kernel
theorem d_Pa_becomeLiteral_1 : decode prog_8_method_2_code 1 = .ok (.iconst 0, 1) := by decide +kernel
theorem d_Pa_becomeLiteral_2 : decode prog_8_method_2_code 2 = .ok (.iconst 1, 1) := by decide +kernel
theorem d_Pa_becomeLiteral_3 : decode prog_8_method_2_code 3 = .ok (.iconst 0, 1) := by decide +kernel
theorem d_Pa_becomeLiteral_4 : decode prog_8_method_2_code 4 = .ok (.invokevirtual 9, 3) := by decide +kernel
theorem d_Pa_becomeLiteral_7 : decode prog_8_method_2_code 7 = .ok (.aload_n 0, 1) := by decide +kernel
theorem d_Pa_becomeLiteral_8 : decode prog_8_method_2_code 8 = .ok (.iload_n 1, 1) := by decide +kernel
theorem d_Pa_becomeLiteral_9 : decode prog_8_method_2_code 9 = .ok (.putfield 15, 3) := by decide +kernel
theorem d_Pa_becomeLiteral_12 : decode prog_8_method_2_code 12 = .ok (.return_, 1) := by decide +kernel
theorem d_Pa_becomeMatch_0 : decode prog_8_method_3_code 0 = .ok (.aload_n 0, 1) := by decide +kernel
theorem d_Pa_becomeMatch_1 : decode prog_8_method_3_code 1 = .ok (.iconst 1, 1) := by decide +kernel
theorem d_Pa_becomeMatch_2 : decode prog_8_method_3_code 2 = .ok (.iload_n 1, 1) := by decide +kernel
theorem d_Pa_becomeMatch_3 : decode prog_8_method_3_code 3 = .ok (.iload_n 2, 1) := by decide +kernel
theorem d_Pa_becomeMatch_4 : decode prog_8_method_3_code 4 = .ok (.invokevirtual 9, 3) := by decide +kernel
theorem d_Pa_becomeMatch_7 : decode prog_8_method_3_code 7 = .ok (.return_, 1) := by decide +kernel
theorem d_Pa_becomeEcho_0 : decode prog_8_method_4_code 0 = .ok (.aload_n 0, 1) := by decide +kernel
theorem d_Pa_becomeEcho_1 : decode prog_8_method_4_code 1 = .ok (.iconst 2, 1) := by decide +kernel
theorem d_Pa_becomeEcho_2 : decode prog_8_method_4_code 2 = .ok (.iload_n 2, 1) := by decide +kernel
theorem d_Pa_becomeEcho_3 : decode prog_8_method_4_code 3 = .ok (.iload_n 3, 1) := by decide +kernel
theorem d_Pa_becomeEcho_4 : decode prog_8_method_4_code 4 = .ok (.invokevirtual 9, 3) := by decide +kernel
theorem d_Pa_becomeEcho_7 : decode prog_8_method_4_code 7 = .ok (.aload_n 0, 1) := by decide +kernel
theorem d_Pa_becomeEcho_8 : decode prog_8_method_4_code 8 = .ok (.iload_n 1, 1) := by decide +kernel
theorem d_Pa_becomeEcho_9 : decode prog_8_method_4_code 9 = .ok (.putfield 19, 3) := by decide +kernel
theorem d_Pa_becomeEcho_12 : decode prog_8_method_4_code 12 = .ok (.return_, 1) := by decide +kernel
theorem d_Pa_becomeShort_0 : decode prog_8_method_5_code 0 = .ok (.aload_n 0, 1) := by decide +kernel
theorem d_Pa_becomeShort_1 : decode prog_8_method_5_code 1 = .ok (.iconst 3, 1) := by decide +kernel
theorem d_Pa_becomeShort_2 : decode prog_8_method_5_code 2 = .ok (.iconst 1, 1) := by decide +kernel
theorem d_Pa_becomeShort_3 : decode prog_8_method_5_code 3 = .ok (.iload_n 1, 1) := by decide +kernel
theorem d_Pa_becomeShort_4 : decode prog_8_method_5_code 4 = .ok (.invokevirtual 9, 3) := by decide +kernel
theorem d_Pa_becomeShort_7 : decode prog_8_method_5_code 7 = .ok (.return_, 1) := by decide +kernel
theorem d_Pa_becomeEnd_0 : decode prog_8_method_6_code 0 = .ok (.aload_n 0, 1) := by decide +kernel
theorem d_Pa_becomeEnd_1 : decode prog_8_method_6_code 1 = .ok (.iconst 4, 1) := by decide +kernel
theorem d_Pa_becomeEnd_2 : decode prog_8_method_6_code 2 = .ok (.iconst 0, 1) := by decide +kernel
theorem d_Pa_becomeEnd_3 : decode prog_8_method_6_code 3 = .ok (.iconst 0, 1) := by decide +kernel
theorem d_Pa_becomeEnd_4 : decode prog_8_method_6_code 4 = .ok (.invokevirtual 9, 3) := by decide +kernel
theorem d_Pa_becomeEnd_7 : decode prog_8_method_6_code 7 = .ok (.return_, 1) := by decide +kernel
theorem d_Pa_become_0 : decode prog_8_method_7_code 0 = .ok (.aload_n 0, 1) := by decide +kernel
theorem d_Pa_become_1 : decode prog_8_method_7_code 1 = .ok (.iload_n 1, 1) := by decide +kernel
theorem d_Pa_become_2 : decode prog_8_method_7_code 2 = .ok (.putfield 22, 3) := by decide +kernel
theorem d_Pa_become_5 : decode prog_8_method_7_code 5 = .ok (.aload_n 0, 1) := by decide +kernel
theorem d_Pa_become_6 : decode prog_8_method_7_code 6 = .ok (.iload_n 2, 1) := by decide +kernel
theorem d_Pa_become_7 : decode prog_8_method_7_code 7 = .ok (.putfield 25, 3) := by decide +kernel
theorem d_Pa_become_10 : decode prog_8_method_7_code 10 = .ok (.aload_n 0, 1) := by decide +kernel
theorem d_Pa_become_11 : decode prog_8_method_7_code 11 = .ok (.iload_n 3, 1) := by decide +kernel
theorem d_Pa_become_12 : decode prog_8_method_7_code 12 = .ok (.putfield 28, 3) := by decide +kernel
theorem d_Pa_become_15 : decode prog_8_method_7_code 15 = .ok (.return_, 1) := by decide +kernel
theorem d_Pl_init_0 : decode prog_9_method_1_code 0 = .ok (.aload_n 0, 1) := by decide +kernel
theorem d_Pl_init_1 : decode prog_9_method_1_code 1 = .ok (.invokespecial 3, 3) := by decide +kernel
theorem d_Pl_init_4 : decode prog_9_method_1_code 4 = .ok (.aload_n 0, 1) := by decide +kernel
theorem d_Pl_init_5 : decode prog_9_method_1_code 5 = .ok (.bipush 120, 2) := by decide +kernel
theorem d_Pl_init_7 : decode prog_9_method_1_code 7 = .ok (.newarray .int, 2) := by decide +kernel
theorem d_Pl_init_9 : decode prog_9_method_1_code 9 = .ok (.putfield 9, 3) := by decide +kernel
theorem d_Pl_init_12 : decode prog_9_method_1_code 12 = .ok (.aload_n 0, 1) := by decide +kernel
theorem d_Pl_init_13 : decode prog_9_method_1_code 13 = .ok (.bipush 120, 2) := by decide +kernel
theorem d_Pl_init_15 : decode prog_9_method_1_code 15 = .ok (.newarray .int, 2) := by decide +kernel
theorem d_Pl_init_17 : decode prog_9_method_1_code 17 = .ok (.putfield 15, 3) := by decide +kernel
theorem d_Pl_init_20 : decode prog_9_method_1_code 20 = .ok (.aload_n 0, 1) := by decide +kernel
theorem d_Pl_init_21 : decode prog_9_method_1_code 21 = .ok (.bipush 120, 2) := by decide +kernel
theorem d_Pl_init_23 : decode prog_9_method_1_code 23 = .ok (.newarray .int, 2) := by decide +kernel
theorem d_Pl_init_25 : decode prog_9_method_1_code 25 = .ok (.putfield 18, 3) := by decide +kernel
theorem d_Pl_init_28 : decode prog_9_method_1_code 28 = .ok (.return_, 1) := by decide +kernel
theorem d_Pl_clear_0 : decode prog_9_method_2_code 0 = .ok (.aload_n 0, 1) := by decide +kernel
theorem d_Pl_clear_1 : decode prog_9_method_2_code 1 = .ok (.iconst 0, 1) := by decide +kernel
theorem d_Pl_clear_2 : decode prog_9_method_2_code 2 = .ok (.putfield 21, 3) := by decide +kernel
theorem d_Pl_clear_5 : decode prog_9_method_2_code 5 = .ok (.return_, 1) := by decide +kernel
theorem d_Pl_append_0 : decode prog_9_method_3_code 0 = .ok (.aload_n 0, 1) := by decide +kernel
theorem d_Pl_append_1 : decode prog_9_method_3_code 1 = .ok (.getfield 21, 3) := by decide +kernel
theorem d_Pl_append_4 : decode prog_9_method_3_code 4 = .ok (.bipush 120, 2) := by decide +kernel
theorem d_Pl_append_6 : decode prog_9_method_3_code 6 = .ok (.if_icmp .ge 66, 3) := by decide +kernel
theorem d_Pl_append_9 : decode prog_9_method_3_code 9 = .ok (.aload_n 0, 1) := by decide +kernel
theorem d_Pl_append_10 : decode prog_9_method_3_code 10 = .ok (.getfield 9, 3) := by decide +kernel
theorem d_Pl_append_13 : decode prog_9_method_3_code 13 = .ok (.aload_n 0, 1) := by decide +kernel
theorem d_Pl_append_14 : decode prog_9_method_3_code 14 = .ok (.getfield 21, 3) := by decide +kernel
theorem d_Pl_append_17 : decode prog_9_method_3_code 17 = .ok (.aload_n 1, 1) := by decide +kernel
theorem d_Pl_append_18 : decode prog_9_method_3_code 18 = .ok (.getfield 25, 3) := by decide +kernel
theorem d_Pl_append_21 : decode prog_9_method_3_code 21 = .ok (.iastore, 1) := by decide +kernel
theorem d_Pl_append_22 : decode prog_9_method_3_code 22 = .ok (.aload_n 0, 1) := by decide +kernel
theorem d_Pl_append_23 : decode prog_9_method_3_code 23 = .ok (.getfield 15, 3) := by decide +kernel
theorem d_Pl_append_26 : decode prog_9_method_3_code 26 = .ok (.aload_n 0, 1) := by decide +kernel
theorem d_Pl_append_27 : decode prog_9_method_3_code 27 = .ok (.getfield 21, 3) := by decide +kernel
theorem d_Pl_append_30 : decode prog_9_method_3_code 30 = .ok (.aload_n 1, 1) := by decide +kernel
theorem d_Pl_append_31 : decode prog_9_method_3_code 31 = .ok (.getfield 30, 3) := by decide +kernel
theorem d_Pl_append_34 : decode prog_9_method_3_code 34 = .ok (.iastore, 1) := by decide +kernel
theorem d_Pl_append_35 : decode prog_9_method_3_code 35 = .ok (.aload_n 0, 1) := by decide +kernel
theorem d_Pl_append_36 : decode prog_9_method_3_code 36 = .ok (.getfield 18, 3) := by decide +kernel
theorem d_Pl_append_39 : decode prog_9_method_3_code 39 = .ok (.aload_n 0, 1) := by decide +kernel
theorem d_Pl_append_40 : decode prog_9_method_3_code 40 = .ok (.getfield 21, 3) := by decide +kernel
theorem d_Pl_append_43 : decode prog_9_method_3_code 43 = .ok (.aload_n 1, 1) := by decide +kernel
theorem d_Pl_append_44 : decode prog_9_method_3_code 44 = .ok (.getfield 25, 3) := by decide +kernel
theorem d_Pl_append_47 : decode prog_9_method_3_code 47 = .ok (.ifCond .ne 10, 3) := by decide +kernel
theorem d_Pl_append_50 : decode prog_9_method_3_code 50 = .ok (.aload_n 1, 1) := by decide +kernel
theorem d_Pl_append_51 : decode prog_9_method_3_code 51 = .ok (.getfield 33, 3) := by decide +kernel
theorem d_Pl_append_54 : decode prog_9_method_3_code 54 = .ok (.goto 7, 3) := by decide +kernel
theorem d_Pl_append_57 : decode prog_9_method_3_code 57 = .ok (.aload_n 1, 1) := by decide +kernel
theorem d_Pl_append_58 : decode prog_9_method_3_code 58 = .ok (.getfield 36, 3) := by decide +kernel
theorem d_Pl_append_61 : decode prog_9_method_3_code 61 = .ok (.iastore, 1) := by decide +kernel
theorem d_Pl_append_62 : decode prog_9_method_3_code 62 = .ok (.aload_n 0, 1) := by decide +kernel
theorem d_Pl_append_63 : decode prog_9_method_3_code 63 = .ok (.dup, 1) := by decide +kernel
theorem d_Pl_append_64 : decode prog_9_method_3_code 64 = .ok (.getfield 21, 3) := by decide +kernel
theorem d_Pl_append_67 : decode prog_9_method_3_code 67 = .ok (.iconst 1, 1) := by decide +kernel
theorem d_Pl_append_68 : decode prog_9_method_3_code 68 = .ok (.iadd, 1) := by decide +kernel
theorem d_Pl_append_69 : decode prog_9_method_3_code 69 = .ok (.putfield 21, 3) := by decide +kernel
theorem d_Pl_append_72 : decode prog_9_method_3_code 72 = .ok (.return_, 1) := by decide +kernel
theorem d_Pl_tellOf_0 : decode prog_9_method_4_code 0 = .ok (.iload_n 1, 1) := by decide +kernel
theorem d_Pl_tellOf_1 : decode prog_9_method_4_code 1 = .ok (.ifCond .lt 11, 3) := by decide +kernel
theorem d_Pl_tellOf_4 : decode prog_9_method_4_code 4 = .ok (.iload_n 1, 1) := by decide +kernel
theorem d_Pl_tellOf_5 : decode prog_9_method_4_code 5 = .ok (.aload_n 0, 1) := by decide +kernel
theorem d_Pl_tellOf_6 : decode prog_9_method_4_code 6 = .ok (.getfield 21, 3) := by decide +kernel
theorem d_Pl_tellOf_9 : decode prog_9_method_4_code 9 = .ok (.if_icmp .lt 5, 3) := by decide +kernel
theorem d_Pl_tellOf_12 : decode prog_9_method_4_code 12 = .ok (.iconst (-1), 1) := by decide +kernel
theorem d_Pl_tellOf_13 : decode prog_9_method_4_code 13 = .ok (.ireturn, 1) := by decide +kernel
theorem d_Pl_tellOf_14 : decode prog_9_method_4_code 14 = .ok (.iload_n 2, 1) := by decide +kernel
theorem d_Pl_tellOf_15 : decode prog_9_method_4_code 15 = .ok (.tableswitch 46 0 2 #[25, 32, 39], 25) := by decide +kernel
theorem d_Pl_tellOf_40 : decode prog_9_method_4_code 40 = .ok (.aload_n 0, 1) := by decide +kernel
theorem d_Pl_tellOf_41 : decode prog_9_method_4_code 41 = .ok (.getfield 9, 3) := by decide +kernel
theorem d_Pl_tellOf_44 : decode prog_9_method_4_code 44 = .ok (.iload_n 1, 1) := by decide +kernel
theorem d_Pl_tellOf_45 : decode prog_9_method_4_code 45 = .ok (.iaload, 1) := by decide +kernel
theorem d_Pl_tellOf_46 : decode prog_9_method_4_code 46 = .ok (.ireturn, 1) := by decide +kernel
theorem d_Pl_tellOf_47 : decode prog_9_method_4_code 47 = .ok (.aload_n 0, 1) := by decide +kernel
theorem d_Pl_tellOf_48 : decode prog_9_method_4_code 48 = .ok (.getfield 15, 3) := by decide +kernel
theorem d_Pl_tellOf_51 : decode prog_9_method_4_code 51 = .ok (.iload_n 1, 1) := by decide +kernel
theorem d_Pl_tellOf_52 : decode prog_9_method_4_code 52 = .ok (.iaload, 1) := by decide +kernel
theorem d_Pl_tellOf_53 : decode prog_9_method_4_code 53 = .ok (.ireturn, 1) := by decide +kernel
theorem d_Pl_tellOf_54 : decode prog_9_method_4_code 54 = .ok (.aload_n 0, 1) := by decide +kernel
theorem d_Pl_tellOf_55 : decode prog_9_method_4_code 55 = .ok (.getfield 18, 3) := by decide +kernel
theorem d_Pl_tellOf_58 : decode prog_9_method_4_code 58 = .ok (.iload_n 1, 1) := by decide +kernel
theorem d_Pl_tellOf_59 : decode prog_9_method_4_code 59 = .ok (.iaload, 1) := by decide +kernel
theorem d_Pl_tellOf_60 : decode prog_9_method_4_code 60 = .ok (.ireturn, 1) := by decide +kernel
theorem d_Pl_tellOf_61 : decode prog_9_method_4_code 61 = .ok (.iconst (-1), 1) := by decide +kernel
theorem d_Pl_tellOf_62 : decode prog_9_method_4_code 62 = .ok (.ireturn, 1) := by decide +kernel
theorem d_Re_init_0 : decode prog_10_method_1_code 0 = .ok (.aload_n 0, 1) := by decide +kernel
theorem d_Re_init_1 : decode prog_10_method_1_code 1 = .ok (.invokespecial 3, 3) := by decide +kernel
theorem d_Re_init_4 : decode prog_10_method_1_code 4 = .ok (.aload_n 0, 1) := by decide +kernel
theorem d_Re_init_5 : decode prog_10_method_1_code 5 = .ok (.new 9, 3) := by decide +kernel
theorem d_Re_init_8 : decode prog_10_method_1_code 8 = .ok (.dup, 1) := by decide +kernel
theorem d_Re_init_9 : decode prog_10_method_1_code 9 = .ok (.invokespecial 11, 3) := by decide +kernel
theorem d_Re_init_12 : decode prog_10_method_1_code 12 = .ok (.putfield 12, 3) := by decide +kernel
theorem d_Re_init_15 : decode prog_10_method_1_code 15 = .ok (.return_, 1) := by decide +kernel
theorem d_Re_readPacket_0 : decode prog_10_method_2_code 0 = .ok (.aload_n 2, 1) := by decide +kernel
theorem d_Re_readPacket_1 : decode prog_10_method_2_code 1 = .ok (.getfield 18, 3) := by decide +kernel
theorem d_Re_readPacket_4 : decode prog_10_method_2_code 4 = .ok (.istore_n 3, 1) := by decide +kernel
theorem d_Re_readPacket_5 : decode prog_10_method_2_code 5 = .ok (.aload_n 0, 1) := by decide +kernel
theorem d_Re_readPacket_6 : decode prog_10_method_2_code 6 = .ok (.getfield 12, 3) := by decide +kernel
theorem d_Re_readPacket_9 : decode prog_10_method_2_code 9 = .ok (.iconst 0, 1) := by decide +kernel
theorem d_Re_readPacket_10 : decode prog_10_method_2_code 10 = .ok (.iload_n 3, 1) := by decide +kernel
theorem d_Re_readPacket_11 : decode prog_10_method_2_code 11 = .ok (.iadd, 1) := by decide +kernel
theorem d_Re_readPacket_12 : decode prog_10_method_2_code 12 = .ok (.invokevirtual 24, 3) := by decide +kernel
theorem d_Re_readPacket_15 : decode prog_10_method_2_code 15 = .ok (.ifCond .ne 15, 3) := by decide +kernel
theorem d_Re_readPacket_18 : decode prog_10_method_2_code 18 = .ok (.aload_n 1, 1) := by decide +kernel
theorem d_Re_readPacket_19 : decode prog_10_method_2_code 19 = .ok (.aload_n 0, 1) := by decide +kernel
theorem d_Re_readPacket_20 : decode prog_10_method_2_code 20 = .ok (.aload_n 2, 1) := by decide +kernel
theorem d_Re_readPacket_21 : decode prog_10_method_2_code 21 = .ok (.invokevirtual 28, 3) := by decide +kernel
theorem d_Re_readPacket_24 : decode prog_10_method_2_code 24 = .ok (.invokevirtual 32, 3) := by decide +kernel
theorem d_Re_readPacket_27 : decode prog_10_method_2_code 27 = .ok (.goto 35, 3) := by decide +kernel
theorem d_Re_readPacket_30 : decode prog_10_method_2_code 30 = .ok (.aload_n 0, 1) := by decide +kernel
theorem d_Re_readPacket_31 : decode prog_10_method_2_code 31 = .ok (.getfield 12, 3) := by decide +kernel
theorem d_Re_readPacket_34 : decode prog_10_method_2_code 34 = .ok (.bipush 12, 2) := by decide +kernel
theorem d_Re_readPacket_36 : decode prog_10_method_2_code 36 = .ok (.iload_n 3, 1) := by decide +kernel
theorem d_Re_readPacket_37 : decode prog_10_method_2_code 37 = .ok (.iadd, 1) := by decide +kernel
theorem d_Re_readPacket_38 : decode prog_10_method_2_code 38 = .ok (.invokevirtual 24, 3) := by decide +kernel
theorem d_Re_readPacket_41 : decode prog_10_method_2_code 41 = .ok (.ifCond .ne 11, 3) := by decide +kernel
theorem d_Re_readPacket_44 : decode prog_10_method_2_code 44 = .ok (.aload_n 0, 1) := by decide +kernel
theorem d_Re_readPacket_45 : decode prog_10_method_2_code 45 = .ok (.aload_n 1, 1) := by decide +kernel
theorem d_Re_readPacket_46 : decode prog_10_method_2_code 46 = .ok (.invokevirtual 38, 3) := by decide +kernel
theorem d_Re_readPacket_49 : decode prog_10_method_2_code 49 = .ok (.goto 13, 3) := by decide +kernel
theorem d_Re_readPacket_52 : decode prog_10_method_2_code 52 = .ok (.aload_n 0, 1) := by decide +kernel
theorem d_Re_readPacket_53 : decode prog_10_method_2_code 53 = .ok (.aload_n 1, 1) := by decide +kernel
theorem d_Re_readPacket_54 : decode prog_10_method_2_code 54 = .ok (.iload_n 3, 1) := by decide +kernel
theorem d_Re_readPacket_55 : decode prog_10_method_2_code 55 = .ok (.aload_n 2, 1) := by decide +kernel
theorem d_Re_readPacket_56 : decode prog_10_method_2_code 56 = .ok (.getfield 42, 3) := by decide +kernel
theorem d_Re_readPacket_59 : decode prog_10_method_2_code 59 = .ok (.invokevirtual 46, 3) := by decide +kernel
theorem d_Re_readPacket_62 : decode prog_10_method_2_code 62 = .ok (.return_, 1) := by decide +kernel
theorem d_Re_readLiteral_0 : decode prog_10_method_3_code 0 = .ok (.aload_n 1, 1) := by decide +kernel
theorem d_Re_readLiteral_1 : decode prog_10_method_3_code 1 = .ok (.invokevirtual 50, 3) := by decide +kernel
theorem d_Re_readLiteral_4 : decode prog_10_method_3_code 4 = .ok (.istore_n 2, 1) := by decide +kernel
theorem d_Re_readLiteral_5 : decode prog_10_method_3_code 5 = .ok (.aload_n 1, 1) := by decide +kernel
theorem d_Re_readLiteral_6 : decode prog_10_method_3_code 6 = .ok (.aload_n 1, 1) := by decide +kernel
theorem d_Re_readLiteral_7 : decode prog_10_method_3_code 7 = .ok (.getfield 42, 3) := by decide +kernel
theorem d_Re_readLiteral_10 : decode prog_10_method_3_code 10 = .ok (.iconst 0, 1) := by decide +kernel
theorem d_Re_readLiteral_11 : decode prog_10_method_3_code 11 = .ok (.iaload, 1) := by decide +kernel
theorem d_Re_readLiteral_12 : decode prog_10_method_3_code 12 = .ok (.invokevirtual 54, 3) := by decide +kernel
theorem d_Re_readLiteral_15 : decode prog_10_method_3_code 15 = .ok (.istore_n 3, 1) := by decide +kernel
theorem d_Re_readLiteral_16 : decode prog_10_method_3_code 16 = .ok (.aload_n 1, 1) := by decide +kernel
theorem d_Re_readLiteral_17 : decode prog_10_method_3_code 17 = .ok (.invokevirtual 57, 3) := by decide +kernel
theorem d_Re_readLiteral_20 : decode prog_10_method_3_code 20 = .ok (.istore 4, 2) := by decide +kernel
theorem d_Re_readLiteral_22 : decode prog_10_method_3_code 22 = .ok (.iconst 1, 1) := by decide +kernel
theorem d_Re_readLiteral_23 : decode prog_10_method_3_code 23 = .ok (.istore 5, 2) := by decide +kernel
theorem d_Re_readLiteral_25 : decode prog_10_method_3_code 25 = .ok (.bipush 7, 2) := by decide +kernel
theorem d_Re_readLiteral_27 : decode prog_10_method_3_code 27 = .ok (.istore 6, 2) := by decide +kernel
theorem d_Re_readLiteral_29 : decode prog_10_method_3_code 29 = .ok (.iload 6, 2) := by decide +kernel
theorem d_Re_readLiteral_31 : decode prog_10_method_3_code 31 = .ok (.ifCond .lt 80, 3) := by decide +kernel
theorem d_Re_readLiteral_34 : decode prog_10_method_3_code 34 = .ok (.iload_n 3, 1) := by decide +kernel
theorem d_Re_readLiteral_35 : decode prog_10_method_3_code 35 = .ok (.iload 6, 2) := by decide +kernel
theorem d_Re_readLiteral_37 : decode prog_10_method_3_code 37 = .ok (.ishr, 1) := by decide +kernel
theorem d_Re_readLiteral_38 : decode prog_10_method_3_code 38 = .ok (.iconst 1, 1) := by decide +kernel
theorem d_Re_readLiteral_39 : decode prog_10_method_3_code 39 = .ok (.iand, 1) := by decide +kernel
theorem d_Re_readLiteral_40 : decode prog_10_method_3_code 40 = .ok (.istore 7, 2) := by decide +kernel
theorem d_Re_readLiteral_42 : decode prog_10_method_3_code 42 = .ok (.iload 4, 2) := by decide +kernel
theorem d_Re_readLiteral_44 : decode prog_10_method_3_code 44 = .ok (.ifCond .eq 10, 3) := by decide +kernel
theorem d_Re_readLiteral_47 : decode prog_10_method_3_code 47 = .ok (.iconst 1, 1) := by decide +kernel
theorem d_Re_readLiteral_48 : decode prog_10_method_3_code 48 = .ok (.iload 7, 2) := by decide +kernel
theorem d_Re_readLiteral_50 : decode prog_10_method_3_code 50 = .ok (.iadd, 1) := by decide +kernel
theorem d_Re_readLiteral_51 : decode prog_10_method_3_code 51 = .ok (.goto 4, 3) := by decide +kernel
theorem d_Re_readLiteral_54 : decode prog_10_method_3_code 54 = .ok (.iconst 0, 1) := by decide +kernel
theorem d_Re_readLiteral_55 : decode prog_10_method_3_code 55 = .ok (.istore 8, 2) := by decide +kernel
theorem d_Re_readLiteral_57 : decode prog_10_method_3_code 57 = .ok (.aload_n 0, 1) := by decide +kernel
theorem d_Re_readLiteral_58 : decode prog_10_method_3_code 58 = .ok (.getfield 12, 3) := by decide +kernel
theorem d_Re_readLiteral_61 : decode prog_10_method_3_code 61 = .ok (.iload_n 2, 1) := by decide +kernel
theorem d_Re_readLiteral_62 : decode prog_10_method_3_code 62 = .ok (.iload 8, 2) := by decide +kernel
theorem d_Re_readLiteral_64 : decode prog_10_method_3_code 64 = .ok (.sipush 256, 3) := by decide +kernel
theorem d_Re_readLiteral_67 : decode prog_10_method_3_code 67 = .ok (.imul, 1) := by decide +kernel
theorem d_Re_readLiteral_68 : decode prog_10_method_3_code 68 = .ok (.iadd, 1) := by decide +kernel
theorem d_Re_readLiteral_69 : decode prog_10_method_3_code 69 = .ok (.iload 5, 2) := by decide +kernel
theorem d_Re_readLiteral_71 : decode prog_10_method_3_code 71 = .ok (.iadd, 1) := by decide +kernel
theorem d_Re_readLiteral_72 : decode prog_10_method_3_code 72 = .ok (.invokevirtual 24, 3) := by decide +kernel
theorem d_Re_readLiteral_75 : decode prog_10_method_3_code 75 = .ok (.istore 9, 2) := by decide +kernel
theorem d_Re_readLiteral_77 : decode prog_10_method_3_code 77 = .ok (.iload 4, 2) := by decide +kernel
theorem d_Re_readLiteral_79 : decode prog_10_method_3_code 79 = .ok (.ifCond .eq 14, 3) := by decide +kernel
theorem d_Re_readLiteral_82 : decode prog_10_method_3_code 82 = .ok (.iload 9, 2) := by decide +kernel
theorem d_Re_readLiteral_84 : decode prog_10_method_3_code 84 = .ok (.iload 7, 2) := by decide +kernel
theorem d_Re_readLiteral_86 : decode prog_10_method_3_code 86 = .ok (.if_icmp .ne 7, 3) := by decide +kernel
theorem d_Re_readLiteral_89 : decode prog_10_method_3_code 89 = .ok (.iconst 1, 1) := by decide +kernel
theorem d_Re_readLiteral_90 : decode prog_10_method_3_code 90 = .ok (.goto 4, 3) := by decide +kernel
theorem d_Re_readLiteral_93 : decode prog_10_method_3_code 93 = .ok (.iconst 0, 1) := by decide +kernel
theorem d_Re_readLiteral_94 : decode prog_10_method_3_code 94 = .ok (.istore 4, 2) := by decide +kernel
theorem d_Re_readLiteral_96 : decode prog_10_method_3_code 96 = .ok (.iconst 2, 1) := by decide +kernel
theorem d_Re_readLiteral_97 : decode prog_10_method_3_code 97 = .ok (.iload 5, 2) := by decide +kernel
theorem d_Re_readLiteral_99 : decode prog_10_method_3_code 99 = .ok (.imul, 1) := by decide +kernel
theorem d_Re_readLiteral_100 : decode prog_10_method_3_code 100 = .ok (.iload 9, 2) := by decide +kernel
theorem d_Re_readLiteral_102 : decode prog_10_method_3_code 102 = .ok (.iadd, 1) := by decide +kernel
theorem d_Re_readLiteral_103 : decode prog_10_method_3_code 103 = .ok (.istore 5, 2) := by decide +kernel
theorem d_Re_readLiteral_105 : decode prog_10_method_3_code 105 = .ok (.iinc 6 (-1), 3) := by decide +kernel
theorem d_Re_readLiteral_108 : decode prog_10_method_3_code 108 = .ok (.goto (-79), 3) := by decide +kernel
theorem d_Re_readLiteral_111 : decode prog_10_method_3_code 111 = .ok (.iload 5, 2) := by decide +kernel
theorem d_Re_readLiteral_113 : decode prog_10_method_3_code 113 = .ok (.sipush 256, 3) := by decide +kernel
theorem d_Re_readLiteral_116 : decode prog_10_method_3_code 116 = .ok (.isub, 1) := by decide +kernel
theorem d_Re_readLiteral_117 : decode prog_10_method_3_code 117 = .ok (.ireturn, 1) := by decide +kernel
theorem d_Re_readMatchOrEnd_0 : decode prog_10_method_4_code 0 = .ok (.aload_n 0, 1) := by decide +kernel
theorem d_Re_readMatchOrEnd_1 : decode prog_10_method_4_code 1 = .ok (.bipush 72, 2) := by decide +kernel
theorem d_Re_readMatchOrEnd_3 : decode prog_10_method_4_code 3 = .ok (.invokevirtual 61, 3) := by decide +kernel
theorem d_Re_readMatchOrEnd_6 : decode prog_10_method_4_code 6 = .ok (.istore_n 2, 1) := by decide +kernel
theorem d_Re_readMatchOrEnd_7 : decode prog_10_method_4_code 7 = .ok (.aload_n 0, 1) := by decide +kernel
theorem d_Re_readMatchOrEnd_8 : decode prog_10_method_4_code 8 = .ok (.getfield 12, 3) := by decide +kernel
theorem d_Re_readMatchOrEnd_11 : decode prog_10_method_4_code 11 = .ok (.sipush 364, 3) := by decide +kernel
theorem d_Re_readMatchOrEnd_14 : decode prog_10_method_4_code 14 = .ok (.iload_n 2, 1) := by decide +kernel
theorem d_Re_readMatchOrEnd_15 : decode prog_10_method_4_code 15 = .ok (.iconst 3, 1) := by decide +kernel
theorem d_Re_readMatchOrEnd_16 : decode prog_10_method_4_code 16 = .ok (.invokestatic 64, 3) := by decide +kernel
theorem d_Re_readMatchOrEnd_19 : decode prog_10_method_4_code 19 = .ok (.bipush 16, 2) := by decide +kernel
theorem d_Re_readMatchOrEnd_21 : decode prog_10_method_4_code 21 = .ok (.imul, 1) := by decide +kernel
theorem d_Re_readMatchOrEnd_22 : decode prog_10_method_4_code 22 = .ok (.iadd, 1) := by decide +kernel
theorem d_Re_readMatchOrEnd_23 : decode prog_10_method_4_code 23 = .ok (.iconst 4, 1) := by decide +kernel
theorem d_Re_readMatchOrEnd_24 : decode prog_10_method_4_code 24 = .ok (.invokevirtual 70, 3) := by decide +kernel
theorem d_Re_readMatchOrEnd_27 : decode prog_10_method_4_code 27 = .ok (.istore_n 3, 1) := by decide +kernel
theorem d_Re_readMatchOrEnd_28 : decode prog_10_method_4_code 28 = .ok (.iload_n 3, 1) := by decide +kernel
theorem d_Re_readMatchOrEnd_29 : decode prog_10_method_4_code 29 = .ok (.bipush 15, 2) := by decide +kernel
theorem d_Re_readMatchOrEnd_31 : decode prog_10_method_4_code 31 = .ok (.if_icmp .ne 8, 3) := by decide +kernel
theorem d_Re_readMatchOrEnd_34 : decode prog_10_method_4_code 34 = .ok (.aload_n 1, 1) := by decide +kernel
theorem d_Re_readMatchOrEnd_35 : decode prog_10_method_4_code 35 = .ok (.invokevirtual 73, 3) := by decide +kernel
theorem d_Re_readMatchOrEnd_38 : decode prog_10_method_4_code 38 = .ok (.return_, 1) := by decide +kernel
theorem d_Re_readMatchOrEnd_39 : decode prog_10_method_4_code 39 = .ok (.iload_n 3, 1) := by decide +kernel
theorem d_Re_readMatchOrEnd_40 : decode prog_10_method_4_code 40 = .ok (.bipush 14, 2) := by decide +kernel
theorem d_Re_readMatchOrEnd_42 : decode prog_10_method_4_code 42 = .ok (.if_icmp .ne 13, 3) := by decide +kernel
theorem d_Re_readMatchOrEnd_45 : decode prog_10_method_4_code 45 = .ok (.new 76, 3) := by decide +kernel
theorem d_Re_readMatchOrEnd_48 : decode prog_10_method_4_code 48 = .ok (.dup, 1) := by decide +kernel
theorem d_Re_readMatchOrEnd_49 : decode prog_10_method_4_code 49 = .ok (.ldc 78, 2) := by decide +kernel
theorem d_Re_readMatchOrEnd_51 : decode prog_10_method_4_code 51 = .ok (.invokespecial 80, 3) := by decide +kernel
theorem d_Re_readMatchOrEnd_54 : decode prog_10_method_4_code 54 = .ok (.athrow, 1) := by decide +kernel
theorem d_Re_readMatchOrEnd_55 : decode prog_10_method_4_code 55 = .ok (.aload_n 1, 1) := by decide +kernel
theorem d_Re_readMatchOrEnd_56 : decode prog_10_method_4_code 56 = .ok (.iload_n 2, 1) := by decide +kernel
theorem d_Re_readMatchOrEnd_57 : decode prog_10_method_4_code 57 = .ok (.iconst 2, 1) := by decide +kernel
theorem d_Re_readMatchOrEnd_58 : decode prog_10_method_4_code 58 = .ok (.iadd, 1) := by decide +kernel
theorem d_Re_readMatchOrEnd_59 : decode prog_10_method_4_code 59 = .ok (.aload_n 0, 1) := by decide +kernel
theorem d_Re_readMatchOrEnd_60 : decode prog_10_method_4_code 60 = .ok (.iload_n 3, 1) := by decide +kernel
theorem d_Re_readMatchOrEnd_61 : decode prog_10_method_4_code 61 = .ok (.invokevirtual 83, 3) := by decide +kernel
theorem d_Re_readMatchOrEnd_64 : decode prog_10_method_4_code 64 = .ok (.invokevirtual 86, 3) := by decide +kernel
theorem d_Re_readMatchOrEnd_67 : decode prog_10_method_4_code 67 = .ok (.return_, 1) := by decide +kernel
theorem d_Re_readDistance_0 : decode prog_10_method_5_code 0 = .ok (.iload_n 1, 1) := by decide +kernel
theorem d_Re_readDistance_1 : decode prog_10_method_5_code 1 = .ok (.iconst 4, 1) := by decide +kernel
theorem d_Re_readDistance_2 : decode prog_10_method_5_code 2 = .ok (.if_icmp .ge 7, 3) := by decide +kernel
theorem d_Re_readDistance_5 : decode prog_10_method_5_code 5 = .ok (.iload_n 1, 1) := by decide +kernel
theorem d_Re_readDistance_6 : decode prog_10_method_5_code 6 = .ok (.iconst 1, 1) := by decide +kernel
theorem d_Re_readDistance_7 : decode prog_10_method_5_code 7 = .ok (.iadd, 1) := by decide +kernel
theorem d_Re_readDistance_8 : decode prog_10_method_5_code 8 = .ok (.ireturn, 1) := by decide +kernel
theorem d_Re_readDistance_9 : decode prog_10_method_5_code 9 = .ok (.iload_n 1, 1) := by decide +kernel
theorem d_Re_readDistance_10 : decode prog_10_method_5_code 10 = .ok (.iconst 2, 1) := by decide +kernel
theorem d_Re_readDistance_11 : decode prog_10_method_5_code 11 = .ok (.idiv, 1) := by decide +kernel
theorem d_Re_readDistance_12 : decode prog_10_method_5_code 12 = .ok (.iconst 1, 1) := by decide +kernel
theorem d_Re_readDistance_13 : decode prog_10_method_5_code 13 = .ok (.isub, 1) := by decide +kernel
theorem d_Re_readDistance_14 : decode prog_10_method_5_code 14 = .ok (.istore_n 2, 1) := by decide +kernel
theorem d_Re_readDistance_15 : decode prog_10_method_5_code 15 = .ok (.sipush 428, 3) := by decide +kernel
theorem d_Re_readDistance_18 : decode prog_10_method_5_code 18 = .ok (.iload_n 1, 1) := by decide +kernel
theorem d_Re_readDistance_19 : decode prog_10_method_5_code 19 = .ok (.iconst 4, 1) := by decide +kernel
theorem d_Re_readDistance_20 : decode prog_10_method_5_code 20 = .ok (.isub, 1) := by decide +kernel
theorem d_Re_readDistance_21 : decode prog_10_method_5_code 21 = .ok (.bipush 32, 2) := by decide +kernel
theorem d_Re_readDistance_23 : decode prog_10_method_5_code 23 = .ok (.imul, 1) := by decide +kernel
theorem d_Re_readDistance_24 : decode prog_10_method_5_code 24 = .ok (.iadd, 1) := by decide +kernel
theorem d_Re_readDistance_25 : decode prog_10_method_5_code 25 = .ok (.istore_n 3, 1) := by decide +kernel
theorem d_Re_readDistance_26 : decode prog_10_method_5_code 26 = .ok (.iconst 2, 1) := by decide +kernel
theorem d_Re_readDistance_27 : decode prog_10_method_5_code 27 = .ok (.iload_n 1, 1) := by decide +kernel
theorem d_Re_readDistance_28 : decode prog_10_method_5_code 28 = .ok (.iconst 2, 1) := by decide +kernel
theorem d_Re_readDistance_29 : decode prog_10_method_5_code 29 = .ok (.irem, 1) := by decide +kernel
theorem d_Re_readDistance_30 : decode prog_10_method_5_code 30 = .ok (.iadd, 1) := by decide +kernel
theorem d_Re_readDistance_31 : decode prog_10_method_5_code 31 = .ok (.iload_n 2, 1) := by decide +kernel
theorem d_Re_readDistance_32 : decode prog_10_method_5_code 32 = .ok (.ishl, 1) := by decide +kernel
theorem d_Re_readDistance_33 : decode prog_10_method_5_code 33 = .ok (.istore 4, 2) := by decide +kernel
theorem d_Re_readDistance_35 : decode prog_10_method_5_code 35 = .ok (.iload 4, 2) := by decide +kernel
theorem d_Re_readDistance_37 : decode prog_10_method_5_code 37 = .ok (.aload_n 0, 1) := by decide +kernel
theorem d_Re_readDistance_38 : decode prog_10_method_5_code 38 = .ok (.getfield 12, 3) := by decide +kernel
theorem d_Re_readDistance_41 : decode prog_10_method_5_code 41 = .ok (.iload_n 3, 1) := by decide +kernel
theorem d_Re_readDistance_42 : decode prog_10_method_5_code 42 = .ok (.iload_n 2, 1) := by decide +kernel
theorem d_Re_readDistance_43 : decode prog_10_method_5_code 43 = .ok (.invokevirtual 90, 3) := by decide +kernel
theorem d_Re_readDistance_46 : decode prog_10_method_5_code 46 = .ok (.iadd, 1) := by decide +kernel
theorem d_Re_readDistance_47 : decode prog_10_method_5_code 47 = .ok (.iconst 1, 1) := by decide +kernel
theorem d_Re_readDistance_48 : decode prog_10_method_5_code 48 = .ok (.iadd, 1) := by decide +kernel
theorem d_Re_readDistance_49 : decode prog_10_method_5_code 49 = .ok (.ireturn, 1) := by decide +kernel
theorem d_Re_readRepeat_0 : decode prog_10_method_6_code 0 = .ok (.iconst 0, 1) := by decide +kernel
theorem d_Re_readRepeat_1 : decode prog_10_method_6_code 1 = .ok (.istore 4, 2) := by decide +kernel
theorem d_Re_readRepeat_3 : decode prog_10_method_6_code 3 = .ok (.aload_n 0, 1) := by decide +kernel
theorem d_Re_readRepeat_4 : decode prog_10_method_6_code 4 = .ok (.getfield 12, 3) := by decide +kernel
theorem d_Re_readRepeat_7 : decode prog_10_method_6_code 7 = .ok (.bipush 24, 2) := by decide +kernel
theorem d_Re_readRepeat_9 : decode prog_10_method_6_code 9 = .ok (.iload_n 2, 1) := by decide +kernel
theorem d_Re_readRepeat_10 : decode prog_10_method_6_code 10 = .ok (.iadd, 1) := by decide +kernel
theorem d_Re_readRepeat_11 : decode prog_10_method_6_code 11 = .ok (.invokevirtual 24, 3) := by decide +kernel
theorem d_Re_readRepeat_14 : decode prog_10_method_6_code 14 = .ok (.ifCond .ne 25, 3) := by decide +kernel
theorem d_Re_readRepeat_17 : decode prog_10_method_6_code 17 = .ok (.aload_n 0, 1) := by decide +kernel
theorem d_Re_readRepeat_18 : decode prog_10_method_6_code 18 = .ok (.getfield 12, 3) := by decide +kernel
theorem d_Re_readRepeat_21 : decode prog_10_method_6_code 21 = .ok (.bipush 36, 2) := by decide +kernel
theorem d_Re_readRepeat_23 : decode prog_10_method_6_code 23 = .ok (.iload_n 2, 1) := by decide +kernel
theorem d_Re_readRepeat_24 : decode prog_10_method_6_code 24 = .ok (.iadd, 1) := by decide +kernel
theorem d_Re_readRepeat_25 : decode prog_10_method_6_code 25 = .ok (.invokevirtual 24, 3) := by decide +kernel
theorem d_Re_readRepeat_28 : decode prog_10_method_6_code 28 = .ok (.ifCond .ne 46, 3) := by decide +kernel
theorem d_Re_readRepeat_31 : decode prog_10_method_6_code 31 = .ok (.aload_n 1, 1) := by decide +kernel
theorem d_Re_readRepeat_32 : decode prog_10_method_6_code 32 = .ok (.aload_n 3, 1) := by decide +kernel
theorem d_Re_readRepeat_33 : decode prog_10_method_6_code 33 = .ok (.iconst 0, 1) := by decide +kernel
theorem d_Re_readRepeat_34 : decode prog_10_method_6_code 34 = .ok (.iaload, 1) := by decide +kernel
theorem d_Re_readRepeat_35 : decode prog_10_method_6_code 35 = .ok (.invokevirtual 93, 3) := by decide +kernel
theorem d_Re_readRepeat_38 : decode prog_10_method_6_code 38 = .ok (.return_, 1) := by decide +kernel
theorem d_Re_readRepeat_39 : decode prog_10_method_6_code 39 = .ok (.aload_n 0, 1) := by decide +kernel
theorem d_Re_readRepeat_40 : decode prog_10_method_6_code 40 = .ok (.getfield 12, 3) := by decide +kernel
theorem d_Re_readRepeat_43 : decode prog_10_method_6_code 43 = .ok (.bipush 48, 2) := by decide +kernel
theorem d_Re_readRepeat_45 : decode prog_10_method_6_code 45 = .ok (.iload_n 2, 1) := by decide +kernel
theorem d_Re_readRepeat_46 : decode prog_10_method_6_code 46 = .ok (.iadd, 1) := by decide +kernel
theorem d_Re_readRepeat_47 : decode prog_10_method_6_code 47 = .ok (.invokevirtual 24, 3) := by decide +kernel
theorem d_Re_readRepeat_50 : decode prog_10_method_6_code 50 = .ok (.ifCond .ne 9, 3) := by decide +kernel
theorem d_Re_readRepeat_53 : decode prog_10_method_6_code 53 = .ok (.iconst 1, 1) := by decide +kernel
theorem d_Re_readRepeat_54 : decode prog_10_method_6_code 54 = .ok (.istore 4, 2) := by decide +kernel
theorem d_Re_readRepeat_56 : decode prog_10_method_6_code 56 = .ok (.goto 18, 3) := by decide +kernel
theorem d_Re_readRepeat_59 : decode prog_10_method_6_code 59 = .ok (.iconst 2, 1) := by decide +kernel
theorem d_Re_readRepeat_60 : decode prog_10_method_6_code 60 = .ok (.aload_n 0, 1) := by decide +kernel
theorem d_Re_readRepeat_61 : decode prog_10_method_6_code 61 = .ok (.getfield 12, 3) := by decide +kernel
theorem d_Re_readRepeat_64 : decode prog_10_method_6_code 64 = .ok (.bipush 60, 2) := by decide +kernel
theorem d_Re_readRepeat_66 : decode prog_10_method_6_code 66 = .ok (.iload_n 2, 1) := by decide +kernel
theorem d_Re_readRepeat_67 : decode prog_10_method_6_code 67 = .ok (.iadd, 1) := by decide +kernel
theorem d_Re_readRepeat_68 : decode prog_10_method_6_code 68 = .ok (.invokevirtual 24, 3) := by decide +kernel
theorem d_Re_readRepeat_71 : decode prog_10_method_6_code 71 = .ok (.iadd, 1) := by decide +kernel
theorem d_Re_readRepeat_72 : decode prog_10_method_6_code 72 = .ok (.istore 4, 2) := by decide +kernel
theorem d_Re_readRepeat_74 : decode prog_10_method_6_code 74 = .ok (.aload_n 0, 1) := by decide +kernel
theorem d_Re_readRepeat_75 : decode prog_10_method_6_code 75 = .ok (.sipush 218, 3) := by decide +kernel
theorem d_Re_readRepeat_78 : decode prog_10_method_6_code 78 = .ok (.invokevirtual 61, 3) := by decide +kernel
theorem d_Re_readRepeat_81 : decode prog_10_method_6_code 81 = .ok (.istore 5, 2) := by decide +kernel
theorem d_Re_readRepeat_83 : decode prog_10_method_6_code 83 = .ok (.aload_n 1, 1) := by decide +kernel
theorem d_Re_readRepeat_84 : decode prog_10_method_6_code 84 = .ok (.iload 4, 2) := by decide +kernel
theorem d_Re_readRepeat_86 : decode prog_10_method_6_code 86 = .ok (.iload 5, 2) := by decide +kernel
theorem d_Re_readRepeat_88 : decode prog_10_method_6_code 88 = .ok (.iconst 2, 1) := by decide +kernel
theorem d_Re_readRepeat_89 : decode prog_10_method_6_code 89 = .ok (.iadd, 1) := by decide +kernel
theorem d_Re_readRepeat_90 : decode prog_10_method_6_code 90 = .ok (.aload_n 3, 1) := by decide +kernel
theorem d_Re_readRepeat_91 : decode prog_10_method_6_code 91 = .ok (.iload 4, 2) := by decide +kernel
theorem d_Re_readRepeat_93 : decode prog_10_method_6_code 93 = .ok (.iaload, 1) := by decide +kernel
theorem d_Re_readRepeat_94 : decode prog_10_method_6_code 94 = .ok (.invokevirtual 96, 3) := by decide +kernel
theorem d_Re_readRepeat_97 : decode prog_10_method_6_code 97 = .ok (.return_, 1) := by decide +kernel
theorem d_Re_readLength_0 : decode prog_10_method_7_code 0 = .ok (.aload_n 0, 1) := by decide +kernel
theorem d_Re_readLength_1 : decode prog_10_method_7_code 1 = .ok (.getfield 12, 3) := by decide +kernel
theorem d_Re_readLength_4 : decode prog_10_method_7_code 4 = .ok (.iload_n 1, 1) := by decide +kernel
theorem d_Re_readLength_5 : decode prog_10_method_7_code 5 = .ok (.invokevirtual 24, 3) := by decide +kernel
theorem d_Re_readLength_8 : decode prog_10_method_7_code 8 = .ok (.ifCond .ne 15, 3) := by decide +kernel
theorem d_Re_readLength_11 : decode prog_10_method_7_code 11 = .ok (.aload_n 0, 1) := by decide +kernel
theorem d_Re_readLength_12 : decode prog_10_method_7_code 12 = .ok (.getfield 12, 3) := by decide +kernel
theorem d_Re_readLength_15 : decode prog_10_method_7_code 15 = .ok (.iload_n 1, 1) := by decide +kernel
theorem d_Re_readLength_16 : decode prog_10_method_7_code 16 = .ok (.iconst 2, 1) := by decide +kernel
theorem d_Re_readLength_17 : decode prog_10_method_7_code 17 = .ok (.iadd, 1) := by decide +kernel
theorem d_Re_readLength_18 : decode prog_10_method_7_code 18 = .ok (.iconst 3, 1) := by decide +kernel
theorem d_Re_readLength_19 : decode prog_10_method_7_code 19 = .ok (.invokevirtual 70, 3) := by decide +kernel
theorem d_Re_readLength_22 : decode prog_10_method_7_code 22 = .ok (.ireturn, 1) := by decide +kernel
theorem d_Re_readLength_23 : decode prog_10_method_7_code 23 = .ok (.aload_n 0, 1) := by decide +kernel
theorem d_Re_readLength_24 : decode prog_10_method_7_code 24 = .ok (.getfield 12, 3) := by decide +kernel
theorem d_Re_readLength_27 : decode prog_10_method_7_code 27 = .ok (.iload_n 1, 1) := by decide +kernel
theorem d_Re_readLength_28 : decode prog_10_method_7_code 28 = .ok (.iconst 1, 1) := by decide +kernel
theorem d_Re_readLength_29 : decode prog_10_method_7_code 29 = .ok (.iadd, 1) := by decide +kernel
theorem d_Re_readLength_30 : decode prog_10_method_7_code 30 = .ok (.invokevirtual 24, 3) := by decide +kernel
theorem d_Re_readLength_33 : decode prog_10_method_7_code 33 = .ok (.ifCond .ne 19, 3) := by decide +kernel
theorem d_Re_readLength_36 : decode prog_10_method_7_code 36 = .ok (.bipush 8, 2) := by decide +kernel
theorem d_Re_readLength_38 : decode prog_10_method_7_code 38 = .ok (.aload_n 0, 1) := by decide +kernel
theorem d_Re_readLength_39 : decode prog_10_method_7_code 39 = .ok (.getfield 12, 3) := by decide +kernel
theorem d_Re_readLength_42 : decode prog_10_method_7_code 42 = .ok (.iload_n 1, 1) := by decide +kernel
theorem d_Re_readLength_43 : decode prog_10_method_7_code 43 = .ok (.bipush 10, 2) := by decide +kernel
theorem d_Re_readLength_45 : decode prog_10_method_7_code 45 = .ok (.iadd, 1) := by decide +kernel
theorem d_Re_readLength_46 : decode prog_10_method_7_code 46 = .ok (.iconst 3, 1) := by decide +kernel
theorem d_Re_readLength_47 : decode prog_10_method_7_code 47 = .ok (.invokevirtual 70, 3) := by decide +kernel
theorem d_Re_readLength_50 : decode prog_10_method_7_code 50 = .ok (.iadd, 1) := by decide +kernel
theorem d_Re_readLength_51 : decode prog_10_method_7_code 51 = .ok (.ireturn, 1) := by decide +kernel
theorem d_Re_readLength_52 : decode prog_10_method_7_code 52 = .ok (.bipush 16, 2) := by decide +kernel
theorem d_Re_readLength_54 : decode prog_10_method_7_code 54 = .ok (.aload_n 0, 1) := by decide +kernel
theorem d_Re_readLength_55 : decode prog_10_method_7_code 55 = .ok (.getfield 12, 3) := by decide +kernel
theorem d_Re_readLength_58 : decode prog_10_method_7_code 58 = .ok (.iload_n 1, 1) := by decide +kernel
theorem d_Re_readLength_59 : decode prog_10_method_7_code 59 = .ok (.bipush 18, 2) := by decide +kernel
theorem d_Re_readLength_61 : decode prog_10_method_7_code 61 = .ok (.iadd, 1) := by decide +kernel
theorem d_Re_readLength_62 : decode prog_10_method_7_code 62 = .ok (.bipush 7, 2) := by decide +kernel
theorem d_Re_readLength_64 : decode prog_10_method_7_code 64 = .ok (.invokevirtual 70, 3) := by decide +kernel
theorem d_Re_readLength_67 : decode prog_10_method_7_code 67 = .ok (.iadd, 1) := by decide +kernel
theorem d_Re_readLength_68 : decode prog_10_method_7_code 68 = .ok (.ireturn, 1) := by decide +kernel
theorem d_Wr_init_0 : decode prog_11_method_1_code 0 = .ok (.aload_n 0, 1) := by decide +kernel
theorem d_Wr_init_1 : decode prog_11_method_1_code 1 = .ok (.invokespecial 3, 3) := by decide +kernel
theorem d_Wr_init_4 : decode prog_11_method_1_code 4 = .ok (.aload_n 0, 1) := by decide +kernel
theorem d_Wr_init_5 : decode prog_11_method_1_code 5 = .ok (.new 9, 3) := by decide +kernel
theorem d_Wr_init_8 : decode prog_11_method_1_code 8 = .ok (.dup, 1) := by decide +kernel
theorem d_Wr_init_9 : decode prog_11_method_1_code 9 = .ok (.invokespecial 11, 3) := by decide +kernel
theorem d_Wr_init_12 : decode prog_11_method_1_code 12 = .ok (.putfield 12, 3) := by decide +kernel
theorem d_Wr_init_15 : decode prog_11_method_1_code 15 = .ok (.return_, 1) := by decide +kernel
theorem d_Wr_writePacket_0 : decode prog_11_method_2_code 0 = .ok (.aload_n 2, 1) := by decide +kernel
theorem d_Wr_writePacket_1 : decode prog_11_method_2_code 1 = .ok (.getfield 18, 3) := by decide +kernel
theorem d_Wr_writePacket_4 : decode prog_11_method_2_code 4 = .ok (.istore_n 3, 1) := by decide +kernel
theorem d_Wr_writePacket_5 : decode prog_11_method_2_code 5 = .ok (.aload_n 0, 1) := by decide +kernel
theorem d_Wr_writePacket_6 : decode prog_11_method_2_code 6 = .ok (.getfield 12, 3) := by decide +kernel
theorem d_Wr_writePacket_9 : decode prog_11_method_2_code 9 = .ok (.iconst 0, 1) := by decide +kernel
theorem d_Wr_writePacket_10 : decode prog_11_method_2_code 10 = .ok (.iload_n 3, 1) := by decide +kernel
theorem d_Wr_writePacket_11 : decode prog_11_method_2_code 11 = .ok (.iadd, 1) := by decide +kernel
theorem d_Wr_writePacket_12 : decode prog_11_method_2_code 12 = .ok (.aload_n 1, 1) := by decide +kernel
theorem d_Wr_writePacket_13 : decode prog_11_method_2_code 13 = .ok (.getfield 24, 3) := by decide +kernel
theorem d_Wr_writePacket_16 : decode prog_11_method_2_code 16 = .ok (.ifCond .ne 7, 3) := by decide +kernel
theorem d_Wr_writePacket_19 : decode prog_11_method_2_code 19 = .ok (.iconst 0, 1) := by decide +kernel
theorem d_Wr_writePacket_20 : decode prog_11_method_2_code 20 = .ok (.goto 4, 3) := by decide +kernel
theorem d_Wr_writePacket_23 : decode prog_11_method_2_code 23 = .ok (.iconst 1, 1) := by decide +kernel
theorem d_Wr_writePacket_24 : decode prog_11_method_2_code 24 = .ok (.invokevirtual 29, 3) := by decide +kernel
theorem d_Wr_writePacket_27 : decode prog_11_method_2_code 27 = .ok (.aload_n 1, 1) := by decide +kernel
theorem d_Wr_writePacket_28 : decode prog_11_method_2_code 28 = .ok (.getfield 24, 3) := by decide +kernel
theorem d_Wr_writePacket_31 : decode prog_11_method_2_code 31 = .ok (.ifCond .ne 13, 3) := by decide +kernel
theorem d_Wr_writePacket_34 : decode prog_11_method_2_code 34 = .ok (.aload_n 0, 1) := by decide +kernel
theorem d_Wr_writePacket_35 : decode prog_11_method_2_code 35 = .ok (.aload_n 1, 1) := by decide +kernel
theorem d_Wr_writePacket_36 : decode prog_11_method_2_code 36 = .ok (.getfield 33, 3) := by decide +kernel
theorem d_Wr_writePacket_39 : decode prog_11_method_2_code 39 = .ok (.aload_n 2, 1) := by decide +kernel
theorem d_Wr_writePacket_40 : decode prog_11_method_2_code 40 = .ok (.invokevirtual 36, 3) := by decide +kernel
theorem d_Wr_writePacket_43 : decode prog_11_method_2_code 43 = .ok (.return_, 1) := by decide +kernel
theorem d_Wr_writePacket_44 : decode prog_11_method_2_code 44 = .ok (.aload_n 1, 1) := by decide +kernel
theorem d_Wr_writePacket_45 : decode prog_11_method_2_code 45 = .ok (.getfield 24, 3) := by decide +kernel
theorem d_Wr_writePacket_48 : decode prog_11_method_2_code 48 = .ok (.iconst 2, 1) := by decide +kernel
theorem d_Wr_writePacket_49 : decode prog_11_method_2_code 49 = .ok (.if_icmp .eq 11, 3) := by decide +kernel
theorem d_Wr_writePacket_52 : decode prog_11_method_2_code 52 = .ok (.aload_n 1, 1) := by decide +kernel
theorem d_Wr_writePacket_53 : decode prog_11_method_2_code 53 = .ok (.getfield 24, 3) := by decide +kernel
theorem d_Wr_writePacket_56 : decode prog_11_method_2_code 56 = .ok (.iconst 3, 1) := by decide +kernel
theorem d_Wr_writePacket_57 : decode prog_11_method_2_code 57 = .ok (.if_icmp .ne 7, 3) := by decide +kernel
theorem d_Wr_writePacket_60 : decode prog_11_method_2_code 60 = .ok (.iconst 1, 1) := by decide +kernel
theorem d_Wr_writePacket_61 : decode prog_11_method_2_code 61 = .ok (.goto 4, 3) := by decide +kernel
theorem d_Wr_writePacket_64 : decode prog_11_method_2_code 64 = .ok (.iconst 0, 1) := by decide +kernel
theorem d_Wr_writePacket_65 : decode prog_11_method_2_code 65 = .ok (.istore 4, 2) := by decide +kernel
theorem d_Wr_writePacket_67 : decode prog_11_method_2_code 67 = .ok (.aload_n 0, 1) := by decide +kernel
theorem d_Wr_writePacket_68 : decode prog_11_method_2_code 68 = .ok (.getfield 12, 3) := by decide +kernel
theorem d_Wr_writePacket_71 : decode prog_11_method_2_code 71 = .ok (.bipush 12, 2) := by decide +kernel
theorem d_Wr_writePacket_73 : decode prog_11_method_2_code 73 = .ok (.iload_n 3, 1) := by decide +kernel
theorem d_Wr_writePacket_74 : decode prog_11_method_2_code 74 = .ok (.iadd, 1) := by decide +kernel
theorem d_Wr_writePacket_75 : decode prog_11_method_2_code 75 = .ok (.iload 4, 2) := by decide +kernel
theorem d_Wr_writePacket_77 : decode prog_11_method_2_code 77 = .ok (.ifCond .eq 7, 3) := by decide +kernel
theorem d_Wr_writePacket_80 : decode prog_11_method_2_code 80 = .ok (.iconst 1, 1) := by decide +kernel
theorem d_Wr_writePacket_81 : decode prog_11_method_2_code 81 = .ok (.goto 4, 3) := by decide +kernel
theorem d_Wr_writePacket_84 : decode prog_11_method_2_code 84 = .ok (.iconst 0, 1) := by decide +kernel
theorem d_Wr_writePacket_85 : decode prog_11_method_2_code 85 = .ok (.invokevirtual 29, 3) := by decide +kernel
theorem d_Wr_writePacket_88 : decode prog_11_method_2_code 88 = .ok (.aload_n 1, 1) := by decide +kernel
theorem d_Wr_writePacket_89 : decode prog_11_method_2_code 89 = .ok (.getfield 24, 3) := by decide +kernel
theorem d_Wr_writePacket_92 : decode prog_11_method_2_code 92 = .ok (.iconst 1, 1) := by decide +kernel
theorem d_Wr_writePacket_93 : decode prog_11_method_2_code 93 = .ok (.if_icmp .ne 11, 3) := by decide +kernel
theorem d_Wr_writePacket_96 : decode prog_11_method_2_code 96 = .ok (.aload_n 0, 1) := by decide +kernel
theorem d_Wr_writePacket_97 : decode prog_11_method_2_code 97 = .ok (.aload_n 1, 1) := by decide +kernel
theorem d_Wr_writePacket_98 : decode prog_11_method_2_code 98 = .ok (.invokevirtual 40, 3) := by decide +kernel
theorem d_Wr_writePacket_101 : decode prog_11_method_2_code 101 = .ok (.goto 24, 3) := by decide +kernel
theorem d_Wr_writePacket_104 : decode prog_11_method_2_code 104 = .ok (.aload_n 1, 1) := by decide +kernel
theorem d_Wr_writePacket_105 : decode prog_11_method_2_code 105 = .ok (.getfield 24, 3) := by decide +kernel
theorem d_Wr_writePacket_108 : decode prog_11_method_2_code 108 = .ok (.iconst 4, 1) := by decide +kernel
theorem d_Wr_writePacket_109 : decode prog_11_method_2_code 109 = .ok (.if_icmp .ne 10, 3) := by decide +kernel
theorem d_Wr_writePacket_112 : decode prog_11_method_2_code 112 = .ok (.aload_n 0, 1) := by decide +kernel
theorem d_Wr_writePacket_113 : decode prog_11_method_2_code 113 = .ok (.invokevirtual 44, 3) := by decide +kernel
theorem d_Wr_writePacket_116 : decode prog_11_method_2_code 116 = .ok (.goto 9, 3) := by decide +kernel
theorem d_Wr_writePacket_119 : decode prog_11_method_2_code 119 = .ok (.aload_n 0, 1) := by decide +kernel
theorem d_Wr_writePacket_120 : decode prog_11_method_2_code 120 = .ok (.aload_n 1, 1) := by decide +kernel
theorem d_Wr_writePacket_121 : decode prog_11_method_2_code 121 = .ok (.iload_n 3, 1) := by decide +kernel
theorem d_Wr_writePacket_122 : decode prog_11_method_2_code 122 = .ok (.invokevirtual 47, 3) := by decide +kernel
theorem d_Wr_writePacket_125 : decode prog_11_method_2_code 125 = .ok (.return_, 1) := by decide +kernel
theorem d_Wr_writeLiteral_0 : decode prog_11_method_3_code 0 = .ok (.aload_n 2, 1) := by decide +kernel
theorem d_Wr_writeLiteral_1 : decode prog_11_method_3_code 1 = .ok (.invokevirtual 51, 3) := by decide +kernel
theorem d_Wr_writeLiteral_4 : decode prog_11_method_3_code 4 = .ok (.istore_n 3, 1) := by decide +kernel
theorem d_Wr_writeLiteral_5 : decode prog_11_method_3_code 5 = .ok (.aload_n 2, 1) := by decide +kernel
theorem d_Wr_writeLiteral_6 : decode prog_11_method_3_code 6 = .ok (.aload_n 2, 1) := by decide +kernel
theorem d_Wr_writeLiteral_7 : decode prog_11_method_3_code 7 = .ok (.getfield 55, 3) := by decide +kernel
theorem d_Wr_writeLiteral_10 : decode prog_11_method_3_code 10 = .ok (.iconst 0, 1) := by decide +kernel
theorem d_Wr_writeLiteral_11 : decode prog_11_method_3_code 11 = .ok (.iaload, 1) := by decide +kernel
theorem d_Wr_writeLiteral_12 : decode prog_11_method_3_code 12 = .ok (.invokevirtual 59, 3) := by decide +kernel
theorem d_Wr_writeLiteral_15 : decode prog_11_method_3_code 15 = .ok (.istore 4, 2) := by decide +kernel
theorem d_Wr_writeLiteral_17 : decode prog_11_method_3_code 17 = .ok (.aload_n 2, 1) := by decide +kernel
theorem d_Wr_writeLiteral_18 : decode prog_11_method_3_code 18 = .ok (.invokevirtual 63, 3) := by decide +kernel
theorem d_Wr_writeLiteral_21 : decode prog_11_method_3_code 21 = .ok (.istore 5, 2) := by decide +kernel
theorem d_Wr_writeLiteral_23 : decode prog_11_method_3_code 23 = .ok (.iconst 1, 1) := by decide +kernel
theorem d_Wr_writeLiteral_24 : decode prog_11_method_3_code 24 = .ok (.istore 6, 2) := by decide +kernel
theorem d_Wr_writeLiteral_26 : decode prog_11_method_3_code 26 = .ok (.bipush 7, 2) := by decide +kernel
theorem d_Wr_writeLiteral_28 : decode prog_11_method_3_code 28 = .ok (.istore 7, 2) := by decide +kernel
theorem d_Wr_writeLiteral_30 : decode prog_11_method_3_code 30 = .ok (.iload 7, 2) := by decide +kernel
theorem d_Wr_writeLiteral_32 : decode prog_11_method_3_code 32 = .ok (.ifCond .lt 89, 3) := by decide +kernel
theorem d_Wr_writeLiteral_35 : decode prog_11_method_3_code 35 = .ok (.iload_n 1, 1) := by decide +kernel
theorem d_Wr_writeLiteral_36 : decode prog_11_method_3_code 36 = .ok (.iload 7, 2) := by decide +kernel
theorem d_Wr_writeLiteral_38 : decode prog_11_method_3_code 38 = .ok (.ishr, 1) := by decide +kernel
theorem d_Wr_writeLiteral_39 : decode prog_11_method_3_code 39 = .ok (.iconst 1, 1) := by decide +kernel
theorem d_Wr_writeLiteral_40 : decode prog_11_method_3_code 40 = .ok (.iand, 1) := by decide +kernel
theorem d_Wr_writeLiteral_41 : decode prog_11_method_3_code 41 = .ok (.istore 8, 2) := by decide +kernel
theorem d_Wr_writeLiteral_43 : decode prog_11_method_3_code 43 = .ok (.iload 4, 2) := by decide +kernel
theorem d_Wr_writeLiteral_45 : decode prog_11_method_3_code 45 = .ok (.iload 7, 2) := by decide +kernel
theorem d_Wr_writeLiteral_47 : decode prog_11_method_3_code 47 = .ok (.ishr, 1) := by decide +kernel
theorem d_Wr_writeLiteral_48 : decode prog_11_method_3_code 48 = .ok (.iconst 1, 1) := by decide +kernel
theorem d_Wr_writeLiteral_49 : decode prog_11_method_3_code 49 = .ok (.iand, 1) := by decide +kernel
theorem d_Wr_writeLiteral_50 : decode prog_11_method_3_code 50 = .ok (.istore 9, 2) := by decide +kernel
theorem d_Wr_writeLiteral_52 : decode prog_11_method_3_code 52 = .ok (.iload 5, 2) := by decide +kernel
theorem d_Wr_writeLiteral_54 : decode prog_11_method_3_code 54 = .ok (.ifCond .eq 10, 3) := by decide +kernel
theorem d_Wr_writeLiteral_57 : decode prog_11_method_3_code 57 = .ok (.iconst 1, 1) := by decide +kernel
theorem d_Wr_writeLiteral_58 : decode prog_11_method_3_code 58 = .ok (.iload 9, 2) := by decide +kernel
theorem d_Wr_writeLiteral_60 : decode prog_11_method_3_code 60 = .ok (.iadd, 1) := by decide +kernel
theorem d_Wr_writeLiteral_61 : decode prog_11_method_3_code 61 = .ok (.goto 4, 3) := by decide +kernel
theorem d_Wr_writeLiteral_64 : decode prog_11_method_3_code 64 = .ok (.iconst 0, 1) := by decide +kernel
theorem d_Wr_writeLiteral_65 : decode prog_11_method_3_code 65 = .ok (.istore 10, 2) := by decide +kernel
theorem d_Wr_writeLiteral_67 : decode prog_11_method_3_code 67 = .ok (.aload_n 0, 1) := by decide +kernel
theorem d_Wr_writeLiteral_68 : decode prog_11_method_3_code 68 = .ok (.getfield 12, 3) := by decide +kernel
theorem d_Wr_writeLiteral_71 : decode prog_11_method_3_code 71 = .ok (.iload_n 3, 1) := by decide +kernel
theorem d_Wr_writeLiteral_72 : decode prog_11_method_3_code 72 = .ok (.iload 10, 2) := by decide +kernel
theorem d_Wr_writeLiteral_74 : decode prog_11_method_3_code 74 = .ok (.sipush 256, 3) := by decide +kernel
theorem d_Wr_writeLiteral_77 : decode prog_11_method_3_code 77 = .ok (.imul, 1) := by decide +kernel
theorem d_Wr_writeLiteral_78 : decode prog_11_method_3_code 78 = .ok (.iadd, 1) := by decide +kernel
theorem d_Wr_writeLiteral_79 : decode prog_11_method_3_code 79 = .ok (.iload 6, 2) := by decide +kernel
theorem d_Wr_writeLiteral_81 : decode prog_11_method_3_code 81 = .ok (.iadd, 1) := by decide +kernel
theorem d_Wr_writeLiteral_82 : decode prog_11_method_3_code 82 = .ok (.iload 8, 2) := by decide +kernel
theorem d_Wr_writeLiteral_84 : decode prog_11_method_3_code 84 = .ok (.invokevirtual 29, 3) := by decide +kernel
theorem d_Wr_writeLiteral_87 : decode prog_11_method_3_code 87 = .ok (.iload 5, 2) := by decide +kernel
theorem d_Wr_writeLiteral_89 : decode prog_11_method_3_code 89 = .ok (.ifCond .eq 14, 3) := by decide +kernel
