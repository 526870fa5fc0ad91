theorem d_Mo_packet0_153 : decode prog_13_method_22_code 153 = .ok (.iload_n 1, 1) := by decide +kernel
theorem d_Mo_packet0_154 : decode prog_13_method_22_code 154 = .ok (.ifCond .ge 7, 3) := by decide +kernel
theorem d_Mo_packet0_157 : decode prog_13_method_22_code 157 = .ok (.iconst 1, 1) := by decide +kernel
theorem d_Mo_packet0_158 : decode prog_13_method_22_code 158 = .ok (.goto 16, 3) := by decide +kernel
theorem d_Mo_packet0_161 : decode prog_13_method_22_code 161 = .ok (.iconst 2, 1) := by decide +kernel
theorem d_Mo_packet0_162 : decode prog_13_method_22_code 162 = .ok (.aload_n 0, 1) := by decide +kernel
theorem d_Mo_packet0_163 : decode prog_13_method_22_code 163 = .ok (.iconst 1, 1) := by decide +kernel
theorem d_Mo_packet0_164 : decode prog_13_method_22_code 164 = .ok (.aload_n 0, 1) := by decide +kernel
theorem d_Mo_packet0_165 : decode prog_13_method_22_code 165 = .ok (.getfield 151, 3) := by decide +kernel
theorem d_Mo_packet0_168 : decode prog_13_method_22_code 168 = .ok (.iconst 2, 1) := by decide +kernel
theorem d_Mo_packet0_169 : decode prog_13_method_22_code 169 = .ok (.isub, 1) := by decide +kernel
theorem d_Mo_packet0_170 : decode prog_13_method_22_code 170 = .ok (.invokevirtual 154, 3) := by decide +kernel
theorem d_Mo_packet0_173 : decode prog_13_method_22_code 173 = .ok (.iadd, 1) := by decide +kernel
theorem d_Mo_packet0_174 : decode prog_13_method_22_code 174 = .ok (.istore_n 2, 1) := by decide +kernel
theorem d_Mo_packet0_175 : decode prog_13_method_22_code 175 = .ok (.aload_n 0, 1) := by decide +kernel
theorem d_Mo_packet0_176 : decode prog_13_method_22_code 176 = .ok (.iload_n 1, 1) := by decide +kernel
theorem d_Mo_packet0_177 : decode prog_13_method_22_code 177 = .ok (.ifCond .ge 7, 3) := by decide +kernel
theorem d_Mo_packet0_180 : decode prog_13_method_22_code 180 = .ok (.iconst 3, 1) := by decide +kernel
theorem d_Mo_packet0_181 : decode prog_13_method_22_code 181 = .ok (.goto 4, 3) := by decide +kernel
theorem d_Mo_packet0_184 : decode prog_13_method_22_code 184 = .ok (.iconst 2, 1) := by decide +kernel
theorem d_Mo_packet0_185 : decode prog_13_method_22_code 185 = .ok (.iload_n 2, 1) := by decide +kernel
theorem d_Mo_packet0_186 : decode prog_13_method_22_code 186 = .ok (.aload_n 0, 1) := by decide +kernel
theorem d_Mo_packet0_187 : decode prog_13_method_22_code 187 = .ok (.getfield 40, 3) := by decide +kernel
theorem d_Mo_packet0_190 : decode prog_13_method_22_code 190 = .ok (.iload_n 1, 1) := by decide +kernel
theorem d_Mo_packet0_191 : decode prog_13_method_22_code 191 = .ok (.ifCond .ge 7, 3) := by decide +kernel
theorem d_Mo_packet0_194 : decode prog_13_method_22_code 194 = .ok (.iconst 0, 1) := by decide +kernel
theorem d_Mo_packet0_195 : decode prog_13_method_22_code 195 = .ok (.goto 4, 3) := by decide +kernel
theorem d_Mo_packet0_198 : decode prog_13_method_22_code 198 = .ok (.iload_n 1, 1) := by decide +kernel
theorem d_Mo_packet0_199 : decode prog_13_method_22_code 199 = .ok (.iaload, 1) := by decide +kernel
theorem d_Mo_packet0_200 : decode prog_13_method_22_code 200 = .ok (.iload_n 1, 1) := by decide +kernel
theorem d_Mo_packet0_201 : decode prog_13_method_22_code 201 = .ok (.ifCond .ge 7, 3) := by decide +kernel
theorem d_Mo_packet0_204 : decode prog_13_method_22_code 204 = .ok (.iconst 0, 1) := by decide +kernel
theorem d_Mo_packet0_205 : decode prog_13_method_22_code 205 = .ok (.goto 4, 3) := by decide +kernel
theorem d_Mo_packet0_208 : decode prog_13_method_22_code 208 = .ok (.iload_n 1, 1) := by decide +kernel
theorem d_Mo_packet0_209 : decode prog_13_method_22_code 209 = .ok (.invokevirtual 160, 3) := by decide +kernel
theorem d_Mo_packet0_212 : decode prog_13_method_22_code 212 = .ok (.aload_n 0, 1) := by decide +kernel
theorem d_Mo_packet0_213 : decode prog_13_method_22_code 213 = .ok (.getfield 70, 3) := by decide +kernel
theorem d_Mo_packet0_216 : decode prog_13_method_22_code 216 = .ok (.ifCond .ne 7, 3) := by decide +kernel
theorem d_Mo_packet0_219 : decode prog_13_method_22_code 219 = .ok (.iconst 1, 1) := by decide +kernel
theorem d_Mo_packet0_220 : decode prog_13_method_22_code 220 = .ok (.goto 4, 3) := by decide +kernel
theorem d_Mo_packet0_223 : decode prog_13_method_22_code 223 = .ok (.iconst 0, 1) := by decide +kernel
theorem d_Mo_packet0_224 : decode prog_13_method_22_code 224 = .ok (.ireturn, 1) := by decide +kernel
theorem d_Mo_agree_0 : decode prog_13_method_23_code 0 = .ok (.iconst 0, 1) := by decide +kernel
theorem d_Mo_agree_1 : decode prog_13_method_23_code 1 = .ok (.istore_n 3, 1) := by decide +kernel
theorem d_Mo_agree_2 : decode prog_13_method_23_code 2 = .ok (.iload_n 2, 1) := by decide +kernel
theorem d_Mo_agree_3 : decode prog_13_method_23_code 3 = .ok (.iload_n 3, 1) := by decide +kernel
theorem d_Mo_agree_4 : decode prog_13_method_23_code 4 = .ok (.iadd, 1) := by decide +kernel
theorem d_Mo_agree_5 : decode prog_13_method_23_code 5 = .ok (.aload_n 0, 1) := by decide +kernel
theorem d_Mo_agree_6 : decode prog_13_method_23_code 6 = .ok (.getfield 63, 3) := by decide +kernel
theorem d_Mo_agree_9 : decode prog_13_method_23_code 9 = .ok (.if_icmp .ge 28, 3) := by decide +kernel
theorem d_Mo_agree_12 : decode prog_13_method_23_code 12 = .ok (.aload_n 0, 1) := by decide +kernel
theorem d_Mo_agree_13 : decode prog_13_method_23_code 13 = .ok (.getfield 7, 3) := by decide +kernel
theorem d_Mo_agree_16 : decode prog_13_method_23_code 16 = .ok (.iload_n 1, 1) := by decide +kernel
theorem d_Mo_agree_17 : decode prog_13_method_23_code 17 = .ok (.iload_n 3, 1) := by decide +kernel
theorem d_Mo_agree_18 : decode prog_13_method_23_code 18 = .ok (.iadd, 1) := by decide +kernel
theorem d_Mo_agree_19 : decode prog_13_method_23_code 19 = .ok (.iaload, 1) := by decide +kernel
theorem d_Mo_agree_20 : decode prog_13_method_23_code 20 = .ok (.aload_n 0, 1) := by decide +kernel
theorem d_Mo_agree_21 : decode prog_13_method_23_code 21 = .ok (.getfield 7, 3) := by decide +kernel
theorem d_Mo_agree_24 : decode prog_13_method_23_code 24 = .ok (.iload_n 2, 1) := by decide +kernel
theorem d_Mo_agree_25 : decode prog_13_method_23_code 25 = .ok (.iload_n 3, 1) := by decide +kernel
theorem d_Mo_agree_26 : decode prog_13_method_23_code 26 = .ok (.iadd, 1) := by decide +kernel
theorem d_Mo_agree_27 : decode prog_13_method_23_code 27 = .ok (.iaload, 1) := by decide +kernel
theorem d_Mo_agree_28 : decode prog_13_method_23_code 28 = .ok (.if_icmp .ne 9, 3) := by decide +kernel
theorem d_Mo_agree_31 : decode prog_13_method_23_code 31 = .ok (.iinc 3 1, 3) := by decide +kernel
theorem d_Mo_agree_34 : decode prog_13_method_23_code 34 = .ok (.goto (-32), 3) := by decide +kernel
theorem d_Mo_agree_37 : decode prog_13_method_23_code 37 = .ok (.iload_n 3, 1) := by decide +kernel
theorem d_Mo_agree_38 : decode prog_13_method_23_code 38 = .ok (.ireturn, 1) := by decide +kernel
theorem d_Mo_choose_0 : decode prog_13_method_24_code 0 = .ok (.aload_n 0, 1) := by decide +kernel
theorem d_Mo_choose_1 : decode prog_13_method_24_code 1 = .ok (.getfield 79, 3) := by decide +kernel
theorem d_Mo_choose_4 : decode prog_13_method_24_code 4 = .ok (.istore_n 1, 1) := by decide +kernel
theorem d_Mo_choose_5 : decode prog_13_method_24_code 5 = .ok (.iconst 0, 1) := by decide +kernel
theorem d_Mo_choose_6 : decode prog_13_method_24_code 6 = .ok (.istore_n 2, 1) := by decide +kernel
theorem d_Mo_choose_7 : decode prog_13_method_24_code 7 = .ok (.iconst 0, 1) := by decide +kernel
theorem d_Mo_choose_8 : decode prog_13_method_24_code 8 = .ok (.istore_n 3, 1) := by decide +kernel
theorem d_Mo_choose_9 : decode prog_13_method_24_code 9 = .ok (.iconst 0, 1) := by decide +kernel
theorem d_Mo_choose_10 : decode prog_13_method_24_code 10 = .ok (.istore 4, 2) := by decide +kernel
theorem d_Mo_choose_12 : decode prog_13_method_24_code 12 = .ok (.iload_n 1, 1) := by decide +kernel
theorem d_Mo_choose_13 : decode prog_13_method_24_code 13 = .ok (.iconst 1, 1) := by decide +kernel
theorem d_Mo_choose_14 : decode prog_13_method_24_code 14 = .ok (.isub, 1) := by decide +kernel
theorem d_Mo_choose_15 : decode prog_13_method_24_code 15 = .ok (.istore 5, 2) := by decide +kernel
theorem d_Mo_choose_17 : decode prog_13_method_24_code 17 = .ok (.iload 5, 2) := by decide +kernel
theorem d_Mo_choose_19 : decode prog_13_method_24_code 19 = .ok (.ifCond .lt 84, 3) := by decide +kernel
theorem d_Mo_choose_22 : decode prog_13_method_24_code 22 = .ok (.iload 4, 2) := by decide +kernel
theorem d_Mo_choose_24 : decode prog_13_method_24_code 24 = .ok (.aload_n 0, 1) := by decide +kernel
theorem d_Mo_choose_25 : decode prog_13_method_24_code 25 = .ok (.getfield 52, 3) := by decide +kernel
theorem d_Mo_choose_28 : decode prog_13_method_24_code 28 = .ok (.if_icmp .ge 75, 3) := by decide +kernel
theorem d_Mo_choose_31 : decode prog_13_method_24_code 31 = .ok (.aload_n 0, 1) := by decide +kernel
theorem d_Mo_choose_32 : decode prog_13_method_24_code 32 = .ok (.iload 5, 2) := by decide +kernel
theorem d_Mo_choose_34 : decode prog_13_method_24_code 34 = .ok (.iload_n 1, 1) := by decide +kernel
theorem d_Mo_choose_35 : decode prog_13_method_24_code 35 = .ok (.invokevirtual 170, 3) := by decide +kernel
theorem d_Mo_choose_38 : decode prog_13_method_24_code 38 = .ok (.istore 6, 2) := by decide +kernel
theorem d_Mo_choose_40 : decode prog_13_method_24_code 40 = .ok (.iload 6, 2) := by decide +kernel
theorem d_Mo_choose_42 : decode prog_13_method_24_code 42 = .ok (.iconst 2, 1) := by decide +kernel
theorem d_Mo_choose_43 : decode prog_13_method_24_code 43 = .ok (.if_icmp .lt 10, 3) := by decide +kernel
theorem d_Mo_choose_46 : decode prog_13_method_24_code 46 = .ok (.iload 4, 2) := by decide +kernel
theorem d_Mo_choose_48 : decode prog_13_method_24_code 48 = .ok (.iconst 1, 1) := by decide +kernel
theorem d_Mo_choose_49 : decode prog_13_method_24_code 49 = .ok (.iadd, 1) := by decide +kernel
theorem d_Mo_choose_50 : decode prog_13_method_24_code 50 = .ok (.goto 5, 3) := by decide +kernel
theorem d_Mo_choose_53 : decode prog_13_method_24_code 53 = .ok (.iload 4, 2) := by decide +kernel
theorem d_Mo_choose_55 : decode prog_13_method_24_code 55 = .ok (.istore 4, 2) := by decide +kernel
theorem d_Mo_choose_57 : decode prog_13_method_24_code 57 = .ok (.iload 6, 2) := by decide +kernel
theorem d_Mo_choose_59 : decode prog_13_method_24_code 59 = .ok (.iconst 2, 1) := by decide +kernel
theorem d_Mo_choose_60 : decode prog_13_method_24_code 60 = .ok (.if_icmp .lt 16, 3) := by decide +kernel
theorem d_Mo_choose_63 : decode prog_13_method_24_code 63 = .ok (.iload 6, 2) := by decide +kernel
theorem d_Mo_choose_65 : decode prog_13_method_24_code 65 = .ok (.iload_n 2, 1) := by decide +kernel
theorem d_Mo_choose_66 : decode prog_13_method_24_code 66 = .ok (.if_icmp .le 10, 3) := by decide +kernel
theorem d_Mo_choose_69 : decode prog_13_method_24_code 69 = .ok (.iload_n 1, 1) := by decide +kernel
theorem d_Mo_choose_70 : decode prog_13_method_24_code 70 = .ok (.iload 5, 2) := by decide +kernel
theorem d_Mo_choose_72 : decode prog_13_method_24_code 72 = .ok (.isub, 1) := by decide +kernel
theorem d_Mo_choose_73 : decode prog_13_method_24_code 73 = .ok (.goto 4, 3) := by decide +kernel
theorem d_Mo_choose_76 : decode prog_13_method_24_code 76 = .ok (.iload_n 3, 1) := by decide +kernel
theorem d_Mo_choose_77 : decode prog_13_method_24_code 77 = .ok (.istore_n 3, 1) := by decide +kernel
theorem d_Mo_choose_78 : decode prog_13_method_24_code 78 = .ok (.iload 6, 2) := by decide +kernel
theorem d_Mo_choose_80 : decode prog_13_method_24_code 80 = .ok (.iconst 2, 1) := by decide +kernel
theorem d_Mo_choose_81 : decode prog_13_method_24_code 81 = .ok (.if_icmp .lt 14, 3) := by decide +kernel
theorem d_Mo_choose_84 : decode prog_13_method_24_code 84 = .ok (.iload 6, 2) := by decide +kernel
theorem d_Mo_choose_86 : decode prog_13_method_24_code 86 = .ok (.iload_n 2, 1) := by decide +kernel
theorem d_Mo_choose_87 : decode prog_13_method_24_code 87 = .ok (.if_icmp .le 8, 3) := by decide +kernel
theorem d_Mo_choose_90 : decode prog_13_method_24_code 90 = .ok (.iload 6, 2) := by decide +kernel
theorem d_Mo_choose_92 : decode prog_13_method_24_code 92 = .ok (.goto 4, 3) := by decide +kernel
theorem d_Mo_choose_95 : decode prog_13_method_24_code 95 = .ok (.iload_n 2, 1) := by decide +kernel
theorem d_Mo_choose_96 : decode prog_13_method_24_code 96 = .ok (.istore_n 2, 1) := by decide +kernel
theorem d_Mo_choose_97 : decode prog_13_method_24_code 97 = .ok (.iinc 5 (-1), 3) := by decide +kernel
theorem d_Mo_choose_100 : decode prog_13_method_24_code 100 = .ok (.goto (-83), 3) := by decide +kernel
theorem d_Mo_choose_103 : decode prog_13_method_24_code 103 = .ok (.iconst 0, 1) := by decide +kernel
theorem d_Mo_choose_104 : decode prog_13_method_24_code 104 = .ok (.istore 5, 2) := by decide +kernel
theorem d_Mo_choose_106 : decode prog_13_method_24_code 106 = .ok (.aload_n 0, 1) := by decide +kernel
theorem d_Mo_choose_107 : decode prog_13_method_24_code 107 = .ok (.iconst 0, 1) := by decide +kernel
theorem d_Mo_choose_108 : decode prog_13_method_24_code 108 = .ok (.putfield 164, 3) := by decide +kernel
theorem d_Mo_choose_111 : decode prog_13_method_24_code 111 = .ok (.iconst 0, 1) := by decide +kernel
theorem d_Mo_choose_112 : decode prog_13_method_24_code 112 = .ok (.istore 6, 2) := by decide +kernel
theorem d_Mo_choose_114 : decode prog_13_method_24_code 114 = .ok (.iload 6, 2) := by decide +kernel
theorem d_Mo_choose_116 : decode prog_13_method_24_code 116 = .ok (.iconst 4, 1) := by decide +kernel
theorem d_Mo_choose_117 : decode prog_13_method_24_code 117 = .ok (.if_icmp .ge 76, 3) := by decide +kernel
theorem d_Mo_choose_120 : decode prog_13_method_24_code 120 = .ok (.aload_n 0, 1) := by decide +kernel
theorem d_Mo_choose_121 : decode prog_13_method_24_code 121 = .ok (.getfield 40, 3) := by decide +kernel
theorem d_Mo_choose_124 : decode prog_13_method_24_code 124 = .ok (.iload 6, 2) := by decide +kernel
theorem d_Mo_choose_126 : decode prog_13_method_24_code 126 = .ok (.iaload, 1) := by decide +kernel
theorem d_Mo_choose_127 : decode prog_13_method_24_code 127 = .ok (.iload_n 1, 1) := by decide +kernel
theorem d_Mo_choose_128 : decode prog_13_method_24_code 128 = .ok (.if_icmp .gt 20, 3) := by decide +kernel
theorem d_Mo_choose_131 : decode prog_13_method_24_code 131 = .ok (.aload_n 0, 1) := by decide +kernel
theorem d_Mo_choose_132 : decode prog_13_method_24_code 132 = .ok (.iload_n 1, 1) := by decide +kernel
theorem d_Mo_choose_133 : decode prog_13_method_24_code 133 = .ok (.aload_n 0, 1) := by decide +kernel
theorem d_Mo_choose_134 : decode prog_13_method_24_code 134 = .ok (.getfield 40, 3) := by decide +kernel
theorem d_Mo_choose_137 : decode prog_13_method_24_code 137 = .ok (.iload 6, 2) := by decide +kernel
theorem d_Mo_choose_139 : decode prog_13_method_24_code 139 = .ok (.iaload, 1) := by decide +kernel
theorem d_Mo_choose_140 : decode prog_13_method_24_code 140 = .ok (.isub, 1) := by decide +kernel
theorem d_Mo_choose_141 : decode prog_13_method_24_code 141 = .ok (.iload_n 1, 1) := by decide +kernel
theorem d_Mo_choose_142 : decode prog_13_method_24_code 142 = .ok (.invokevirtual 170, 3) := by decide +kernel
theorem d_Mo_choose_145 : decode prog_13_method_24_code 145 = .ok (.goto 4, 3) := by decide +kernel
theorem d_Mo_choose_148 : decode prog_13_method_24_code 148 = .ok (.iconst 0, 1) := by decide +kernel
theorem d_Mo_choose_149 : decode prog_13_method_24_code 149 = .ok (.istore 7, 2) := by decide +kernel
theorem d_Mo_choose_151 : decode prog_13_method_24_code 151 = .ok (.aload_n 0, 1) := by decide +kernel
theorem d_Mo_choose_152 : decode prog_13_method_24_code 152 = .ok (.iload 7, 2) := by decide +kernel
theorem d_Mo_choose_154 : decode prog_13_method_24_code 154 = .ok (.iload 5, 2) := by decide +kernel
theorem d_Mo_choose_156 : decode prog_13_method_24_code 156 = .ok (.if_icmp .le 8, 3) := by decide +kernel
theorem d_Mo_choose_159 : decode prog_13_method_24_code 159 = .ok (.iload 6, 2) := by decide +kernel
theorem d_Mo_choose_161 : decode prog_13_method_24_code 161 = .ok (.goto 7, 3) := by decide +kernel
theorem d_Mo_choose_164 : decode prog_13_method_24_code 164 = .ok (.aload_n 0, 1) := by decide +kernel
theorem d_Mo_choose_165 : decode prog_13_method_24_code 165 = .ok (.getfield 164, 3) := by decide +kernel
theorem d_Mo_choose_168 : decode prog_13_method_24_code 168 = .ok (.putfield 164, 3) := by decide +kernel
theorem d_Mo_choose_171 : decode prog_13_method_24_code 171 = .ok (.iload 7, 2) := by decide +kernel
theorem d_Mo_choose_173 : decode prog_13_method_24_code 173 = .ok (.iload 5, 2) := by decide +kernel
theorem d_Mo_choose_175 : decode prog_13_method_24_code 175 = .ok (.if_icmp .le 8, 3) := by decide +kernel
theorem d_Mo_choose_178 : decode prog_13_method_24_code 178 = .ok (.iload 7, 2) := by decide +kernel
theorem d_Mo_choose_180 : decode prog_13_method_24_code 180 = .ok (.goto 5, 3) := by decide +kernel
theorem d_Mo_choose_183 : decode prog_13_method_24_code 183 = .ok (.iload 5, 2) := by decide +kernel
theorem d_Mo_choose_185 : decode prog_13_method_24_code 185 = .ok (.istore 5, 2) := by decide +kernel
theorem d_Mo_choose_187 : decode prog_13_method_24_code 187 = .ok (.iinc 6 1, 3) := by decide +kernel
theorem d_Mo_choose_190 : decode prog_13_method_24_code 190 = .ok (.goto (-76), 3) := by decide +kernel
theorem d_Mo_choose_193 : decode prog_13_method_24_code 193 = .ok (.iload 5, 2) := by decide +kernel
theorem d_Mo_choose_195 : decode prog_13_method_24_code 195 = .ok (.iconst 2, 1) := by decide +kernel
theorem d_Mo_choose_196 : decode prog_13_method_24_code 196 = .ok (.if_icmp .lt 36, 3) := by decide +kernel
theorem d_Mo_choose_199 : decode prog_13_method_24_code 199 = .ok (.iload 5, 2) := by decide +kernel
theorem d_Mo_choose_201 : decode prog_13_method_24_code 201 = .ok (.iload_n 2, 1) := by decide +kernel
theorem d_Mo_choose_202 : decode prog_13_method_24_code 202 = .ok (.if_icmp .lt 30, 3) := by decide +kernel
theorem d_Mo_choose_205 : decode prog_13_method_24_code 205 = .ok (.aload_n 0, 1) := by decide +kernel
theorem d_Mo_choose_206 : decode prog_13_method_24_code 206 = .ok (.iconst 2, 1) := by decide +kernel
theorem d_Mo_choose_207 : decode prog_13_method_24_code 207 = .ok (.putfield 139, 3) := by decide +kernel
theorem d_Mo_choose_210 : decode prog_13_method_24_code 210 = .ok (.aload_n 0, 1) := by decide +kernel
theorem d_Mo_choose_211 : decode prog_13_method_24_code 211 = .ok (.iload 5, 2) := by decide +kernel
theorem d_Mo_choose_213 : decode prog_13_method_24_code 213 = .ok (.putfield 151, 3) := by decide +kernel
theorem d_Mo_choose_216 : decode prog_13_method_24_code 216 = .ok (.aload_n 0, 1) := by decide +kernel
theorem d_Mo_choose_217 : decode prog_13_method_24_code 217 = .ok (.aload_n 0, 1) := by decide +kernel
theorem d_Mo_choose_218 : decode prog_13_method_24_code 218 = .ok (.getfield 40, 3) := by decide +kernel
theorem d_Mo_choose_221 : decode prog_13_method_24_code 221 = .ok (.aload_n 0, 1) := by decide +kernel
theorem d_Mo_choose_222 : decode prog_13_method_24_code 222 = .ok (.getfield 164, 3) := by decide +kernel
theorem d_Mo_choose_225 : decode prog_13_method_24_code 225 = .ok (.iaload, 1) := by decide +kernel
theorem d_Mo_choose_226 : decode prog_13_method_24_code 226 = .ok (.putfield 142, 3) := by decide +kernel
theorem d_Mo_choose_229 : decode prog_13_method_24_code 229 = .ok (.goto 100, 3) := by decide +kernel
theorem d_Mo_choose_232 : decode prog_13_method_24_code 232 = .ok (.iload_n 2, 1) := by decide +kernel
theorem d_Mo_choose_233 : decode prog_13_method_24_code 233 = .ok (.ifCond .le 21, 3) := by decide +kernel
theorem d_Mo_choose_236 : decode prog_13_method_24_code 236 = .ok (.aload_n 0, 1) := by decide +kernel
theorem d_Mo_choose_237 : decode prog_13_method_24_code 237 = .ok (.iconst 1, 1) := by decide +kernel
theorem d_Mo_choose_238 : decode prog_13_method_24_code 238 = .ok (.putfield 139, 3) := by decide +kernel
theorem d_Mo_choose_241 : decode prog_13_method_24_code 241 = .ok (.aload_n 0, 1) := by decide +kernel
theorem d_Mo_choose_242 : decode prog_13_method_24_code 242 = .ok (.iload_n 2, 1) := by decide +kernel
theorem d_Mo_choose_243 : decode prog_13_method_24_code 243 = .ok (.putfield 151, 3) := by decide +kernel
theorem d_Mo_choose_246 : decode prog_13_method_24_code 246 = .ok (.aload_n 0, 1) := by decide +kernel
theorem d_Mo_choose_247 : decode prog_13_method_24_code 247 = .ok (.iload_n 3, 1) := by decide +kernel
theorem d_Mo_choose_248 : decode prog_13_method_24_code 248 = .ok (.putfield 142, 3) := by decide +kernel
theorem d_Mo_choose_251 : decode prog_13_method_24_code 251 = .ok (.goto 78, 3) := by decide +kernel
theorem d_Mo_choose_254 : decode prog_13_method_24_code 254 = .ok (.aload_n 0, 1) := by decide +kernel
theorem d_Mo_choose_255 : decode prog_13_method_24_code 255 = .ok (.getfield 40, 3) := by decide +kernel
theorem d_Mo_choose_258 : decode prog_13_method_24_code 258 = .ok (.iconst 0, 1) := by decide +kernel
theorem d_Mo_choose_259 : decode prog_13_method_24_code 259 = .ok (.iaload, 1) := by decide +kernel
theorem d_Mo_choose_260 : decode prog_13_method_24_code 260 = .ok (.iload_n 1, 1) := by decide +kernel
theorem d_Mo_choose_261 : decode prog_13_method_24_code 261 = .ok (.if_icmp .gt 48, 3) := by decide +kernel
theorem d_Mo_choose_264 : decode prog_13_method_24_code 264 = .ok (.aload_n 0, 1) := by decide +kernel
theorem d_Mo_choose_265 : decode prog_13_method_24_code 265 = .ok (.getfield 7, 3) := by decide +kernel
theorem d_Mo_choose_268 : decode prog_13_method_24_code 268 = .ok (.iload_n 1, 1) := by decide +kernel
theorem d_Mo_choose_269 : decode prog_13_method_24_code 269 = .ok (.aload_n 0, 1) := by decide +kernel
theorem d_Mo_choose_270 : decode prog_13_method_24_code 270 = .ok (.getfield 40, 3) := by decide +kernel
theorem d_Mo_choose_273 : decode prog_13_method_24_code 273 = .ok (.iconst 0, 1) := by decide +kernel
theorem d_Mo_choose_274 : decode prog_13_method_24_code 274 = .ok (.iaload, 1) := by decide +kernel
theorem d_Mo_choose_275 : decode prog_13_method_24_code 275 = .ok (.isub, 1) := by decide +kernel
theorem d_Mo_choose_276 : decode prog_13_method_24_code 276 = .ok (.iaload, 1) := by decide +kernel
theorem d_Mo_choose_277 : decode prog_13_method_24_code 277 = .ok (.aload_n 0, 1) := by decide +kernel
theorem d_Mo_choose_278 : decode prog_13_method_24_code 278 = .ok (.getfield 7, 3) := by decide +kernel
theorem d_Mo_choose_281 : decode prog_13_method_24_code 281 = .ok (.iload_n 1, 1) := by decide +kernel
theorem d_Mo_choose_282 : decode prog_13_method_24_code 282 = .ok (.iaload, 1) := by decide +kernel
theorem d_Mo_choose_283 : decode prog_13_method_24_code 283 = .ok (.if_icmp .ne 26, 3) := by decide +kernel
theorem d_Mo_choose_286 : decode prog_13_method_24_code 286 = .ok (.aload_n 0, 1) := by decide +kernel
theorem d_Mo_choose_287 : decode prog_13_method_24_code 287 = .ok (.iconst 3, 1) := by decide +kernel
theorem d_Mo_choose_288 : decode prog_13_method_24_code 288 = .ok (.putfield 139, 3) := by decide +kernel
theorem d_Mo_choose_291 : decode prog_13_method_24_code 291 = .ok (.aload_n 0, 1) := by decide +kernel
theorem d_Mo_choose_292 : decode prog_13_method_24_code 292 = .ok (.iconst 1, 1) := by decide +kernel
theorem d_Mo_choose_293 : decode prog_13_method_24_code 293 = .ok (.putfield 151, 3) := by decide +kernel
theorem d_Mo_choose_296 : decode prog_13_method_24_code 296 = .ok (.aload_n 0, 1) := by decide +kernel
theorem d_Mo_choose_297 : decode prog_13_method_24_code 297 = .ok (.aload_n 0, 1) := by decide +kernel
theorem d_Mo_choose_298 : decode prog_13_method_24_code 298 = .ok (.getfield 40, 3) := by decide +kernel
theorem d_Mo_choose_301 : decode prog_13_method_24_code 301 = .ok (.iconst 0, 1) := by decide +kernel
theorem d_Mo_choose_302 : decode prog_13_method_24_code 302 = .ok (.iaload, 1) := by decide +kernel
theorem d_Mo_choose_303 : decode prog_13_method_24_code 303 = .ok (.putfield 142, 3) := by decide +kernel
theorem d_Mo_choose_306 : decode prog_13_method_24_code 306 = .ok (.goto 23, 3) := by decide +kernel
theorem d_Mo_choose_309 : decode prog_13_method_24_code 309 = .ok (.aload_n 0, 1) := by decide +kernel
theorem d_Mo_choose_310 : decode prog_13_method_24_code 310 = .ok (.iconst 0, 1) := by decide +kernel
theorem d_Mo_choose_311 : decode prog_13_method_24_code 311 = .ok (.putfield 139, 3) := by decide +kernel
theorem d_Mo_choose_314 : decode prog_13_method_24_code 314 = .ok (.aload_n 0, 1) := by decide +kernel
theorem d_Mo_choose_315 : decode prog_13_method_24_code 315 = .ok (.iconst 1, 1) := by decide +kernel
theorem d_Mo_choose_316 : decode prog_13_method_24_code 316 = .ok (.putfield 151, 3) := by decide +kernel
theorem d_Mo_choose_319 : decode prog_13_method_24_code 319 = .ok (.aload_n 0, 1) := by decide +kernel
theorem d_Mo_choose_320 : decode prog_13_method_24_code 320 = .ok (.aload_n 0, 1) := by decide +kernel
theorem d_Mo_choose_321 : decode prog_13_method_24_code 321 = .ok (.getfield 7, 3) := by decide +kernel
theorem d_Mo_choose_324 : decode prog_13_method_24_code 324 = .ok (.iload_n 1, 1) := by decide +kernel
theorem d_Mo_choose_325 : decode prog_13_method_24_code 325 = .ok (.iaload, 1) := by decide +kernel
theorem d_Mo_choose_326 : decode prog_13_method_24_code 326 = .ok (.putfield 142, 3) := by decide +kernel
theorem d_Mo_choose_329 : decode prog_13_method_24_code 329 = .ok (.return_, 1) := by decide +kernel
theorem d_Mo_pack_0 : decode prog_13_method_25_code 0 = .ok (.aload_n 0, 1) := by decide +kernel
theorem d_Mo_pack_1 : decode prog_13_method_25_code 1 = .ok (.iconst 1, 1) := by decide +kernel
theorem d_Mo_pack_2 : decode prog_13_method_25_code 2 = .ok (.invokevirtual 173, 3) := by decide +kernel
theorem d_Mo_pack_5 : decode prog_13_method_25_code 5 = .ok (.aload_n 0, 1) := by decide +kernel
theorem d_Mo_pack_6 : decode prog_13_method_25_code 6 = .ok (.getfield 79, 3) := by decide +kernel
theorem d_Mo_pack_9 : decode prog_13_method_25_code 9 = .ok (.aload_n 0, 1) := by decide +kernel
theorem d_Mo_pack_10 : decode prog_13_method_25_code 10 = .ok (.getfield 63, 3) := by decide +kernel
theorem d_Mo_pack_13 : decode prog_13_method_25_code 13 = .ok (.if_icmp .ge 15, 3) := by decide +kernel
theorem d_Mo_pack_16 : decode prog_13_method_25_code 16 = .ok (.aload_n 0, 1) := by decide +kernel
theorem d_Mo_pack_17 : decode prog_13_method_25_code 17 = .ok (.invokevirtual 177, 3) := by decide +kernel
theorem d_Mo_pack_20 : decode prog_13_method_25_code 20 = .ok (.aload_n 0, 1) := by decide +kernel
theorem d_Mo_pack_21 : decode prog_13_method_25_code 21 = .ok (.invokevirtual 180, 3) := by decide +kernel
theorem d_Mo_pack_24 : decode prog_13_method_25_code 24 = .ok (.pop, 1) := by decide +kernel
theorem d_Mo_pack_25 : decode prog_13_method_25_code 25 = .ok (.goto (-20), 3) := by decide +kernel
theorem d_Mo_pack_28 : decode prog_13_method_25_code 28 = .ok (.aload_n 0, 1) := by decide +kernel
theorem d_Mo_pack_29 : decode prog_13_method_25_code 29 = .ok (.iconst 1, 1) := by decide +kernel
theorem d_Mo_pack_30 : decode prog_13_method_25_code 30 = .ok (.putfield 139, 3) := by decide +kernel
theorem d_Mo_pack_33 : decode prog_13_method_25_code 33 = .ok (.aload_n 0, 1) := by decide +kernel
theorem d_Mo_pack_34 : decode prog_13_method_25_code 34 = .ok (.iconst 2, 1) := by decide +kernel
theorem d_Mo_pack_35 : decode prog_13_method_25_code 35 = .ok (.putfield 151, 3) := by decide +kernel
theorem d_Mo_pack_38 : decode prog_13_method_25_code 38 = .ok (.aload_n 0, 1) := by decide +kernel
theorem d_Mo_pack_39 : decode prog_13_method_25_code 39 = .ok (.iconst 0, 1) := by decide +kernel
theorem d_Mo_pack_40 : decode prog_13_method_25_code 40 = .ok (.putfield 142, 3) := by decide +kernel
theorem d_Mo_pack_43 : decode prog_13_method_25_code 43 = .ok (.aload_n 0, 1) := by decide +kernel
theorem d_Mo_pack_44 : decode prog_13_method_25_code 44 = .ok (.invokevirtual 180, 3) := by decide +kernel
theorem d_Mo_pack_47 : decode prog_13_method_25_code 47 = .ok (.pop, 1) := by decide +kernel
theorem d_Mo_pack_48 : decode prog_13_method_25_code 48 = .ok (.aload_n 0, 1) := by decide +kernel
theorem d_Mo_pack_49 : decode prog_13_method_25_code 49 = .ok (.aload_n 0, 1) := by decide +kernel
theorem d_Mo_pack_50 : decode prog_13_method_25_code 50 = .ok (.getfield 88, 3) := by decide +kernel
theorem d_Mo_pack_53 : decode prog_13_method_25_code 53 = .ok (.sipush 200, 3) := by decide +kernel
theorem d_Mo_pack_56 : decode prog_13_method_25_code 56 = .ok (.if_icmp .le 7, 3) := by decide +kernel
theorem d_Mo_pack_59 : decode prog_13_method_25_code 59 = .ok (.iconst 1, 1) := by decide +kernel
theorem d_Mo_pack_60 : decode prog_13_method_25_code 60 = .ok (.goto 4, 3) := by decide +kernel
theorem d_Mo_pack_63 : decode prog_13_method_25_code 63 = .ok (.iconst 0, 1) := by decide +kernel
theorem d_Mo_pack_64 : decode prog_13_method_25_code 64 = .ok (.putfield 56, 3) := by decide +kernel
theorem d_Mo_pack_67 : decode prog_13_method_25_code 67 = .ok (.aload_n 0, 1) := by decide +kernel
theorem d_Mo_pack_68 : decode prog_13_method_25_code 68 = .ok (.getfield 56, 3) := by decide +kernel
theorem d_Mo_pack_71 : decode prog_13_method_25_code 71 = .ok (.ifCond .le 5, 3) := by decide +kernel
theorem d_Mo_pack_74 : decode prog_13_method_25_code 74 = .ok (.iconst 0, 1) := by decide +kernel
theorem d_Mo_pack_75 : decode prog_13_method_25_code 75 = .ok (.ireturn, 1) := by decide +kernel
theorem d_Mo_pack_76 : decode prog_13_method_25_code 76 = .ok (.aload_n 0, 1) := by decide +kernel
theorem d_Mo_pack_77 : decode prog_13_method_25_code 77 = .ok (.iconst 1, 1) := by decide +kernel
theorem d_Mo_pack_78 : decode prog_13_method_25_code 78 = .ok (.putfield 184, 3) := by decide +kernel
theorem d_Mo_pack_81 : decode prog_13_method_25_code 81 = .ok (.aload_n 0, 1) := by decide +kernel
theorem d_Mo_pack_82 : decode prog_13_method_25_code 82 = .ok (.aload_n 0, 1) := by decide +kernel
theorem d_Mo_pack_83 : decode prog_13_method_25_code 83 = .ok (.getfield 88, 3) := by decide +kernel
theorem d_Mo_pack_86 : decode prog_13_method_25_code 86 = .ok (.putfield 99, 3) := by decide +kernel
theorem d_Mo_pack_89 : decode prog_13_method_25_code 89 = .ok (.iconst 0, 1) := by decide +kernel
theorem d_Mo_pack_90 : decode prog_13_method_25_code 90 = .ok (.istore_n 1, 1) := by decide +kernel
theorem d_Mo_pack_91 : decode prog_13_method_25_code 91 = .ok (.iload_n 1, 1) := by decide +kernel
theorem d_Mo_pack_92 : decode prog_13_method_25_code 92 = .ok (.aload_n 0, 1) := by decide +kernel
theorem d_Mo_pack_93 : decode prog_13_method_25_code 93 = .ok (.getfield 99, 3) := by decide +kernel
theorem d_Mo_pack_96 : decode prog_13_method_25_code 96 = .ok (.if_icmp .ge 21, 3) := by decide +kernel
theorem d_Mo_pack_99 : decode prog_13_method_25_code 99 = .ok (.aload_n 0, 1) := by decide +kernel
theorem d_Mo_pack_100 : decode prog_13_method_25_code 100 = .ok (.getfield 13, 3) := by decide +kernel
theorem d_Mo_pack_103 : decode prog_13_method_25_code 103 = .ok (.iload_n 1, 1) := by decide +kernel
theorem d_Mo_pack_104 : decode prog_13_method_25_code 104 = .ok (.aload_n 0, 1) := by decide +kernel
theorem d_Mo_pack_105 : decode prog_13_method_25_code 105 = .ok (.getfield 34, 3) := by decide +kernel
theorem d_Mo_pack_108 : decode prog_13_method_25_code 108 = .ok (.iload_n 1, 1) := by decide +kernel
theorem d_Mo_pack_109 : decode prog_13_method_25_code 109 = .ok (.iaload, 1) := by decide +kernel
theorem d_Mo_pack_110 : decode prog_13_method_25_code 110 = .ok (.iastore, 1) := by decide +kernel
theorem d_Mo_pack_111 : decode prog_13_method_25_code 111 = .ok (.iinc 1 1, 3) := by decide +kernel
theorem d_Mo_pack_114 : decode prog_13_method_25_code 114 = .ok (.goto (-23), 3) := by decide +kernel
theorem d_Mo_pack_117 : decode prog_13_method_25_code 117 = .ok (.aload_n 0, 1) := by decide +kernel
theorem d_Mo_pack_118 : decode prog_13_method_25_code 118 = .ok (.aload_n 0, 1) := by decide +kernel
theorem d_Mo_pack_119 : decode prog_13_method_25_code 119 = .ok (.getfield 85, 3) := by decide +kernel
theorem d_Mo_pack_122 : decode prog_13_method_25_code 122 = .ok (.putfield 187, 3) := by decide +kernel
theorem d_Mo_pack_125 : decode prog_13_method_25_code 125 = .ok (.iconst 0, 1) := by decide +kernel
theorem d_Mo_pack_126 : decode prog_13_method_25_code 126 = .ok (.istore_n 1, 1) := by decide +kernel
theorem d_Mo_pack_127 : decode prog_13_method_25_code 127 = .ok (.iload_n 1, 1) := by decide +kernel
theorem d_Mo_pack_128 : decode prog_13_method_25_code 128 = .ok (.aload_n 0, 1) := by decide +kernel
theorem d_Mo_pack_129 : decode prog_13_method_25_code 129 = .ok (.getfield 85, 3) := by decide +kernel
theorem d_Mo_pack_132 : decode prog_13_method_25_code 132 = .ok (.if_icmp .ge 45, 3) := by decide +kernel
theorem d_Mo_pack_135 : decode prog_13_method_25_code 135 = .ok (.aload_n 0, 1) := by decide +kernel
theorem d_Mo_pack_136 : decode prog_13_method_25_code 136 = .ok (.getfield 19, 3) := by decide +kernel
theorem d_Mo_pack_139 : decode prog_13_method_25_code 139 = .ok (.iload_n 1, 1) := by decide +kernel
theorem d_Mo_pack_140 : decode prog_13_method_25_code 140 = .ok (.aload_n 0, 1) := by decide +kernel
theorem d_Mo_pack_141 : decode prog_13_method_25_code 141 = .ok (.getfield 43, 3) := by decide +kernel
theorem d_Mo_pack_144 : decode prog_13_method_25_code 144 = .ok (.iload_n 1, 1) := by decide +kernel
theorem d_Mo_pack_145 : decode prog_13_method_25_code 145 = .ok (.iaload, 1) := by decide +kernel
theorem d_Mo_pack_146 : decode prog_13_method_25_code 146 = .ok (.iastore, 1) := by decide +kernel
theorem d_Mo_pack_147 : decode prog_13_method_25_code 147 = .ok (.aload_n 0, 1) := by decide +kernel
theorem d_Mo_pack_148 : decode prog_13_method_25_code 148 = .ok (.getfield 22, 3) := by decide +kernel
theorem d_Mo_pack_151 : decode prog_13_method_25_code 151 = .ok (.iload_n 1, 1) := by decide +kernel
theorem d_Mo_pack_152 : decode prog_13_method_25_code 152 = .ok (.aload_n 0, 1) := by decide +kernel
theorem d_Mo_pack_153 : decode prog_13_method_25_code 153 = .ok (.getfield 46, 3) := by decide +kernel
theorem d_Mo_pack_156 : decode prog_13_method_25_code 156 = .ok (.iload_n 1, 1) := by decide +kernel
theorem d_Mo_pack_157 : decode prog_13_method_25_code 157 = .ok (.iaload, 1) := by decide +kernel
theorem d_Mo_pack_158 : decode prog_13_method_25_code 158 = .ok (.iastore, 1) := by decide +kernel
theorem d_Mo_pack_159 : decode prog_13_method_25_code 159 = .ok (.aload_n 0, 1) := by decide +kernel
theorem d_Mo_pack_160 : decode prog_13_method_25_code 160 = .ok (.getfield 25, 3) := by decide +kernel
theorem d_Mo_pack_163 : decode prog_13_method_25_code 163 = .ok (.iload_n 1, 1) := by decide +kernel
theorem d_Mo_pack_164 : decode prog_13_method_25_code 164 = .ok (.aload_n 0, 1) := by decide +kernel
theorem d_Mo_pack_165 : decode prog_13_method_25_code 165 = .ok (.getfield 49, 3) := by decide +kernel
theorem d_Mo_pack_168 : decode prog_13_method_25_code 168 = .ok (.iload_n 1, 1) := by decide +kernel
theorem d_Mo_pack_169 : decode prog_13_method_25_code 169 = .ok (.iaload, 1) := by decide +kernel
theorem d_Mo_pack_170 : decode prog_13_method_25_code 170 = .ok (.iastore, 1) := by decide +kernel
theorem d_Mo_pack_171 : decode prog_13_method_25_code 171 = .ok (.iinc 1 1, 3) := by decide +kernel
theorem d_Mo_pack_174 : decode prog_13_method_25_code 174 = .ok (.goto (-47), 3) := by decide +kernel
theorem d_Mo_pack_177 : decode prog_13_method_25_code 177 = .ok (.iconst 0, 1) := by decide +kernel
theorem d_Mo_pack_178 : decode prog_13_method_25_code 178 = .ok (.istore_n 1, 1) := by decide +kernel
theorem d_Mo_pack_179 : decode prog_13_method_25_code 179 = .ok (.iload_n 1, 1) := by decide +kernel
theorem d_Mo_pack_180 : decode prog_13_method_25_code 180 = .ok (.bipush 72, 2) := by decide +kernel
theorem d_Mo_pack_182 : decode prog_13_method_25_code 182 = .ok (.if_icmp .ge 21, 3) := by decide +kernel
theorem d_Mo_pack_185 : decode prog_13_method_25_code 185 = .ok (.aload_n 0, 1) := by decide +kernel
theorem d_Mo_pack_186 : decode prog_13_method_25_code 186 = .ok (.getfield 28, 3) := by decide +kernel
theorem d_Mo_pack_189 : decode prog_13_method_25_code 189 = .ok (.iload_n 1, 1) := by decide +kernel
theorem d_Mo_pack_190 : decode prog_13_method_25_code 190 = .ok (.aload_n 0, 1) := by decide +kernel
theorem d_Mo_pack_191 : decode prog_13_method_25_code 191 = .ok (.getfield 31, 3) := by decide +kernel
theorem d_Mo_pack_194 : decode prog_13_method_25_code 194 = .ok (.iload_n 1, 1) := by decide +kernel
theorem d_Mo_pack_195 : decode prog_13_method_25_code 195 = .ok (.iaload, 1) := by decide +kernel
theorem d_Mo_pack_196 : decode prog_13_method_25_code 196 = .ok (.iastore, 1) := by decide +kernel
theorem d_Mo_pack_197 : decode prog_13_method_25_code 197 = .ok (.iinc 1 1, 3) := by decide +kernel
theorem d_Mo_pack_200 : decode prog_13_method_25_code 200 = .ok (.goto (-21), 3) := by decide +kernel
theorem d_Mo_pack_203 : decode prog_13_method_25_code 203 = .ok (.aload_n 0, 1) := by decide +kernel
theorem d_Mo_pack_204 : decode prog_13_method_25_code 204 = .ok (.getfield 99, 3) := by decide +kernel
theorem d_Mo_pack_207 : decode prog_13_method_25_code 207 = .ok (.ireturn, 1) := by decide +kernel
theorem d_Mo_unpack_0 : decode prog_13_method_26_code 0 = .ok (.aload_n 0, 1) := by decide +kernel
theorem d_Mo_unpack_1 : decode prog_13_method_26_code 1 = .ok (.iconst 0, 1) := by decide +kernel
theorem d_Mo_unpack_2 : decode prog_13_method_26_code 2 = .ok (.invokevirtual 173, 3) := by decide +kernel
theorem d_Mo_unpack_5 : decode prog_13_method_26_code 5 = .ok (.iconst 0, 1) := by decide +kernel
theorem d_Mo_unpack_6 : decode prog_13_method_26_code 6 = .ok (.istore_n 1, 1) := by decide +kernel
theorem d_Mo_unpack_7 : decode prog_13_method_26_code 7 = .ok (.iload_n 1, 1) := by decide +kernel
theorem d_Mo_unpack_8 : decode prog_13_method_26_code 8 = .ok (.iconst 4, 1) := by decide +kernel
theorem d_Mo_unpack_9 : decode prog_13_method_26_code 9 = .ok (.if_icmp .ge 20, 3) := by decide +kernel
theorem d_Mo_unpack_12 : decode prog_13_method_26_code 12 = .ok (.aload_n 0, 1) := by decide +kernel
theorem d_Mo_unpack_13 : decode prog_13_method_26_code 13 = .ok (.getfield 70, 3) := by decide +kernel
theorem d_Mo_unpack_16 : decode prog_13_method_26_code 16 = .ok (.ifCond .ne 13, 3) := by decide +kernel
theorem d_Mo_unpack_19 : decode prog_13_method_26_code 19 = .ok (.aload_n 0, 1) := by decide +kernel
theorem d_Mo_unpack_20 : decode prog_13_method_26_code 20 = .ok (.invokevirtual 104, 3) := by decide +kernel
theorem d_Mo_unpack_23 : decode prog_13_method_26_code 23 = .ok (.iinc 1 1, 3) := by decide +kernel
theorem d_Mo_unpack_26 : decode prog_13_method_26_code 26 = .ok (.goto (-19), 3) := by decide +kernel
theorem d_Mo_unpack_29 : decode prog_13_method_26_code 29 = .ok (.aload_n 0, 1) := by decide +kernel
theorem d_Mo_unpack_30 : decode prog_13_method_26_code 30 = .ok (.aload_n 0, 1) := by decide +kernel
theorem d_Mo_unpack_31 : decode prog_13_method_26_code 31 = .ok (.getfield 70, 3) := by decide +kernel
theorem d_Mo_unpack_34 : decode prog_13_method_26_code 34 = .ok (.ifCond .ne 18, 3) := by decide +kernel
theorem d_Mo_unpack_37 : decode prog_13_method_26_code 37 = .ok (.aload_n 0, 1) := by decide +kernel
theorem d_Mo_unpack_38 : decode prog_13_method_26_code 38 = .ok (.getfield 91, 3) := by decide +kernel
theorem d_Mo_unpack_41 : decode prog_13_method_26_code 41 = .ok (.ldc2_w 73, 3) := by decide +kernel
theorem d_Mo_unpack_44 : decode prog_13_method_26_code 44 = .ok (.lcmp, 1) := by decide +kernel
theorem d_Mo_unpack_45 : decode prog_13_method_26_code 45 = .ok (.ifCond .ne 7, 3) := by decide +kernel
theorem d_Mo_unpack_48 : decode prog_13_method_26_code 48 = .ok (.iconst 2, 1) := by decide +kernel
theorem d_Mo_unpack_49 : decode prog_13_method_26_code 49 = .ok (.goto 7, 3) := by decide +kernel
theorem d_Mo_unpack_52 : decode prog_13_method_26_code 52 = .ok (.aload_n 0, 1) := by decide +kernel
theorem d_Mo_unpack_53 : decode prog_13_method_26_code 53 = .ok (.getfield 70, 3) := by decide +kernel
theorem d_Mo_unpack_56 : decode prog_13_method_26_code 56 = .ok (.putfield 70, 3) := by decide +kernel
theorem d_Mo_unpack_59 : decode prog_13_method_26_code 59 = .ok (.aload_n 0, 1) := by decide +kernel
theorem d_Mo_unpack_60 : decode prog_13_method_26_code 60 = .ok (.getfield 70, 3) := by decide +kernel
theorem d_Mo_unpack_63 : decode prog_13_method_26_code 63 = .ok (.ifCond .ne 7, 3) := by decide +kernel
theorem d_Mo_unpack_66 : decode prog_13_method_26_code 66 = .ok (.iconst 1, 1) := by decide +kernel
theorem d_Mo_unpack_67 : decode prog_13_method_26_code 67 = .ok (.goto 4, 3) := by decide +kernel
theorem d_Mo_unpack_70 : decode prog_13_method_26_code 70 = .ok (.iconst 0, 1) := by decide +kernel
theorem d_Mo_unpack_71 : decode prog_13_method_26_code 71 = .ok (.istore_n 1, 1) := by decide +kernel
theorem d_Mo_unpack_72 : decode prog_13_method_26_code 72 = .ok (.iload_n 1, 1) := by decide +kernel
theorem d_Mo_unpack_73 : decode prog_13_method_26_code 73 = .ok (.ifCond .eq 11, 3) := by decide +kernel
theorem d_Mo_unpack_76 : decode prog_13_method_26_code 76 = .ok (.aload_n 0, 1) := by decide +kernel
theorem d_Mo_unpack_77 : decode prog_13_method_26_code 77 = .ok (.invokevirtual 180, 3) := by decide +kernel
theorem d_Mo_unpack_80 : decode prog_13_method_26_code 80 = .ok (.istore_n 1, 1) := by decide +kernel
theorem d_Mo_unpack_81 : decode prog_13_method_26_code 81 = .ok (.goto (-9), 3) := by decide +kernel
theorem d_Mo_unpack_84 : decode prog_13_method_26_code 84 = .ok (.aload_n 0, 1) := by decide +kernel
theorem d_Mo_unpack_85 : decode prog_13_method_26_code 85 = .ok (.getfield 70, 3) := by decide +kernel
theorem d_Mo_unpack_88 : decode prog_13_method_26_code 88 = .ok (.ifCond .ne 28, 3) := by decide +kernel
theorem d_Mo_unpack_91 : decode prog_13_method_26_code 91 = .ok (.aload_n 0, 1) := by decide +kernel
theorem d_Mo_unpack_92 : decode prog_13_method_26_code 92 = .ok (.getfield 94, 3) := by decide +kernel
theorem d_Mo_unpack_95 : decode prog_13_method_26_code 95 = .ok (.aload_n 0, 1) := by decide +kernel
theorem d_Mo_unpack_96 : decode prog_13_method_26_code 96 = .ok (.getfield 99, 3) := by decide +kernel
theorem d_Mo_unpack_99 : decode prog_13_method_26_code 99 = .ok (.if_icmp .lt 12, 3) := by decide +kernel
theorem d_Mo_unpack_102 : decode prog_13_method_26_code 102 = .ok (.aload_n 0, 1) := by decide +kernel
theorem d_Mo_unpack_103 : decode prog_13_method_26_code 103 = .ok (.getfield 91, 3) := by decide +kernel
theorem d_Mo_unpack_106 : decode prog_13_method_26_code 106 = .ok (.lconst 0, 1) := by decide +kernel
theorem d_Mo_unpack_107 : decode prog_13_method_26_code 107 = .ok (.lcmp, 1) := by decide +kernel
theorem d_Mo_unpack_108 : decode prog_13_method_26_code 108 = .ok (.ifCond .eq 8, 3) := by decide +kernel
theorem d_Mo_unpack_111 : decode prog_13_method_26_code 111 = .ok (.aload_n 0, 1) := by decide +kernel
theorem d_Mo_unpack_112 : decode prog_13_method_26_code 112 = .ok (.iconst 2, 1) := by decide +kernel
theorem d_Mo_unpack_113 : decode prog_13_method_26_code 113 = .ok (.putfield 70, 3) := by decide +kernel
theorem d_Mo_unpack_116 : decode prog_13_method_26_code 116 = .ok (.aload_n 0, 1) := by decide +kernel
theorem d_Mo_unpack_117 : decode prog_13_method_26_code 117 = .ok (.aload_n 0, 1) := by decide +kernel
theorem d_Mo_unpack_118 : decode prog_13_method_26_code 118 = .ok (.getfield 70, 3) := by decide +kernel
theorem d_Mo_unpack_121 : decode prog_13_method_26_code 121 = .ok (.putfield 56, 3) := by decide +kernel
theorem d_Mo_unpack_124 : decode prog_13_method_26_code 124 = .ok (.aload_n 0, 1) := by decide +kernel
theorem d_Mo_unpack_125 : decode prog_13_method_26_code 125 = .ok (.getfield 56, 3) := by decide +kernel
theorem d_Mo_unpack_128 : decode prog_13_method_26_code 128 = .ok (.ifCond .le 5, 3) := by decide +kernel
theorem d_Mo_unpack_131 : decode prog_13_method_26_code 131 = .ok (.iconst 0, 1) := by decide +kernel
theorem d_Mo_unpack_132 : decode prog_13_method_26_code 132 = .ok (.ireturn, 1) := by decide +kernel
theorem d_Mo_unpack_133 : decode prog_13_method_26_code 133 = .ok (.aload_n 0, 1) := by decide +kernel
theorem d_Mo_unpack_134 : decode prog_13_method_26_code 134 = .ok (.aload_n 0, 1) := by decide +kernel
theorem d_Mo_unpack_135 : decode prog_13_method_26_code 135 = .ok (.getfield 79, 3) := by decide +kernel
theorem d_Mo_unpack_138 : decode prog_13_method_26_code 138 = .ok (.putfield 190, 3) := by decide +kernel
theorem d_Mo_unpack_141 : decode prog_13_method_26_code 141 = .ok (.iconst 0, 1) := by decide +kernel
theorem d_Mo_unpack_142 : decode prog_13_method_26_code 142 = .ok (.istore_n 2, 1) := by decide +kernel
theorem d_Mo_unpack_143 : decode prog_13_method_26_code 143 = .ok (.iload_n 2, 1) := by decide +kernel
theorem d_Mo_unpack_144 : decode prog_13_method_26_code 144 = .ok (.aload_n 0, 1) := by decide +kernel
theorem d_Mo_unpack_145 : decode prog_13_method_26_code 145 = .ok (.getfield 79, 3) := by decide +kernel
theorem d_Mo_unpack_148 : decode prog_13_method_26_code 148 = .ok (.if_icmp .ge 21, 3) := by decide +kernel
theorem d_Mo_unpack_151 : decode prog_13_method_26_code 151 = .ok (.aload_n 0, 1) := by decide +kernel
theorem d_Mo_unpack_152 : decode prog_13_method_26_code 152 = .ok (.getfield 16, 3) := by decide +kernel
theorem d_Mo_unpack_155 : decode prog_13_method_26_code 155 = .ok (.iload_n 2, 1) := by decide +kernel
theorem d_Mo_unpack_156 : decode prog_13_method_26_code 156 = .ok (.aload_n 0, 1) := by decide +kernel
theorem d_Mo_unpack_157 : decode prog_13_method_26_code 157 = .ok (.getfield 37, 3) := by decide +kernel
theorem d_Mo_unpack_160 : decode prog_13_method_26_code 160 = .ok (.iload_n 2, 1) := by decide +kernel
theorem d_Mo_unpack_161 : decode prog_13_method_26_code 161 = .ok (.iaload, 1) := by decide +kernel
theorem d_Mo_unpack_162 : decode prog_13_method_26_code 162 = .ok (.iastore, 1) := by decide +kernel
theorem d_Mo_unpack_163 : decode prog_13_method_26_code 163 = .ok (.iinc 2 1, 3) := by decide +kernel
theorem d_Mo_unpack_166 : decode prog_13_method_26_code 166 = .ok (.goto (-23), 3) := by decide +kernel
theorem d_Mo_unpack_169 : decode prog_13_method_26_code 169 = .ok (.aload_n 0, 1) := by decide +kernel
theorem d_Mo_unpack_170 : decode prog_13_method_26_code 170 = .ok (.getfield 190, 3) := by decide +kernel
theorem d_Mo_unpack_173 : decode prog_13_method_26_code 173 = .ok (.ireturn, 1) := by decide +kernel
theorem d_Mo_packets_0 : decode prog_13_method_27_code 0 = .ok (.aload_n 0, 1) := by decide +kernel
theorem d_Mo_packets_1 : decode prog_13_method_27_code 1 = .ok (.iconst 0, 1) := by decide +kernel
theorem d_Mo_packets_2 : decode prog_13_method_27_code 2 = .ok (.putfield 56, 3) := by decide +kernel
theorem d_Mo_packets_5 : decode prog_13_method_27_code 5 = .ok (.aload_n 0, 1) := by decide +kernel
theorem d_Mo_packets_6 : decode prog_13_method_27_code 6 = .ok (.getfield 187, 3) := by decide +kernel
theorem d_Mo_packets_9 : decode prog_13_method_27_code 9 = .ok (.ireturn, 1) := by decide +kernel
theorem d_Mo_packet2_0 : decode prog_13_method_28_code 0 = .ok (.aload_n 0, 1) := by decide +kernel
theorem d_Mo_packet2_1 : decode prog_13_method_28_code 1 = .ok (.iconst 0, 1) := by decide +kernel
theorem d_Mo_packet2_2 : decode prog_13_method_28_code 2 = .ok (.putfield 56, 3) := by decide +kernel
theorem d_Mo_packet2_5 : decode prog_13_method_28_code 5 = .ok (.iload_n 1, 1) := by decide +kernel
theorem d_Mo_packet2_6 : decode prog_13_method_28_code 6 = .ok (.ifCond .lt 20, 3) := by decide +kernel
theorem d_Mo_packet2_9 : decode prog_13_method_28_code 9 = .ok (.iload_n 1, 1) := by decide +kernel
theorem d_Mo_packet2_10 : decode prog_13_method_28_code 10 = .ok (.aload_n 0, 1) := by decide +kernel
theorem d_Mo_packet2_11 : decode prog_13_method_28_code 11 = .ok (.getfield 187, 3) := by decide +kernel
theorem d_Mo_packet2_14 : decode prog_13_method_28_code 14 = .ok (.if_icmp .ge 12, 3) := by decide +kernel
theorem d_Mo_packet2_17 : decode prog_13_method_28_code 17 = .ok (.iload_n 2, 1) := by decide +kernel
theorem d_Mo_packet2_18 : decode prog_13_method_28_code 18 = .ok (.ifCond .lt 8, 3) := by decide +kernel
theorem d_Mo_packet2_21 : decode prog_13_method_28_code 21 = .ok (.iload_n 2, 1) := by decide +kernel
theorem d_Mo_packet2_22 : decode prog_13_method_28_code 22 = .ok (.iconst 2, 1) := by decide +kernel
theorem d_Mo_packet2_23 : decode prog_13_method_28_code 23 = .ok (.if_icmp .le 5, 3) := by decide +kernel
theorem d_Mo_packet2_26 : decode prog_13_method_28_code 26 = .ok (.iconst (-1), 1) := by decide +kernel
theorem d_Mo_packet2_27 : decode prog_13_method_28_code 27 = .ok (.ireturn, 1) := by decide +kernel
theorem d_Mo_packet2_28 : decode prog_13_method_28_code 28 = .ok (.iload_n 2, 1) := by decide +kernel
theorem d_Mo_packet2_29 : decode prog_13_method_28_code 29 = .ok (.ifCond .ne 12, 3) := by decide +kernel
theorem d_Mo_packet2_32 : decode prog_13_method_28_code 32 = .ok (.aload_n 0, 1) := by decide +kernel
theorem d_Mo_packet2_33 : decode prog_13_method_28_code 33 = .ok (.getfield 19, 3) := by decide +kernel
theorem d_Mo_packet2_36 : decode prog_13_method_28_code 36 = .ok (.iload_n 1, 1) := by decide +kernel
theorem d_Mo_packet2_37 : decode prog_13_method_28_code 37 = .ok (.iaload, 1) := by decide +kernel
theorem d_Mo_packet2_38 : decode prog_13_method_28_code 38 = .ok (.goto 23, 3) := by decide +kernel
theorem d_Mo_packet2_41 : decode prog_13_method_28_code 41 = .ok (.iload_n 2, 1) := by decide +kernel
theorem d_Mo_packet2_42 : decode prog_13_method_28_code 42 = .ok (.iconst 1, 1) := by decide +kernel
theorem d_Mo_packet2_43 : decode prog_13_method_28_code 43 = .ok (.if_icmp .ne 12, 3) := by decide +kernel
theorem d_Mo_packet2_46 : decode prog_13_method_28_code 46 = .ok (.aload_n 0, 1) := by decide +kernel
theorem d_Mo_packet2_47 : decode prog_13_method_28_code 47 = .ok (.getfield 22, 3) := by decide +kernel
theorem d_Mo_packet2_50 : decode prog_13_method_28_code 50 = .ok (.iload_n 1, 1) := by decide +kernel
theorem d_Mo_packet2_51 : decode prog_13_method_28_code 51 = .ok (.iaload, 1) := by decide +kernel
theorem d_Mo_packet2_52 : decode prog_13_method_28_code 52 = .ok (.goto 9, 3) := by decide +kernel
theorem d_Mo_packet2_55 : decode prog_13_method_28_code 55 = .ok (.aload_n 0, 1) := by decide +kernel
theorem d_Mo_packet2_56 : decode prog_13_method_28_code 56 = .ok (.getfield 25, 3) := by decide +kernel
theorem d_Mo_packet2_59 : decode prog_13_method_28_code 59 = .ok (.iload_n 1, 1) := by decide +kernel
theorem d_Mo_packet2_60 : decode prog_13_method_28_code 60 = .ok (.iaload, 1) := by decide +kernel
theorem d_Mo_packet2_61 : decode prog_13_method_28_code 61 = .ok (.ireturn, 1) := by decide +kernel
theorem d_Mo_chance_0 : decode prog_13_method_29_code 0 = .ok (.aload_n 0, 1) := by decide +kernel
theorem d_Mo_chance_1 : decode prog_13_method_29_code 1 = .ok (.iconst 0, 1) := by decide +kernel
theorem d_Mo_chance_2 : decode prog_13_method_29_code 2 = .ok (.putfield 56, 3) := by decide +kernel
theorem d_Mo_chance_5 : decode prog_13_method_29_code 5 = .ok (.aload_n 0, 1) := by decide +kernel
theorem d_Mo_chance_6 : decode prog_13_method_29_code 6 = .ok (.getfield 184, 3) := by decide +kernel
theorem d_Mo_chance_9 : decode prog_13_method_29_code 9 = .ok (.ifCond .eq 22, 3) := by decide +kernel
theorem d_Mo_chance_12 : decode prog_13_method_29_code 12 = .ok (.iload_n 1, 1) := by decide +kernel
theorem d_Mo_chance_13 : decode prog_13_method_29_code 13 = .ok (.ifCond .lt 18, 3) := by decide +kernel
theorem d_Mo_chance_16 : decode prog_13_method_29_code 16 = .ok (.iload_n 1, 1) := by decide +kernel
theorem d_Mo_chance_17 : decode prog_13_method_29_code 17 = .ok (.iconst 5, 1) := by decide +kernel
theorem d_Mo_chance_18 : decode prog_13_method_29_code 18 = .ok (.if_icmp .gt 13, 3) := by decide +kernel
theorem d_Mo_chance_21 : decode prog_13_method_29_code 21 = .ok (.iload_n 2, 1) := by decide +kernel
theorem d_Mo_chance_22 : decode prog_13_method_29_code 22 = .ok (.ifCond .lt 9, 3) := by decide +kernel
theorem d_Mo_chance_25 : decode prog_13_method_29_code 25 = .ok (.iload_n 2, 1) := by decide +kernel
theorem d_Mo_chance_26 : decode prog_13_method_29_code 26 = .ok (.bipush 11, 2) := by decide +kernel
theorem d_Mo_chance_28 : decode prog_13_method_29_code 28 = .ok (.if_icmp .le 7, 3) := by decide +kernel
theorem d_Mo_chance_31 : decode prog_13_method_29_code 31 = .ok (.iconst (-1), 1) := by decide +kernel
theorem d_Mo_chance_32 : decode prog_13_method_29_code 32 = .ok (.goto 14, 3) := by decide +kernel
theorem d_Mo_chance_35 : decode prog_13_method_29_code 35 = .ok (.aload_n 0, 1) := by decide +kernel
theorem d_Mo_chance_36 : decode prog_13_method_29_code 36 = .ok (.getfield 28, 3) := by decide +kernel
theorem d_Mo_chance_39 : decode prog_13_method_29_code 39 = .ok (.bipush 12, 2) := by decide +kernel
theorem d_Mo_chance_41 : decode prog_13_method_29_code 41 = .ok (.iload_n 1, 1) := by decide +kernel
theorem d_Mo_chance_42 : decode prog_13_method_29_code 42 = .ok (.imul, 1) := by decide +kernel
theorem d_Mo_chance_43 : decode prog_13_method_29_code 43 = .ok (.iload_n 2, 1) := by decide +kernel
theorem d_Mo_chance_44 : decode prog_13_method_29_code 44 = .ok (.iadd, 1) := by decide +kernel
theorem d_Mo_chance_45 : decode prog_13_method_29_code 45 = .ok (.iaload, 1) := by decide +kernel
theorem d_Mo_chance_46 : decode prog_13_method_29_code 46 = .ok (.ireturn, 1) := by decide +kernel
theorem d_Mo_size_0 : decode prog_13_method_30_code 0 = .ok (.aload_n 0, 1) := by decide +kernel
theorem d_Mo_size_1 : decode prog_13_method_30_code 1 = .ok (.iconst 0, 1) := by decide +kernel
theorem d_Mo_size_2 : decode prog_13_method_30_code 2 = .ok (.putfield 56, 3) := by decide +kernel
theorem d_Mo_size_5 : decode prog_13_method_30_code 5 = .ok (.aload_n 0, 1) := by decide +kernel
theorem d_Mo_size_6 : decode prog_13_method_30_code 6 = .ok (.getfield 99, 3) := by decide +kernel
theorem d_Mo_size_9 : decode prog_13_method_30_code 9 = .ok (.ireturn, 1) := by decide +kernel
theorem d_Mo_at_0 : decode prog_13_method_31_code 0 = .ok (.aload_n 0, 1) := by decide +kernel
theorem d_Mo_at_1 : decode prog_13_method_31_code 1 = .ok (.iconst 0, 1) := by decide +kernel
theorem d_Mo_at_2 : decode prog_13_method_31_code 2 = .ok (.putfield 56, 3) := by decide +kernel
theorem d_Mo_at_5 : decode prog_13_method_31_code 5 = .ok (.iload_n 1, 1) := by decide +kernel
theorem d_Mo_at_6 : decode prog_13_method_31_code 6 = .ok (.ifCond .lt 11, 3) := by decide +kernel
theorem d_Mo_at_9 : decode prog_13_method_31_code 9 = .ok (.iload_n 1, 1) := by decide +kernel
theorem d_Mo_at_10 : decode prog_13_method_31_code 10 = .ok (.aload_n 0, 1) := by decide +kernel
theorem d_Mo_at_11 : decode prog_13_method_31_code 11 = .ok (.getfield 99, 3) := by decide +kernel
theorem d_Mo_at_14 : decode prog_13_method_31_code 14 = .ok (.if_icmp .lt 7, 3) := by decide +kernel
theorem d_Mo_at_17 : decode prog_13_method_31_code 17 = .ok (.iconst (-1), 1) := by decide +kernel
theorem d_Mo_at_18 : decode prog_13_method_31_code 18 = .ok (.goto 9, 3) := by decide +kernel
theorem d_Mo_at_21 : decode prog_13_method_31_code 21 = .ok (.aload_n 0, 1) := by decide +kernel
theorem d_Mo_at_22 : decode prog_13_method_31_code 22 = .ok (.getfield 13, 3) := by decide +kernel
theorem d_Mo_at_25 : decode prog_13_method_31_code 25 = .ok (.iload_n 1, 1) := by decide +kernel
theorem d_Mo_at_26 : decode prog_13_method_31_code 26 = .ok (.iaload, 1) := by decide +kernel
theorem d_Mo_at_27 : decode prog_13_method_31_code 27 = .ok (.ireturn, 1) := by decide +kernel
theorem d_Mo_add_0 : decode prog_13_method_32_code 0 = .ok (.aload_n 0, 1) := by decide +kernel
theorem d_Mo_add_1 : decode prog_13_method_32_code 1 = .ok (.iconst 0, 1) := by decide +kernel
theorem d_Mo_add_2 : decode prog_13_method_32_code 2 = .ok (.putfield 56, 3) := by decide +kernel
theorem d_Mo_add_5 : decode prog_13_method_32_code 5 = .ok (.iload_n 1, 1) := by decide +kernel
theorem d_Mo_add_6 : decode prog_13_method_32_code 6 = .ok (.invokestatic 59, 3) := by decide +kernel
theorem d_Mo_add_9 : decode prog_13_method_32_code 9 = .ok (.ifCond .eq 13, 3) := by decide +kernel
theorem d_Mo_add_12 : decode prog_13_method_32_code 12 = .ok (.aload_n 0, 1) := by decide +kernel
theorem d_Mo_add_13 : decode prog_13_method_32_code 13 = .ok (.getfield 99, 3) := by decide +kernel
theorem d_Mo_add_16 : decode prog_13_method_32_code 16 = .ok (.sipush 200, 3) := by decide +kernel
theorem d_Mo_add_19 : decode prog_13_method_32_code 19 = .ok (.if_icmp .ne 5, 3) := by decide +kernel
theorem d_Mo_add_22 : decode prog_13_method_32_code 22 = .ok (.iconst 0, 1) := by decide +kernel
theorem d_Mo_add_23 : decode prog_13_method_32_code 23 = .ok (.ireturn, 1) := by decide +kernel
theorem d_Mo_add_24 : decode prog_13_method_32_code 24 = .ok (.aload_n 0, 1) := by decide +kernel
theorem d_Mo_add_25 : decode prog_13_method_32_code 25 = .ok (.getfield 13, 3) := by decide +kernel
theorem d_Mo_add_28 : decode prog_13_method_32_code 28 = .ok (.aload_n 0, 1) := by decide +kernel
theorem d_Mo_add_29 : decode prog_13_method_32_code 29 = .ok (.getfield 99, 3) := by decide +kernel
theorem d_Mo_add_32 : decode prog_13_method_32_code 32 = .ok (.iload_n 1, 1) := by decide +kernel
theorem d_Mo_add_33 : decode prog_13_method_32_code 33 = .ok (.iastore, 1) := by decide +kernel
theorem d_Mo_add_34 : decode prog_13_method_32_code 34 = .ok (.aload_n 0, 1) := by decide +kernel
theorem d_Mo_add_35 : decode prog_13_method_32_code 35 = .ok (.dup, 1) := by decide +kernel
theorem d_Mo_add_36 : decode prog_13_method_32_code 36 = .ok (.getfield 99, 3) := by decide +kernel
theorem d_Mo_add_39 : decode prog_13_method_32_code 39 = .ok (.iconst 1, 1) := by decide +kernel
theorem d_Mo_add_40 : decode prog_13_method_32_code 40 = .ok (.iadd, 1) := by decide +kernel
theorem d_Mo_add_41 : decode prog_13_method_32_code 41 = .ok (.putfield 99, 3) := by decide +kernel
theorem d_Mo_add_44 : decode prog_13_method_32_code 44 = .ok (.iconst 1, 1) := by decide +kernel
theorem d_Mo_add_45 : decode prog_13_method_32_code 45 = .ok (.ireturn, 1) := by decide +kernel
theorem d_Mo_put_0 : decode prog_13_method_33_code 0 = .ok (.aload_n 0, 1) := by decide +kernel
theorem d_Mo_put_1 : decode prog_13_method_33_code 1 = .ok (.iload_n 1, 1) := by decide +kernel
theorem d_Mo_put_2 : decode prog_13_method_33_code 2 = .ok (.ifCond .lt 11, 3) := by decide +kernel
theorem d_Mo_put_5 : decode prog_13_method_33_code 5 = .ok (.iload_n 1, 1) := by decide +kernel
theorem d_Mo_put_6 : decode prog_13_method_33_code 6 = .ok (.aload_n 0, 1) := by decide +kernel
theorem d_Mo_put_7 : decode prog_13_method_33_code 7 = .ok (.getfield 99, 3) := by decide +kernel
theorem d_Mo_put_10 : decode prog_13_method_33_code 10 = .ok (.if_icmp .lt 7, 3) := by decide +kernel
theorem d_Mo_put_13 : decode prog_13_method_33_code 13 = .ok (.iconst 1, 1) := by decide +kernel
theorem d_Mo_put_14 : decode prog_13_method_33_code 14 = .ok (.goto 15, 3) := by decide +kernel
theorem d_Mo_put_17 : decode prog_13_method_33_code 17 = .ok (.iload_n 2, 1) := by decide +kernel
theorem d_Mo_put_18 : decode prog_13_method_33_code 18 = .ok (.invokestatic 59, 3) := by decide +kernel
theorem d_Mo_put_21 : decode prog_13_method_33_code 21 = .ok (.ifCond .eq 7, 3) := by decide +kernel
theorem d_Mo_put_24 : decode prog_13_method_33_code 24 = .ok (.iconst 0, 1) := by decide +kernel
theorem d_Mo_put_25 : decode prog_13_method_33_code 25 = .ok (.goto 4, 3) := by decide +kernel
theorem d_Mo_put_28 : decode prog_13_method_33_code 28 = .ok (.iconst 2, 1) := by decide +kernel
theorem d_Mo_put_29 : decode prog_13_method_33_code 29 = .ok (.putfield 56, 3) := by decide +kernel
theorem d_Mo_put_32 : decode prog_13_method_33_code 32 = .ok (.aload_n 0, 1) := by decide +kernel
theorem d_Mo_put_33 : decode prog_13_method_33_code 33 = .ok (.getfield 56, 3) := by decide +kernel
theorem d_Mo_put_36 : decode prog_13_method_33_code 36 = .ok (.ifCond .le 5, 3) := by decide +kernel
theorem d_Mo_put_39 : decode prog_13_method_33_code 39 = .ok (.iconst 0, 1) := by decide +kernel
theorem d_Mo_put_40 : decode prog_13_method_33_code 40 = .ok (.ireturn, 1) := by decide +kernel
theorem d_Mo_put_41 : decode prog_13_method_33_code 41 = .ok (.aload_n 0, 1) := by decide +kernel
theorem d_Mo_put_42 : decode prog_13_method_33_code 42 = .ok (.getfield 13, 3) := by decide +kernel
theorem d_Mo_put_45 : decode prog_13_method_33_code 45 = .ok (.iload_n 1, 1) := by decide +kernel
theorem d_Mo_put_46 : decode prog_13_method_33_code 46 = .ok (.iaload, 1) := by decide +kernel
theorem d_Mo_put_47 : decode prog_13_method_33_code 47 = .ok (.istore_n 3, 1) := by decide +kernel
theorem d_Mo_put_48 : decode prog_13_method_33_code 48 = .ok (.aload_n 0, 1) := by decide +kernel
theorem d_Mo_put_49 : decode prog_13_method_33_code 49 = .ok (.getfield 13, 3) := by decide +kernel
theorem d_Mo_put_52 : decode prog_13_method_33_code 52 = .ok (.iload_n 1, 1) := by decide +kernel
theorem d_Mo_put_53 : decode prog_13_method_33_code 53 = .ok (.iload_n 2, 1) := by decide +kernel
theorem d_Mo_put_54 : decode prog_13_method_33_code 54 = .ok (.iastore, 1) := by decide +kernel
theorem d_Mo_put_55 : decode prog_13_method_33_code 55 = .ok (.iload_n 3, 1) := by decide +kernel
theorem d_Mo_put_56 : decode prog_13_method_33_code 56 = .ok (.ireturn, 1) := by decide +kernel
theorem d_Mo_cut_0 : decode prog_13_method_34_code 0 = .ok (.aload_n 0, 1) := by decide +kernel
theorem d_Mo_cut_1 : decode prog_13_method_34_code 1 = .ok (.iload_n 1, 1) := by decide +kernel
theorem d_Mo_cut_2 : decode prog_13_method_34_code 2 = .ok (.ifCond .ge 7, 3) := by decide +kernel
theorem d_Mo_cut_5 : decode prog_13_method_34_code 5 = .ok (.iconst 1, 1) := by decide +kernel
theorem d_Mo_cut_6 : decode prog_13_method_34_code 6 = .ok (.goto 4, 3) := by decide +kernel
theorem d_Mo_cut_9 : decode prog_13_method_34_code 9 = .ok (.iconst 0, 1) := by decide +kernel
theorem d_Mo_cut_10 : decode prog_13_method_34_code 10 = .ok (.putfield 56, 3) := by decide +kernel
theorem d_Mo_cut_13 : decode prog_13_method_34_code 13 = .ok (.aload_n 0, 1) := by decide +kernel
theorem d_Mo_cut_14 : decode prog_13_method_34_code 14 = .ok (.getfield 56, 3) := by decide +kernel
theorem d_Mo_cut_17 : decode prog_13_method_34_code 17 = .ok (.ifCond .gt 11, 3) := by decide +kernel
theorem d_Mo_cut_20 : decode prog_13_method_34_code 20 = .ok (.iload_n 1, 1) := by decide +kernel
theorem d_Mo_cut_21 : decode prog_13_method_34_code 21 = .ok (.aload_n 0, 1) := by decide +kernel
theorem d_Mo_cut_22 : decode prog_13_method_34_code 22 = .ok (.getfield 99, 3) := by decide +kernel
theorem d_Mo_cut_25 : decode prog_13_method_34_code 25 = .ok (.if_icmp .lt 5, 3) := by decide +kernel
theorem d_Mo_cut_28 : decode prog_13_method_34_code 28 = .ok (.iconst 0, 1) := by decide +kernel
theorem d_Mo_cut_29 : decode prog_13_method_34_code 29 = .ok (.ireturn, 1) := by decide +kernel
theorem d_Mo_cut_30 : decode prog_13_method_34_code 30 = .ok (.aload_n 0, 1) := by decide +kernel
theorem d_Mo_cut_31 : decode prog_13_method_34_code 31 = .ok (.getfield 99, 3) := by decide +kernel
theorem d_Mo_cut_34 : decode prog_13_method_34_code 34 = .ok (.iload_n 1, 1) := by decide +kernel
theorem d_Mo_cut_35 : decode prog_13_method_34_code 35 = .ok (.isub, 1) := by decide +kernel
theorem d_Mo_cut_36 : decode prog_13_method_34_code 36 = .ok (.istore_n 2, 1) := by decide +kernel
theorem d_Mo_cut_37 : decode prog_13_method_34_code 37 = .ok (.aload_n 0, 1) := by decide +kernel
theorem d_Mo_cut_38 : decode prog_13_method_34_code 38 = .ok (.iload_n 1, 1) := by decide +kernel
theorem d_Mo_cut_39 : decode prog_13_method_34_code 39 = .ok (.putfield 99, 3) := by decide +kernel
theorem d_Mo_cut_42 : decode prog_13_method_34_code 42 = .ok (.iload_n 2, 1) := by decide +kernel
theorem d_Mo_cut_43 : decode prog_13_method_34_code 43 = .ok (.ireturn, 1) := by decide +kernel
theorem d_Mo_told_0 : decode prog_13_method_35_code 0 = .ok (.aload_n 0, 1) := by decide +kernel
theorem d_Mo_told_1 : decode prog_13_method_35_code 1 = .ok (.iconst 0, 1) := by decide +kernel
theorem d_Mo_told_2 : decode prog_13_method_35_code 2 = .ok (.putfield 56, 3) := by decide +kernel
theorem d_Mo_told_5 : decode prog_13_method_35_code 5 = .ok (.aload_n 0, 1) := by decide +kernel
theorem d_Mo_told_6 : decode prog_13_method_35_code 6 = .ok (.getfield 190, 3) := by decide +kernel
theorem d_Mo_told_9 : decode prog_13_method_35_code 9 = .ok (.ireturn, 1) := by decide +kernel
theorem d_Mo_byteAt_0 : decode prog_13_method_36_code 0 = .ok (.aload_n 0, 1) := by decide +kernel
theorem d_Mo_byteAt_1 : decode prog_13_method_36_code 1 = .ok (.iconst 0, 1) := by decide +kernel
theorem d_Mo_byteAt_2 : decode prog_13_method_36_code 2 = .ok (.putfield 56, 3) := by decide +kernel
theorem d_Mo_byteAt_5 : decode prog_13_method_36_code 5 = .ok (.iload_n 1, 1) := by decide +kernel
theorem d_Mo_byteAt_6 : decode prog_13_method_36_code 6 = .ok (.ifCond .lt 11, 3) := by decide +kernel
theorem d_Mo_byteAt_9 : decode prog_13_method_36_code 9 = .ok (.iload_n 1, 1) := by decide +kernel
theorem d_Mo_byteAt_10 : decode prog_13_method_36_code 10 = .ok (.aload_n 0, 1) := by decide +kernel
theorem d_Mo_byteAt_11 : decode prog_13_method_36_code 11 = .ok (.getfield 190, 3) := by decide +kernel
theorem d_Mo_byteAt_14 : decode prog_13_method_36_code 14 = .ok (.if_icmp .lt 7, 3) := by decide +kernel
theorem d_Mo_byteAt_17 : decode prog_13_method_36_code 17 = .ok (.iconst (-1), 1) := by decide +kernel
theorem d_Mo_byteAt_18 : decode prog_13_method_36_code 18 = .ok (.goto 9, 3) := by decide +kernel
theorem d_Mo_byteAt_21 : decode prog_13_method_36_code 21 = .ok (.aload_n 0, 1) := by decide +kernel
theorem d_Mo_byteAt_22 : decode prog_13_method_36_code 22 = .ok (.getfield 16, 3) := by decide +kernel
theorem d_Mo_byteAt_25 : decode prog_13_method_36_code 25 = .ok (.iload_n 1, 1) := by decide +kernel
theorem d_Mo_byteAt_26 : decode prog_13_method_36_code 26 = .ok (.iaload, 1) := by decide +kernel
theorem d_Mo_byteAt_27 : decode prog_13_method_36_code 27 = .ok (.ireturn, 1) := by decide +kernel
theorem d_By_init_0 : decode prog_2_method_1_code 0 = .ok (.aload_n 0, 1) := by decide +kernel
theorem d_By_init_1 : decode prog_2_method_1_code 1 = .ok (.invokespecial 3, 3) := by decide +kernel
theorem d_By_init_4 : decode prog_2_method_1_code 4 = .ok (.aload_n 0, 1) := by decide +kernel
theorem d_By_init_5 : decode prog_2_method_1_code 5 = .ok (.iload_n 1, 1) := by decide +kernel
theorem d_By_init_6 : decode prog_2_method_1_code 6 = .ok (.newarray .int, 2) := by decide +kernel
theorem d_By_init_8 : decode prog_2_method_1_code 8 = .ok (.putfield 9, 3) := by decide +kernel
theorem d_By_init_11 : decode prog_2_method_1_code 11 = .ok (.return_, 1) := by decide +kernel
theorem d_By_has_0 : decode prog_2_method_2_code 0 = .ok (.iload_n 1, 1) := by decide +kernel
theorem d_By_has_1 : decode prog_2_method_2_code 1 = .ok (.ifCond .lt 15, 3) := by decide +kernel
theorem d_By_has_4 : decode prog_2_method_2_code 4 = .ok (.iload_n 1, 1) := by decide +kernel
theorem d_By_has_5 : decode prog_2_method_2_code 5 = .ok (.aload_n 0, 1) := by decide +kernel
theorem d_By_has_6 : decode prog_2_method_2_code 6 = .ok (.getfield 15, 3) := by decide +kernel
theorem d_By_has_9 : decode prog_2_method_2_code 9 = .ok (.if_icmp .ge 7, 3) := by decide +kernel
theorem d_By_has_12 : decode prog_2_method_2_code 12 = .ok (.iconst 1, 1) := by decide +kernel
theorem d_By_has_13 : decode prog_2_method_2_code 13 = .ok (.goto 4, 3) := by decide +kernel
theorem d_By_has_16 : decode prog_2_method_2_code 16 = .ok (.iconst 0, 1) := by decide +kernel
theorem d_By_has_17 : decode prog_2_method_2_code 17 = .ok (.ireturn, 1) := by decide +kernel
theorem d_By_get_0 : decode prog_2_method_3_code 0 = .ok (.aload_n 0, 1) := by decide +kernel
theorem d_By_get_1 : decode prog_2_method_3_code 1 = .ok (.iload_n 1, 1) := by decide +kernel
theorem d_By_get_2 : decode prog_2_method_3_code 2 = .ok (.invokevirtual 19, 3) := by decide +kernel
theorem d_By_get_5 : decode prog_2_method_3_code 5 = .ok (.ifCond .eq 12, 3) := by decide +kernel
theorem d_By_get_8 : decode prog_2_method_3_code 8 = .ok (.aload_n 0, 1) := by decide +kernel
theorem d_By_get_9 : decode prog_2_method_3_code 9 = .ok (.getfield 9, 3) := by decide +kernel
theorem d_By_get_12 : decode prog_2_method_3_code 12 = .ok (.iload_n 1, 1) := by decide +kernel
theorem d_By_get_13 : decode prog_2_method_3_code 13 = .ok (.iaload, 1) := by decide +kernel
theorem d_By_get_14 : decode prog_2_method_3_code 14 = .ok (.goto 4, 3) := by decide +kernel
theorem d_By_get_17 : decode prog_2_method_3_code 17 = .ok (.iconst (-1), 1) := by decide +kernel
theorem d_By_get_18 : decode prog_2_method_3_code 18 = .ok (.ireturn, 1) := by decide +kernel
theorem d_By_append_0 : decode prog_2_method_4_code 0 = .ok (.iload_n 1, 1) := by decide +kernel
theorem d_By_append_1 : decode prog_2_method_4_code 1 = .ok (.invokestatic 23, 3) := by decide +kernel
theorem d_By_append_4 : decode prog_2_method_4_code 4 = .ok (.ifCond .eq 15, 3) := by decide +kernel
theorem d_By_append_7 : decode prog_2_method_4_code 7 = .ok (.aload_n 0, 1) := by decide +kernel
theorem d_By_append_8 : decode prog_2_method_4_code 8 = .ok (.getfield 15, 3) := by decide +kernel
theorem d_By_append_11 : decode prog_2_method_4_code 11 = .ok (.aload_n 0, 1) := by decide +kernel
theorem d_By_append_12 : decode prog_2_method_4_code 12 = .ok (.getfield 9, 3) := by decide +kernel
theorem d_By_append_15 : decode prog_2_method_4_code 15 = .ok (.arraylength, 1) := by decide +kernel
theorem d_By_append_16 : decode prog_2_method_4_code 16 = .ok (.if_icmp .lt 5, 3) := by decide +kernel
theorem d_By_append_19 : decode prog_2_method_4_code 19 = .ok (.iconst 0, 1) := by decide +kernel
theorem d_By_append_20 : decode prog_2_method_4_code 20 = .ok (.ireturn, 1) := by decide +kernel
theorem d_By_append_21 : decode prog_2_method_4_code 21 = .ok (.aload_n 0, 1) := by decide +kernel
theorem d_By_append_22 : decode prog_2_method_4_code 22 = .ok (.getfield 9, 3) := by decide +kernel
theorem d_By_append_25 : decode prog_2_method_4_code 25 = .ok (.aload_n 0, 1) := by decide +kernel
theorem d_By_append_26 : decode prog_2_method_4_code 26 = .ok (.getfield 15, 3) := by decide +kernel
theorem d_By_append_29 : decode prog_2_method_4_code 29 = .ok (.iload_n 1, 1) := by decide +kernel
theorem d_By_append_30 : decode prog_2_method_4_code 30 = .ok (.iastore, 1) := by decide +kernel
theorem d_By_append_31 : decode prog_2_method_4_code 31 = .ok (.aload_n 0, 1) := by decide +kernel
theorem d_By_append_32 : decode prog_2_method_4_code 32 = .ok (.dup, 1) := by decide +kernel
