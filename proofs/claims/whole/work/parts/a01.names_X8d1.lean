theorem dX8_ask_116 : decode cX8_ask 116 = .ok (.aload_n 0, 1) := by decide +kernel
theorem dX8_ask_117 : decode cX8_ask 117 = .ok (.getfield 33, 3) := by decide +kernel
theorem dX8_ask_120 : decode cX8_ask 120 = .ok (.aload_n 0, 1) := by decide +kernel
theorem dX8_ask_121 : decode cX8_ask 121 = .ok (.getfield 89, 3) := by decide +kernel
theorem dX8_ask_124 : decode cX8_ask 124 = .ok (.iload 5, 2) := by decide +kernel
theorem dX8_ask_126 : decode cX8_ask 126 = .ok (.iload 4, 2) := by decide +kernel
theorem dX8_ask_128 : decode cX8_ask 128 = .ok (.if_icmp .le 7, 3) := by decide +kernel
theorem dX8_ask_131 : decode cX8_ask 131 = .ok (.iconst 1, 1) := by decide +kernel
theorem dX8_ask_132 : decode cX8_ask 132 = .ok (.goto 16, 3) := by decide +kernel
theorem dX8_ask_135 : decode cX8_ask 135 = .ok (.aload_n 0, 1) := by decide +kernel
theorem dX8_ask_136 : decode cX8_ask 136 = .ok (.getfield 33, 3) := by decide +kernel
theorem dX8_ask_139 : decode cX8_ask 139 = .ok (.aload_n 0, 1) := by decide +kernel
theorem dX8_ask_140 : decode cX8_ask 140 = .ok (.getfield 89, 3) := by decide +kernel
theorem dX8_ask_143 : decode cX8_ask 143 = .ok (.invokevirtual 100, 3) := by decide +kernel
theorem dX8_ask_146 : decode cX8_ask 146 = .ok (.iconst 1, 1) := by decide +kernel
theorem dX8_ask_147 : decode cX8_ask 147 = .ok (.iadd, 1) := by decide +kernel
theorem dX8_ask_148 : decode cX8_ask 148 = .ok (.invokevirtual 73, 3) := by decide +kernel
theorem dX8_ask_151 : decode cX8_ask 151 = .ok (.iload 5, 2) := by decide +kernel
theorem dX8_ask_153 : decode cX8_ask 153 = .ok (.ireturn, 1) := by decide +kernel
theorem dX8_choose_0 : decode cX8_choose 0 = .ok (.aload_n 0, 1) := by decide +kernel
theorem dX8_choose_1 : decode cX8_choose 1 = .ok (.aload_n 0, 1) := by decide +kernel
theorem dX8_choose_2 : decode cX8_choose 2 = .ok (.getfield 83, 3) := by decide +kernel
theorem dX8_choose_5 : decode cX8_choose 5 = .ok (.aload_n 0, 1) := by decide +kernel
theorem dX8_choose_6 : decode cX8_choose 6 = .ok (.getfield 23, 3) := by decide +kernel
theorem dX8_choose_9 : decode cX8_choose 9 = .ok (.aload_n 0, 1) := by decide +kernel
theorem dX8_choose_10 : decode cX8_choose 10 = .ok (.getfield 89, 3) := by decide +kernel
theorem dX8_choose_13 : decode cX8_choose 13 = .ok (.invokevirtual 100, 3) := by decide +kernel
theorem dX8_choose_16 : decode cX8_choose 16 = .ok (.iload_n 1, 1) := by decide +kernel
theorem dX8_choose_17 : decode cX8_choose 17 = .ok (.invokestatic 114, 3) := by decide +kernel
theorem dX8_choose_20 : decode cX8_choose 20 = .ok (.putfield 83, 3) := by decide +kernel
theorem dX8_choose_23 : decode cX8_choose 23 = .ok (.aload_n 0, 1) := by decide +kernel
theorem dX8_choose_24 : decode cX8_choose 24 = .ok (.aload_n 0, 1) := by decide +kernel
theorem dX8_choose_25 : decode cX8_choose 25 = .ok (.getfield 39, 3) := by decide +kernel
theorem dX8_choose_28 : decode cX8_choose 28 = .ok (.aload_n 0, 1) := by decide +kernel
theorem dX8_choose_29 : decode cX8_choose 29 = .ok (.getfield 89, 3) := by decide +kernel
theorem dX8_choose_32 : decode cX8_choose 32 = .ok (.invokevirtual 100, 3) := by decide +kernel
theorem dX8_choose_35 : decode cX8_choose 35 = .ok (.iconst 3, 1) := by decide +kernel
theorem dX8_choose_36 : decode cX8_choose 36 = .ok (.ishl, 1) := by decide +kernel
theorem dX8_choose_37 : decode cX8_choose 37 = .ok (.iload_n 1, 1) := by decide +kernel
theorem dX8_choose_38 : decode cX8_choose 38 = .ok (.ior, 1) := by decide +kernel
theorem dX8_choose_39 : decode cX8_choose 39 = .ok (.putfield 86, 3) := by decide +kernel
theorem dX8_choose_42 : decode cX8_choose 42 = .ok (.aload_n 0, 1) := by decide +kernel
theorem dX8_choose_43 : decode cX8_choose 43 = .ok (.getfield 30, 3) := by decide +kernel
theorem dX8_choose_46 : decode cX8_choose 46 = .ok (.aload_n 0, 1) := by decide +kernel
theorem dX8_choose_47 : decode cX8_choose 47 = .ok (.getfield 89, 3) := by decide +kernel
theorem dX8_choose_50 : decode cX8_choose 50 = .ok (.iload_n 1, 1) := by decide +kernel
theorem dX8_choose_51 : decode cX8_choose 51 = .ok (.iconst 1, 1) := by decide +kernel
theorem dX8_choose_52 : decode cX8_choose 52 = .ok (.iadd, 1) := by decide +kernel
theorem dX8_choose_53 : decode cX8_choose 53 = .ok (.invokevirtual 73, 3) := by decide +kernel
theorem dX8_choose_56 : decode cX8_choose 56 = .ok (.aload_n 0, 1) := by decide +kernel
theorem dX8_choose_57 : decode cX8_choose 57 = .ok (.getfield 33, 3) := by decide +kernel
theorem dX8_choose_60 : decode cX8_choose 60 = .ok (.aload_n 0, 1) := by decide +kernel
theorem dX8_choose_61 : decode cX8_choose 61 = .ok (.getfield 89, 3) := by decide +kernel
theorem dX8_choose_64 : decode cX8_choose 64 = .ok (.iconst 0, 1) := by decide +kernel
theorem dX8_choose_65 : decode cX8_choose 65 = .ok (.invokevirtual 73, 3) := by decide +kernel
theorem dX8_choose_68 : decode cX8_choose 68 = .ok (.return_, 1) := by decide +kernel
theorem dX8_least_0 : decode cX8_least 0 = .ok (.iload_n 1, 1) := by decide +kernel
theorem dX8_least_1 : decode cX8_least 1 = .ok (.iconst 0, 1) := by decide +kernel
theorem dX8_least_2 : decode cX8_least 2 = .ok (.invokestatic 118, 3) := by decide +kernel
theorem dX8_least_5 : decode cX8_least 5 = .ok (.istore 5, 2) := by decide +kernel
theorem dX8_least_7 : decode cX8_least 7 = .ok (.iload_n 1, 1) := by decide +kernel
theorem dX8_least_8 : decode cX8_least 8 = .ok (.iconst 1, 1) := by decide +kernel
theorem dX8_least_9 : decode cX8_least 9 = .ok (.invokestatic 118, 3) := by decide +kernel
theorem dX8_least_12 : decode cX8_least 12 = .ok (.istore 6, 2) := by decide +kernel
theorem dX8_least_14 : decode cX8_least 14 = .ok (.iload_n 1, 1) := by decide +kernel
theorem dX8_least_15 : decode cX8_least 15 = .ok (.iconst 2, 1) := by decide +kernel
theorem dX8_least_16 : decode cX8_least 16 = .ok (.invokestatic 118, 3) := by decide +kernel
theorem dX8_least_19 : decode cX8_least 19 = .ok (.istore 7, 2) := by decide +kernel
theorem dX8_least_21 : decode cX8_least 21 = .ok (.aload_n 0, 1) := by decide +kernel
theorem dX8_least_22 : decode cX8_least 22 = .ok (.iload 6, 2) := by decide +kernel
theorem dX8_least_24 : decode cX8_least 24 = .ok (.ldc2_w 121, 3) := by decide +kernel
theorem dX8_least_27 : decode cX8_least 27 = .ok (.bipush 8, 2) := by decide +kernel
theorem dX8_least_29 : decode cX8_least 29 = .ok (.invokevirtual 123, 3) := by decide +kernel
theorem dX8_least_32 : decode cX8_least 32 = .ok (.aload_n 0, 1) := by decide +kernel
theorem dX8_least_33 : decode cX8_least 33 = .ok (.iload 7, 2) := by decide +kernel
theorem dX8_least_35 : decode cX8_least 35 = .ok (.ldc2_w 127, 3) := by decide +kernel
theorem dX8_least_38 : decode cX8_least 38 = .ok (.iconst 1, 1) := by decide +kernel
theorem dX8_least_39 : decode cX8_least 39 = .ok (.invokevirtual 123, 3) := by decide +kernel
theorem dX8_least_42 : decode cX8_least 42 = .ok (.land, 1) := by decide +kernel
theorem dX8_least_43 : decode cX8_least 43 = .ok (.lstore 8, 2) := by decide +kernel
theorem dX8_least_45 : decode cX8_least 45 = .ok (.lload 8, 2) := by decide +kernel
theorem dX8_least_47 : decode cX8_least 47 = .ok (.iload 6, 2) := by decide +kernel
theorem dX8_least_49 : decode cX8_least 49 = .ok (.iconst (-1), 1) := by decide +kernel
theorem dX8_least_50 : decode cX8_least 50 = .ok (.if_icmp .eq 16, 3) := by decide +kernel
theorem dX8_least_53 : decode cX8_least 53 = .ok (.iload 6, 2) := by decide +kernel
theorem dX8_least_55 : decode cX8_least 55 = .ok (.iload 7, 2) := by decide +kernel
theorem dX8_least_57 : decode cX8_least 57 = .ok (.if_icmp .ne 9, 3) := by decide +kernel
theorem dX8_least_60 : decode cX8_least 60 = .ok (.ldc2_w 129, 3) := by decide +kernel
theorem dX8_least_63 : decode cX8_least 63 = .ok (.goto 6, 3) := by decide +kernel
theorem dX8_least_66 : decode cX8_least 66 = .ok (.ldc2_w 131, 3) := by decide +kernel
theorem dX8_least_69 : decode cX8_least 69 = .ok (.land, 1) := by decide +kernel
theorem dX8_least_70 : decode cX8_least 70 = .ok (.lstore 8, 2) := by decide +kernel
theorem dX8_least_72 : decode cX8_least 72 = .ok (.lconst 0, 1) := by decide +kernel
theorem dX8_least_73 : decode cX8_least 73 = .ok (.lstore 10, 2) := by decide +kernel
theorem dX8_least_75 : decode cX8_least 75 = .ok (.iload 5, 2) := by decide +kernel
theorem dX8_least_77 : decode cX8_least 77 = .ok (.aload_n 0, 1) := by decide +kernel
theorem dX8_least_78 : decode cX8_least 78 = .ok (.getfield 83, 3) := by decide +kernel
theorem dX8_least_81 : decode cX8_least 81 = .ok (.invokestatic 133, 3) := by decide +kernel
theorem dX8_least_84 : decode cX8_least 84 = .ok (.istore 12, 2) := by decide +kernel
theorem dX8_least_86 : decode cX8_least 86 = .ok (.iload 12, 2) := by decide +kernel
theorem dX8_least_88 : decode cX8_least 88 = .ok (.ifCond .eq 15, 3) := by decide +kernel
theorem dX8_least_91 : decode cX8_least 91 = .ok (.iload 5, 2) := by decide +kernel
theorem dX8_least_93 : decode cX8_least 93 = .ok (.aload_n 0, 1) := by decide +kernel
theorem dX8_least_94 : decode cX8_least 94 = .ok (.getfield 83, 3) := by decide +kernel
theorem dX8_least_97 : decode cX8_least 97 = .ok (.invokestatic 137, 3) := by decide +kernel
theorem dX8_least_100 : decode cX8_least 100 = .ok (.goto 14, 3) := by decide +kernel
theorem dX8_least_103 : decode cX8_least 103 = .ok (.iload 5, 2) := by decide +kernel
theorem dX8_least_105 : decode cX8_least 105 = .ok (.iload_n 2, 1) := by decide +kernel
theorem dX8_least_106 : decode cX8_least 106 = .ok (.if_icmp .ne 7, 3) := by decide +kernel
theorem dX8_least_109 : decode cX8_least 109 = .ok (.iload_n 3, 1) := by decide +kernel
theorem dX8_least_110 : decode cX8_least 110 = .ok (.goto 4, 3) := by decide +kernel
theorem dX8_least_113 : decode cX8_least 113 = .ok (.iconst 0, 1) := by decide +kernel
theorem dX8_least_114 : decode cX8_least 114 = .ok (.istore 13, 2) := by decide +kernel
theorem dX8_least_116 : decode cX8_least 116 = .ok (.iload 12, 2) := by decide +kernel
theorem dX8_least_118 : decode cX8_least 118 = .ok (.ifCond .eq 10, 3) := by decide +kernel
theorem dX8_least_121 : decode cX8_least 121 = .ok (.iload 13, 2) := by decide +kernel
theorem dX8_least_123 : decode cX8_least 123 = .ok (.iconst 1, 1) := by decide +kernel
theorem dX8_least_124 : decode cX8_least 124 = .ok (.iadd, 1) := by decide +kernel
theorem dX8_least_125 : decode cX8_least 125 = .ok (.goto 5, 3) := by decide +kernel
theorem dX8_least_128 : decode cX8_least 128 = .ok (.bipush 8, 2) := by decide +kernel
theorem dX8_least_130 : decode cX8_least 130 = .ok (.istore 14, 2) := by decide +kernel
theorem dX8_least_132 : decode cX8_least 132 = .ok (.iload 13, 2) := by decide +kernel
theorem dX8_least_134 : decode cX8_least 134 = .ok (.istore 15, 2) := by decide +kernel
theorem dX8_least_136 : decode cX8_least 136 = .ok (.iload 15, 2) := by decide +kernel
theorem dX8_least_138 : decode cX8_least 138 = .ok (.iload 14, 2) := by decide +kernel
theorem dX8_least_140 : decode cX8_least 140 = .ok (.if_icmp .ge 99, 3) := by decide +kernel
theorem dX8_least_143 : decode cX8_least 143 = .ok (.aload 4, 2) := by decide +kernel
theorem dX8_least_145 : decode cX8_least 145 = .ok (.iload_n 1, 1) := by decide +kernel
theorem dX8_least_146 : decode cX8_least 146 = .ok (.invokestatic 140, 3) := by decide +kernel
theorem dX8_least_149 : decode cX8_least 149 = .ok (.iload 15, 2) := by decide +kernel
theorem dX8_least_151 : decode cX8_least 151 = .ok (.invokevirtual 143, 3) := by decide +kernel
theorem dX8_least_154 : decode cX8_least 154 = .ok (.lload 8, 2) := by decide +kernel
theorem dX8_least_156 : decode cX8_least 156 = .ok (.land, 1) := by decide +kernel
theorem dX8_least_157 : decode cX8_least 157 = .ok (.lstore 16, 2) := by decide +kernel
theorem dX8_least_159 : decode cX8_least 159 = .ok (.lload 16, 2) := by decide +kernel
theorem dX8_least_161 : decode cX8_least 161 = .ok (.iload 6, 2) := by decide +kernel
theorem dX8_least_163 : decode cX8_least 163 = .ok (.iload 5, 2) := by decide +kernel
theorem dX8_least_165 : decode cX8_least 165 = .ok (.if_icmp .ne 15, 3) := by decide +kernel
theorem dX8_least_168 : decode cX8_least 168 = .ok (.ldc2_w 121, 3) := by decide +kernel
theorem dX8_least_171 : decode cX8_least 171 = .ok (.bipush 8, 2) := by decide +kernel
theorem dX8_least_173 : decode cX8_least 173 = .ok (.iload 15, 2) := by decide +kernel
theorem dX8_least_175 : decode cX8_least 175 = .ok (.imul, 1) := by decide +kernel
theorem dX8_least_176 : decode cX8_least 176 = .ok (.lshl, 1) := by decide +kernel
theorem dX8_least_177 : decode cX8_least 177 = .ok (.goto 6, 3) := by decide +kernel
theorem dX8_least_180 : decode cX8_least 180 = .ok (.ldc2_w 131, 3) := by decide +kernel
theorem dX8_least_183 : decode cX8_least 183 = .ok (.land, 1) := by decide +kernel
theorem dX8_least_184 : decode cX8_least 184 = .ok (.lstore 16, 2) := by decide +kernel
theorem dX8_least_186 : decode cX8_least 186 = .ok (.lload 16, 2) := by decide +kernel
theorem dX8_least_188 : decode cX8_least 188 = .ok (.iload 7, 2) := by decide +kernel
theorem dX8_least_190 : decode cX8_least 190 = .ok (.iload 5, 2) := by decide +kernel
theorem dX8_least_192 : decode cX8_least 192 = .ok (.if_icmp .ne 12, 3) := by decide +kernel
theorem dX8_least_195 : decode cX8_least 195 = .ok (.ldc2_w 127, 3) := by decide +kernel
theorem dX8_least_198 : decode cX8_least 198 = .ok (.iload 15, 2) := by decide +kernel
theorem dX8_least_200 : decode cX8_least 200 = .ok (.lshl, 1) := by decide +kernel
theorem dX8_least_201 : decode cX8_least 201 = .ok (.goto 6, 3) := by decide +kernel
theorem dX8_least_204 : decode cX8_least 204 = .ok (.ldc2_w 131, 3) := by decide +kernel
theorem dX8_least_207 : decode cX8_least 207 = .ok (.land, 1) := by decide +kernel
theorem dX8_least_208 : decode cX8_least 208 = .ok (.lstore 16, 2) := by decide +kernel
theorem dX8_least_210 : decode cX8_least 210 = .ok (.iload 5, 2) := by decide +kernel
theorem dX8_least_212 : decode cX8_least 212 = .ok (.iload_n 2, 1) := by decide +kernel
theorem dX8_least_213 : decode cX8_least 213 = .ok (.if_icmp .ne 13, 3) := by decide +kernel
theorem dX8_least_216 : decode cX8_least 216 = .ok (.lload 16, 2) := by decide +kernel
theorem dX8_least_218 : decode cX8_least 218 = .ok (.lconst 0, 1) := by decide +kernel
theorem dX8_least_219 : decode cX8_least 219 = .ok (.lcmp, 1) := by decide +kernel
theorem dX8_least_220 : decode cX8_least 220 = .ok (.ifCond .eq 6, 3) := by decide +kernel
theorem dX8_least_223 : decode cX8_least 223 = .ok (.iload 15, 2) := by decide +kernel
theorem dX8_least_225 : decode cX8_least 225 = .ok (.ireturn, 1) := by decide +kernel
theorem dX8_least_226 : decode cX8_least 226 = .ok (.lload 10, 2) := by decide +kernel
theorem dX8_least_228 : decode cX8_least 228 = .ok (.lload 16, 2) := by decide +kernel
theorem dX8_least_230 : decode cX8_least 230 = .ok (.lor, 1) := by decide +kernel
theorem dX8_least_231 : decode cX8_least 231 = .ok (.lstore 10, 2) := by decide +kernel
theorem dX8_least_233 : decode cX8_least 233 = .ok (.iinc 15 1, 3) := by decide +kernel
theorem dX8_least_236 : decode cX8_least 236 = .ok (.goto (-100), 3) := by decide +kernel
theorem dX8_least_239 : decode cX8_least 239 = .ok (.iload 5, 2) := by decide +kernel
theorem dX8_least_241 : decode cX8_least 241 = .ok (.iload_n 2, 1) := by decide +kernel
theorem dX8_least_242 : decode cX8_least 242 = .ok (.if_icmp .ne 7, 3) := by decide +kernel
theorem dX8_least_245 : decode cX8_least 245 = .ok (.iconst (-1), 1) := by decide +kernel
theorem dX8_least_246 : decode cX8_least 246 = .ok (.goto 21, 3) := by decide +kernel
theorem dX8_least_249 : decode cX8_least 249 = .ok (.aload_n 0, 1) := by decide +kernel
theorem dX8_least_250 : decode cX8_least 250 = .ok (.lload 10, 2) := by decide +kernel
theorem dX8_least_252 : decode cX8_least 252 = .ok (.iload_n 3, 1) := by decide +kernel
theorem dX8_least_253 : decode cX8_least 253 = .ok (.iload 6, 2) := by decide +kernel
theorem dX8_least_255 : decode cX8_least 255 = .ok (.iload_n 2, 1) := by decide +kernel
theorem dX8_least_256 : decode cX8_least 256 = .ok (.if_icmp .ne 7, 3) := by decide +kernel
theorem dX8_least_259 : decode cX8_least 259 = .ok (.iconst 1, 1) := by decide +kernel
theorem dX8_least_260 : decode cX8_least 260 = .ok (.goto 4, 3) := by decide +kernel
theorem dX8_least_263 : decode cX8_least 263 = .ok (.iconst 0, 1) := by decide +kernel
theorem dX8_least_264 : decode cX8_least 264 = .ok (.invokevirtual 149, 3) := by decide +kernel
theorem dX8_least_267 : decode cX8_least 267 = .ok (.ireturn, 1) := by decide +kernel
theorem dX8_leastIn_0 : decode cX8_leastIn 0 = .ok (.iload_n 3, 1) := by decide +kernel
theorem dX8_leastIn_1 : decode cX8_leastIn 1 = .ok (.istore 5, 2) := by decide +kernel
theorem dX8_leastIn_3 : decode cX8_leastIn 3 = .ok (.iload 5, 2) := by decide +kernel
theorem dX8_leastIn_5 : decode cX8_leastIn 5 = .ok (.bipush 8, 2) := by decide +kernel
theorem dX8_leastIn_7 : decode cX8_leastIn 7 = .ok (.if_icmp .ge 46, 3) := by decide +kernel
theorem dX8_leastIn_10 : decode cX8_leastIn 10 = .ok (.iload 4, 2) := by decide +kernel
theorem dX8_leastIn_12 : decode cX8_leastIn 12 = .ok (.ifCond .eq 15, 3) := by decide +kernel
theorem dX8_leastIn_15 : decode cX8_leastIn 15 = .ok (.ldc2_w 121, 3) := by decide +kernel
theorem dX8_leastIn_18 : decode cX8_leastIn 18 = .ok (.bipush 8, 2) := by decide +kernel
theorem dX8_leastIn_20 : decode cX8_leastIn 20 = .ok (.iload 5, 2) := by decide +kernel
theorem dX8_leastIn_22 : decode cX8_leastIn 22 = .ok (.imul, 1) := by decide +kernel
theorem dX8_leastIn_23 : decode cX8_leastIn 23 = .ok (.lshl, 1) := by decide +kernel
theorem dX8_leastIn_24 : decode cX8_leastIn 24 = .ok (.goto 9, 3) := by decide +kernel
theorem dX8_leastIn_27 : decode cX8_leastIn 27 = .ok (.ldc2_w 127, 3) := by decide +kernel
theorem dX8_leastIn_30 : decode cX8_leastIn 30 = .ok (.iload 5, 2) := by decide +kernel
theorem dX8_leastIn_32 : decode cX8_leastIn 32 = .ok (.lshl, 1) := by decide +kernel
theorem dX8_leastIn_33 : decode cX8_leastIn 33 = .ok (.lstore 6, 2) := by decide +kernel
theorem dX8_leastIn_35 : decode cX8_leastIn 35 = .ok (.lload_n 1, 1) := by decide +kernel
theorem dX8_leastIn_36 : decode cX8_leastIn 36 = .ok (.lload 6, 2) := by decide +kernel
theorem dX8_leastIn_38 : decode cX8_leastIn 38 = .ok (.land, 1) := by decide +kernel
theorem dX8_leastIn_39 : decode cX8_leastIn 39 = .ok (.lconst 0, 1) := by decide +kernel
theorem dX8_leastIn_40 : decode cX8_leastIn 40 = .ok (.lcmp, 1) := by decide +kernel
theorem dX8_leastIn_41 : decode cX8_leastIn 41 = .ok (.ifCond .eq 6, 3) := by decide +kernel
theorem dX8_leastIn_44 : decode cX8_leastIn 44 = .ok (.iload 5, 2) := by decide +kernel
theorem dX8_leastIn_46 : decode cX8_leastIn 46 = .ok (.ireturn, 1) := by decide +kernel
theorem dX8_leastIn_47 : decode cX8_leastIn 47 = .ok (.iinc 5 1, 3) := by decide +kernel
theorem dX8_leastIn_50 : decode cX8_leastIn 50 = .ok (.goto (-47), 3) := by decide +kernel
theorem dX8_leastIn_53 : decode cX8_leastIn 53 = .ok (.iconst (-1), 1) := by decide +kernel
theorem dX8_leastIn_54 : decode cX8_leastIn 54 = .ok (.ireturn, 1) := by decide +kernel
theorem dX8_mask_0 : decode cX8_mask 0 = .ok (.iload_n 1, 1) := by decide +kernel
theorem dX8_mask_1 : decode cX8_mask 1 = .ok (.iconst (-1), 1) := by decide +kernel
theorem dX8_mask_2 : decode cX8_mask 2 = .ok (.if_icmp .ne 7, 3) := by decide +kernel
theorem dX8_mask_5 : decode cX8_mask 5 = .ok (.ldc2_w 131, 3) := by decide +kernel
theorem dX8_mask_8 : decode cX8_mask 8 = .ok (.lreturn, 1) := by decide +kernel
theorem dX8_mask_9 : decode cX8_mask 9 = .ok (.aload_n 0, 1) := by decide +kernel
theorem dX8_mask_10 : decode cX8_mask 10 = .ok (.getfield 83, 3) := by decide +kernel
theorem dX8_mask_13 : decode cX8_mask 13 = .ok (.iconst 4, 1) := by decide +kernel
theorem dX8_mask_14 : decode cX8_mask 14 = .ok (.iload_n 1, 1) := by decide +kernel
theorem dX8_mask_15 : decode cX8_mask 15 = .ok (.imul, 1) := by decide +kernel
theorem dX8_mask_16 : decode cX8_mask 16 = .ok (.ishr, 1) := by decide +kernel
theorem dX8_mask_17 : decode cX8_mask 17 = .ok (.bipush 15, 2) := by decide +kernel
theorem dX8_mask_19 : decode cX8_mask 19 = .ok (.iand, 1) := by decide +kernel
theorem dX8_mask_20 : decode cX8_mask 20 = .ok (.istore 5, 2) := by decide +kernel
theorem dX8_mask_22 : decode cX8_mask 22 = .ok (.iload 5, 2) := by decide +kernel
theorem dX8_mask_24 : decode cX8_mask 24 = .ok (.ifCond .ne 9, 3) := by decide +kernel
theorem dX8_mask_27 : decode cX8_mask 27 = .ok (.ldc2_w 131, 3) := by decide +kernel
theorem dX8_mask_30 : decode cX8_mask 30 = .ok (.goto 13, 3) := by decide +kernel
theorem dX8_mask_33 : decode cX8_mask 33 = .ok (.lload_n 2, 1) := by decide +kernel
theorem dX8_mask_34 : decode cX8_mask 34 = .ok (.iload 4, 2) := by decide +kernel
theorem dX8_mask_36 : decode cX8_mask 36 = .ok (.iload 5, 2) := by decide +kernel
theorem dX8_mask_38 : decode cX8_mask 38 = .ok (.bipush 7, 2) := by decide +kernel
theorem dX8_mask_40 : decode cX8_mask 40 = .ok (.iand, 1) := by decide +kernel
theorem dX8_mask_41 : decode cX8_mask 41 = .ok (.imul, 1) := by decide +kernel
theorem dX8_mask_42 : decode cX8_mask 42 = .ok (.lshl, 1) := by decide +kernel
theorem dX8_mask_43 : decode cX8_mask 43 = .ok (.lreturn, 1) := by decide +kernel
