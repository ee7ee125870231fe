theorem dX12_init_0 : decode cX12_init 0 = .ok (.aload_n 0, 1) := by decide +kernel
theorem dX12_init_1 : decode cX12_init 1 = .ok (.invokespecial 3, 3) := by decide +kernel
theorem dX12_init_4 : decode cX12_init 4 = .ok (.aload_n 0, 1) := by decide +kernel
theorem dX12_init_5 : decode cX12_init 5 = .ok (.sipush 2780, 3) := by decide +kernel
theorem dX12_init_8 : decode cX12_init 8 = .ok (.newarray .int, 2) := by decide +kernel
theorem dX12_init_10 : decode cX12_init 10 = .ok (.putfield 9, 3) := by decide +kernel
theorem dX12_init_13 : decode cX12_init 13 = .ok (.aload_n 0, 1) := by decide +kernel
theorem dX12_init_14 : decode cX12_init 14 = .ok (.sipush 27800, 3) := by decide +kernel
theorem dX12_init_17 : decode cX12_init 17 = .ok (.newarray .int, 2) := by decide +kernel
theorem dX12_init_19 : decode cX12_init 19 = .ok (.putfield 13, 3) := by decide +kernel
theorem dX12_init_22 : decode cX12_init 22 = .ok (.aload_n 0, 1) := by decide +kernel
theorem dX12_init_23 : decode cX12_init 23 = .ok (.sipush 2560, 3) := by decide +kernel
theorem dX12_init_26 : decode cX12_init 26 = .ok (.newarray .boolean, 2) := by decide +kernel
theorem dX12_init_28 : decode cX12_init 28 = .ok (.putfield 16, 3) := by decide +kernel
theorem dX12_init_31 : decode cX12_init 31 = .ok (.aload_n 0, 1) := by decide +kernel
theorem dX12_init_32 : decode cX12_init 32 = .ok (.sipush 2560, 3) := by decide +kernel
theorem dX12_init_35 : decode cX12_init 35 = .ok (.newarray .boolean, 2) := by decide +kernel
theorem dX12_init_37 : decode cX12_init 37 = .ok (.putfield 20, 3) := by decide +kernel
theorem dX12_init_40 : decode cX12_init 40 = .ok (.aload_n 0, 1) := by decide +kernel
theorem dX12_init_41 : decode cX12_init 41 = .ok (.iconst 5, 1) := by decide +kernel
theorem dX12_init_42 : decode cX12_init 42 = .ok (.newarray .int, 2) := by decide +kernel
theorem dX12_init_44 : decode cX12_init 44 = .ok (.putfield 23, 3) := by decide +kernel
theorem dX12_init_47 : decode cX12_init 47 = .ok (.aload_n 0, 1) := by decide +kernel
theorem dX12_init_48 : decode cX12_init 48 = .ok (.iconst 4, 1) := by decide +kernel
theorem dX12_init_49 : decode cX12_init 49 = .ok (.newarray .int, 2) := by decide +kernel
theorem dX12_init_51 : decode cX12_init 51 = .ok (.putfield 26, 3) := by decide +kernel
theorem dX12_init_54 : decode cX12_init 54 = .ok (.aload_n 0, 1) := by decide +kernel
theorem dX12_init_55 : decode cX12_init 55 = .ok (.iconst 4, 1) := by decide +kernel
theorem dX12_init_56 : decode cX12_init 56 = .ok (.newarray .int, 2) := by decide +kernel
theorem dX12_init_58 : decode cX12_init 58 = .ok (.putfield 29, 3) := by decide +kernel
theorem dX12_init_61 : decode cX12_init 61 = .ok (.aload_n 0, 1) := by decide +kernel
theorem dX12_init_62 : decode cX12_init 62 = .ok (.sipush 512, 3) := by decide +kernel
theorem dX12_init_65 : decode cX12_init 65 = .ok (.newarray .boolean, 2) := by decide +kernel
theorem dX12_init_67 : decode cX12_init 67 = .ok (.putfield 32, 3) := by decide +kernel
theorem dX12_init_70 : decode cX12_init 70 = .ok (.aload_n 0, 1) := by decide +kernel
theorem dX12_init_71 : decode cX12_init 71 = .ok (.iconst 5, 1) := by decide +kernel
theorem dX12_init_72 : decode cX12_init 72 = .ok (.newarray .int, 2) := by decide +kernel
theorem dX12_init_74 : decode cX12_init 74 = .ok (.putfield 35, 3) := by decide +kernel
theorem dX12_init_77 : decode cX12_init 77 = .ok (.aload_n 0, 1) := by decide +kernel
theorem dX12_init_78 : decode cX12_init 78 = .ok (.iconst 5, 1) := by decide +kernel
theorem dX12_init_79 : decode cX12_init 79 = .ok (.newarray .boolean, 2) := by decide +kernel
theorem dX12_init_81 : decode cX12_init 81 = .ok (.putfield 38, 3) := by decide +kernel
theorem dX12_init_84 : decode cX12_init 84 = .ok (.aload_n 0, 1) := by decide +kernel
theorem dX12_init_85 : decode cX12_init 85 = .ok (.getfield 9, 3) := by decide +kernel
theorem dX12_init_88 : decode cX12_init 88 = .ok (.iconst 0, 1) := by decide +kernel
theorem dX12_init_89 : decode cX12_init 89 = .ok (.iconst 3, 1) := by decide +kernel
theorem dX12_init_90 : decode cX12_init 90 = .ok (.iastore, 1) := by decide +kernel
theorem dX12_init_91 : decode cX12_init 91 = .ok (.aload_n 0, 1) := by decide +kernel
theorem dX12_init_92 : decode cX12_init 92 = .ok (.getfield 9, 3) := by decide +kernel
theorem dX12_init_95 : decode cX12_init 95 = .ok (.iconst 1, 1) := by decide +kernel
theorem dX12_init_96 : decode cX12_init 96 = .ok (.iconst 2, 1) := by decide +kernel
theorem dX12_init_97 : decode cX12_init 97 = .ok (.iastore, 1) := by decide +kernel
theorem dX12_init_98 : decode cX12_init 98 = .ok (.aload_n 0, 1) := by decide +kernel
theorem dX12_init_99 : decode cX12_init 99 = .ok (.getfield 9, 3) := by decide +kernel
theorem dX12_init_102 : decode cX12_init 102 = .ok (.iconst 2, 1) := by decide +kernel
theorem dX12_init_103 : decode cX12_init 103 = .ok (.iconst 2, 1) := by decide +kernel
theorem dX12_init_104 : decode cX12_init 104 = .ok (.iastore, 1) := by decide +kernel
theorem dX12_init_105 : decode cX12_init 105 = .ok (.aload_n 0, 1) := by decide +kernel
theorem dX12_init_106 : decode cX12_init 106 = .ok (.getfield 9, 3) := by decide +kernel
theorem dX12_init_109 : decode cX12_init 109 = .ok (.iconst 3, 1) := by decide +kernel
theorem dX12_init_110 : decode cX12_init 110 = .ok (.iconst 1, 1) := by decide +kernel
theorem dX12_init_111 : decode cX12_init 111 = .ok (.iastore, 1) := by decide +kernel
theorem dX12_init_112 : decode cX12_init 112 = .ok (.aload_n 0, 1) := by decide +kernel
theorem dX12_init_113 : decode cX12_init 113 = .ok (.iconst 0, 1) := by decide +kernel
theorem dX12_init_114 : decode cX12_init 114 = .ok (.iconst 0, 1) := by decide +kernel
theorem dX12_init_115 : decode cX12_init 115 = .ok (.iconst 1, 1) := by decide +kernel
theorem dX12_init_116 : decode cX12_init 116 = .ok (.invokevirtual 41, 3) := by decide +kernel
theorem dX12_init_119 : decode cX12_init 119 = .ok (.aload_n 0, 1) := by decide +kernel
theorem dX12_init_120 : decode cX12_init 120 = .ok (.iconst 0, 1) := by decide +kernel
theorem dX12_init_121 : decode cX12_init 121 = .ok (.iconst 0, 1) := by decide +kernel
theorem dX12_init_122 : decode cX12_init 122 = .ok (.iconst 2, 1) := by decide +kernel
theorem dX12_init_123 : decode cX12_init 123 = .ok (.invokevirtual 41, 3) := by decide +kernel
theorem dX12_init_126 : decode cX12_init 126 = .ok (.aload_n 0, 1) := by decide +kernel
theorem dX12_init_127 : decode cX12_init 127 = .ok (.iconst 0, 1) := by decide +kernel
theorem dX12_init_128 : decode cX12_init 128 = .ok (.iconst 1, 1) := by decide +kernel
theorem dX12_init_129 : decode cX12_init 129 = .ok (.iconst 2, 1) := by decide +kernel
theorem dX12_init_130 : decode cX12_init 130 = .ok (.invokevirtual 41, 3) := by decide +kernel
theorem dX12_init_133 : decode cX12_init 133 = .ok (.aload_n 0, 1) := by decide +kernel
theorem dX12_init_134 : decode cX12_init 134 = .ok (.iconst 0, 1) := by decide +kernel
theorem dX12_init_135 : decode cX12_init 135 = .ok (.iconst 2, 1) := by decide +kernel
theorem dX12_init_136 : decode cX12_init 136 = .ok (.iconst 0, 1) := by decide +kernel
theorem dX12_init_137 : decode cX12_init 137 = .ok (.invokevirtual 41, 3) := by decide +kernel
theorem dX12_init_140 : decode cX12_init 140 = .ok (.aload_n 0, 1) := by decide +kernel
theorem dX12_init_141 : decode cX12_init 141 = .ok (.iconst 0, 1) := by decide +kernel
theorem dX12_init_142 : decode cX12_init 142 = .ok (.iconst 2, 1) := by decide +kernel
theorem dX12_init_143 : decode cX12_init 143 = .ok (.iconst 3, 1) := by decide +kernel
theorem dX12_init_144 : decode cX12_init 144 = .ok (.invokevirtual 41, 3) := by decide +kernel
theorem dX12_init_147 : decode cX12_init 147 = .ok (.aload_n 0, 1) := by decide +kernel
theorem dX12_init_148 : decode cX12_init 148 = .ok (.iconst 0, 1) := by decide +kernel
theorem dX12_init_149 : decode cX12_init 149 = .ok (.iconst 3, 1) := by decide +kernel
theorem dX12_init_150 : decode cX12_init 150 = .ok (.iconst 4, 1) := by decide +kernel
theorem dX12_init_151 : decode cX12_init 151 = .ok (.invokevirtual 41, 3) := by decide +kernel
theorem dX12_init_154 : decode cX12_init 154 = .ok (.aload_n 0, 1) := by decide +kernel
theorem dX12_init_155 : decode cX12_init 155 = .ok (.iconst 2, 1) := by decide +kernel
theorem dX12_init_156 : decode cX12_init 156 = .ok (.iconst 3, 1) := by decide +kernel
theorem dX12_init_157 : decode cX12_init 157 = .ok (.iconst 0, 1) := by decide +kernel
theorem dX12_init_158 : decode cX12_init 158 = .ok (.invokevirtual 41, 3) := by decide +kernel
theorem dX12_init_161 : decode cX12_init 161 = .ok (.iconst 0, 1) := by decide +kernel
theorem dX12_init_162 : decode cX12_init 162 = .ok (.istore_n 1, 1) := by decide +kernel
theorem dX12_init_163 : decode cX12_init 163 = .ok (.iload_n 1, 1) := by decide +kernel
theorem dX12_init_164 : decode cX12_init 164 = .ok (.iconst 4, 1) := by decide +kernel
theorem dX12_init_165 : decode cX12_init 165 = .ok (.if_icmp .ge 21, 3) := by decide +kernel
theorem dX12_init_168 : decode cX12_init 168 = .ok (.aload_n 0, 1) := by decide +kernel
theorem dX12_init_169 : decode cX12_init 169 = .ok (.getfield 9, 3) := by decide +kernel
theorem dX12_init_172 : decode cX12_init 172 = .ok (.sipush 2566, 3) := by decide +kernel
theorem dX12_init_175 : decode cX12_init 175 = .ok (.iload_n 1, 1) := by decide +kernel
theorem dX12_init_176 : decode cX12_init 176 = .ok (.iadd, 1) := by decide +kernel
theorem dX12_init_177 : decode cX12_init 177 = .ok (.bipush 123, 2) := by decide +kernel
theorem dX12_init_179 : decode cX12_init 179 = .ok (.iastore, 1) := by decide +kernel
theorem dX12_init_180 : decode cX12_init 180 = .ok (.iinc 1 1, 3) := by decide +kernel
theorem dX12_init_183 : decode cX12_init 183 = .ok (.goto (-20), 3) := by decide +kernel
theorem dX12_init_186 : decode cX12_init 186 = .ok (.aload_n 0, 1) := by decide +kernel
theorem dX12_init_187 : decode cX12_init 187 = .ok (.iconst 0, 1) := by decide +kernel
theorem dX12_init_188 : decode cX12_init 188 = .ok (.iconst 0, 1) := by decide +kernel
theorem dX12_init_189 : decode cX12_init 189 = .ok (.iconst 0, 1) := by decide +kernel
theorem dX12_init_190 : decode cX12_init 190 = .ok (.iconst 1, 1) := by decide +kernel
theorem dX12_init_191 : decode cX12_init 191 = .ok (.iconst 0, 1) := by decide +kernel
theorem dX12_init_192 : decode cX12_init 192 = .ok (.invokevirtual 45, 3) := by decide +kernel
theorem dX12_init_195 : decode cX12_init 195 = .ok (.aload_n 0, 1) := by decide +kernel
theorem dX12_init_196 : decode cX12_init 196 = .ok (.iconst 0, 1) := by decide +kernel
theorem dX12_init_197 : decode cX12_init 197 = .ok (.iconst 0, 1) := by decide +kernel
theorem dX12_init_198 : decode cX12_init 198 = .ok (.iconst 1, 1) := by decide +kernel
theorem dX12_init_199 : decode cX12_init 199 = .ok (.iconst 2, 1) := by decide +kernel
theorem dX12_init_200 : decode cX12_init 200 = .ok (.iconst 0, 1) := by decide +kernel
theorem dX12_init_201 : decode cX12_init 201 = .ok (.invokevirtual 45, 3) := by decide +kernel
theorem dX12_init_204 : decode cX12_init 204 = .ok (.aload_n 0, 1) := by decide +kernel
theorem dX12_init_205 : decode cX12_init 205 = .ok (.iconst 0, 1) := by decide +kernel
theorem dX12_init_206 : decode cX12_init 206 = .ok (.iconst 0, 1) := by decide +kernel
theorem dX12_init_207 : decode cX12_init 207 = .ok (.iconst 2, 1) := by decide +kernel
theorem dX12_init_208 : decode cX12_init 208 = .ok (.iconst 0, 1) := by decide +kernel
theorem dX12_init_209 : decode cX12_init 209 = .ok (.iconst 0, 1) := by decide +kernel
theorem dX12_init_210 : decode cX12_init 210 = .ok (.invokevirtual 45, 3) := by decide +kernel
theorem dX12_init_213 : decode cX12_init 213 = .ok (.aload_n 0, 1) := by decide +kernel
theorem dX12_init_214 : decode cX12_init 214 = .ok (.iconst 1, 1) := by decide +kernel
theorem dX12_init_215 : decode cX12_init 215 = .ok (.iconst 1, 1) := by decide +kernel
theorem dX12_init_216 : decode cX12_init 216 = .ok (.iconst 0, 1) := by decide +kernel
theorem dX12_init_217 : decode cX12_init 217 = .ok (.iconst 1, 1) := by decide +kernel
theorem dX12_init_218 : decode cX12_init 218 = .ok (.iconst 0, 1) := by decide +kernel
theorem dX12_init_219 : decode cX12_init 219 = .ok (.invokevirtual 45, 3) := by decide +kernel
theorem dX12_init_222 : decode cX12_init 222 = .ok (.aload_n 0, 1) := by decide +kernel
theorem dX12_init_223 : decode cX12_init 223 = .ok (.iconst 1, 1) := by decide +kernel
theorem dX12_init_224 : decode cX12_init 224 = .ok (.iconst 2, 1) := by decide +kernel
theorem dX12_init_225 : decode cX12_init 225 = .ok (.iconst 1, 1) := by decide +kernel
theorem dX12_init_226 : decode cX12_init 226 = .ok (.iconst 0, 1) := by decide +kernel
theorem dX12_init_227 : decode cX12_init 227 = .ok (.iconst 0, 1) := by decide +kernel
theorem dX12_init_228 : decode cX12_init 228 = .ok (.invokevirtual 45, 3) := by decide +kernel
theorem dX12_init_231 : decode cX12_init 231 = .ok (.aload_n 0, 1) := by decide +kernel
theorem dX12_init_232 : decode cX12_init 232 = .ok (.iconst 1, 1) := by decide +kernel
theorem dX12_init_233 : decode cX12_init 233 = .ok (.iconst 0, 1) := by decide +kernel
theorem dX12_init_234 : decode cX12_init 234 = .ok (.iconst 1, 1) := by decide +kernel
theorem dX12_init_235 : decode cX12_init 235 = .ok (.iconst 0, 1) := by decide +kernel
theorem dX12_init_236 : decode cX12_init 236 = .ok (.invokevirtual 49, 3) := by decide +kernel
theorem dX12_init_239 : decode cX12_init 239 = .ok (.aload_n 0, 1) := by decide +kernel
theorem dX12_init_240 : decode cX12_init 240 = .ok (.iconst 0, 1) := by decide +kernel
theorem dX12_init_241 : decode cX12_init 241 = .ok (.iconst 0, 1) := by decide +kernel
theorem dX12_init_242 : decode cX12_init 242 = .ok (.iconst 0, 1) := by decide +kernel
theorem dX12_init_243 : decode cX12_init 243 = .ok (.iconst 1, 1) := by decide +kernel
theorem dX12_init_244 : decode cX12_init 244 = .ok (.iconst 0, 1) := by decide +kernel
theorem dX12_init_245 : decode cX12_init 245 = .ok (.iconst 0, 1) := by decide +kernel
theorem dX12_init_246 : decode cX12_init 246 = .ok (.invokevirtual 53, 3) := by decide +kernel
theorem dX12_init_249 : decode cX12_init 249 = .ok (.aload_n 0, 1) := by decide +kernel
theorem dX12_init_250 : decode cX12_init 250 = .ok (.iconst 1, 1) := by decide +kernel
theorem dX12_init_251 : decode cX12_init 251 = .ok (.iconst 0, 1) := by decide +kernel
theorem dX12_init_252 : decode cX12_init 252 = .ok (.iconst 2, 1) := by decide +kernel
theorem dX12_init_253 : decode cX12_init 253 = .ok (.iconst 0, 1) := by decide +kernel
theorem dX12_init_254 : decode cX12_init 254 = .ok (.invokevirtual 49, 3) := by decide +kernel
theorem dX12_init_257 : decode cX12_init 257 = .ok (.aload_n 0, 1) := by decide +kernel
theorem dX12_init_258 : decode cX12_init 258 = .ok (.iconst 1, 1) := by decide +kernel
theorem dX12_init_259 : decode cX12_init 259 = .ok (.iconst 1, 1) := by decide +kernel
theorem dX12_init_260 : decode cX12_init 260 = .ok (.iconst 0, 1) := by decide +kernel
theorem dX12_init_261 : decode cX12_init 261 = .ok (.iconst 1, 1) := by decide +kernel
theorem dX12_init_262 : decode cX12_init 262 = .ok (.iconst 0, 1) := by decide +kernel
theorem dX12_init_263 : decode cX12_init 263 = .ok (.iconst 0, 1) := by decide +kernel
theorem dX12_init_264 : decode cX12_init 264 = .ok (.invokevirtual 53, 3) := by decide +kernel
theorem dX12_init_267 : decode cX12_init 267 = .ok (.aload_n 0, 1) := by decide +kernel
theorem dX12_init_268 : decode cX12_init 268 = .ok (.iconst 1, 1) := by decide +kernel
theorem dX12_init_269 : decode cX12_init 269 = .ok (.iconst 0, 1) := by decide +kernel
theorem dX12_init_270 : decode cX12_init 270 = .ok (.iconst 1, 1) := by decide +kernel
theorem dX12_init_271 : decode cX12_init 271 = .ok (.iconst 2, 1) := by decide +kernel
theorem dX12_init_272 : decode cX12_init 272 = .ok (.iconst 0, 1) := by decide +kernel
theorem dX12_init_273 : decode cX12_init 273 = .ok (.iconst 0, 1) := by decide +kernel
theorem dX12_init_274 : decode cX12_init 274 = .ok (.invokevirtual 53, 3) := by decide +kernel
theorem dX12_init_277 : decode cX12_init 277 = .ok (.aload_n 0, 1) := by decide +kernel
theorem dX12_init_278 : decode cX12_init 278 = .ok (.invokevirtual 57, 3) := by decide +kernel
theorem dX12_init_281 : decode cX12_init 281 = .ok (.return_, 1) := by decide +kernel
theorem dX12_thrown_0 : decode cX12_thrown 0 = .ok (.aload_n 0, 1) := by decide +kernel
theorem dX12_thrown_1 : decode cX12_thrown 1 = .ok (.getfield 60, 3) := by decide +kernel
theorem dX12_thrown_4 : decode cX12_thrown 4 = .ok (.ireturn, 1) := by decide +kernel
theorem dX12_fails_0 : decode cX12_fails 0 = .ok (.aload_n 0, 1) := by decide +kernel
theorem dX12_fails_1 : decode cX12_fails 1 = .ok (.iload_n 1, 1) := by decide +kernel
theorem dX12_fails_2 : decode cX12_fails 2 = .ok (.putfield 60, 3) := by decide +kernel
theorem dX12_fails_5 : decode cX12_fails 5 = .ok (.iconst 0, 1) := by decide +kernel
theorem dX12_fails_6 : decode cX12_fails 6 = .ok (.ireturn, 1) := by decide +kernel
theorem dX12_in_0 : decode cX12_in 0 = .ok (.iload_n 0, 1) := by decide +kernel
theorem dX12_in_1 : decode cX12_in 1 = .ok (.iload_n 1, 1) := by decide +kernel
theorem dX12_in_2 : decode cX12_in 2 = .ok (.if_icmp .lt 12, 3) := by decide +kernel
theorem dX12_in_5 : decode cX12_in 5 = .ok (.iload_n 0, 1) := by decide +kernel
theorem dX12_in_6 : decode cX12_in 6 = .ok (.iload_n 2, 1) := by decide +kernel
theorem dX12_in_7 : decode cX12_in 7 = .ok (.if_icmp .gt 7, 3) := by decide +kernel
theorem dX12_in_10 : decode cX12_in 10 = .ok (.iconst 1, 1) := by decide +kernel
theorem dX12_in_11 : decode cX12_in 11 = .ok (.goto 4, 3) := by decide +kernel
theorem dX12_in_14 : decode cX12_in 14 = .ok (.iconst 0, 1) := by decide +kernel
theorem dX12_in_15 : decode cX12_in 15 = .ok (.ireturn, 1) := by decide +kernel
theorem dX12_isTable_0 : decode cX12_isTable 0 = .ok (.iload_n 1, 1) := by decide +kernel
theorem dX12_isTable_1 : decode cX12_isTable 1 = .ok (.iconst 0, 1) := by decide +kernel
theorem dX12_isTable_2 : decode cX12_isTable 2 = .ok (.aload_n 0, 1) := by decide +kernel
theorem dX12_isTable_3 : decode cX12_isTable 3 = .ok (.getfield 9, 3) := by decide +kernel
theorem dX12_isTable_6 : decode cX12_isTable 6 = .ok (.iconst 0, 1) := by decide +kernel
theorem dX12_isTable_7 : decode cX12_isTable 7 = .ok (.iaload, 1) := by decide +kernel
theorem dX12_isTable_8 : decode cX12_isTable 8 = .ok (.iconst 1, 1) := by decide +kernel
theorem dX12_isTable_9 : decode cX12_isTable 9 = .ok (.isub, 1) := by decide +kernel
theorem dX12_isTable_10 : decode cX12_isTable 10 = .ok (.invokestatic 64, 3) := by decide +kernel
theorem dX12_isTable_13 : decode cX12_isTable 13 = .ok (.ireturn, 1) := by decide +kernel
theorem dX12_isQuery_0 : decode cX12_isQuery 0 = .ok (.iload_n 0, 1) := by decide +kernel
theorem dX12_isQuery_1 : decode cX12_isQuery 1 = .ok (.iconst 0, 1) := by decide +kernel
theorem dX12_isQuery_2 : decode cX12_isQuery 2 = .ok (.iconst 3, 1) := by decide +kernel
theorem dX12_isQuery_3 : decode cX12_isQuery 3 = .ok (.invokestatic 64, 3) := by decide +kernel
theorem dX12_isQuery_6 : decode cX12_isQuery 6 = .ok (.ireturn, 1) := by decide +kernel
theorem dX12_isRule_0 : decode cX12_isRule 0 = .ok (.iload_n 1, 1) := by decide +kernel
theorem dX12_isRule_1 : decode cX12_isRule 1 = .ok (.iconst 0, 1) := by decide +kernel
theorem dX12_isRule_2 : decode cX12_isRule 2 = .ok (.aload_n 0, 1) := by decide +kernel
theorem dX12_isRule_3 : decode cX12_isRule 3 = .ok (.getfield 9, 3) := by decide +kernel
theorem dX12_isRule_6 : decode cX12_isRule 6 = .ok (.sipush 2654, 3) := by decide +kernel
theorem dX12_isRule_9 : decode cX12_isRule 9 = .ok (.iaload, 1) := by decide +kernel
theorem dX12_isRule_10 : decode cX12_isRule 10 = .ok (.iconst 1, 1) := by decide +kernel
theorem dX12_isRule_11 : decode cX12_isRule 11 = .ok (.isub, 1) := by decide +kernel
theorem dX12_isRule_12 : decode cX12_isRule 12 = .ok (.invokestatic 64, 3) := by decide +kernel
theorem dX12_isRule_15 : decode cX12_isRule 15 = .ok (.ireturn, 1) := by decide +kernel
theorem dX12_columnsOf_0 : decode cX12_columnsOf 0 = .ok (.aload_n 0, 1) := by decide +kernel
theorem dX12_columnsOf_1 : decode cX12_columnsOf 1 = .ok (.getfield 9, 3) := by decide +kernel
theorem dX12_columnsOf_4 : decode cX12_columnsOf 4 = .ok (.iconst 1, 1) := by decide +kernel
theorem dX12_columnsOf_5 : decode cX12_columnsOf 5 = .ok (.iload_n 1, 1) := by decide +kernel
theorem dX12_columnsOf_6 : decode cX12_columnsOf 6 = .ok (.iadd, 1) := by decide +kernel
theorem dX12_columnsOf_7 : decode cX12_columnsOf 7 = .ok (.iaload, 1) := by decide +kernel
theorem dX12_columnsOf_8 : decode cX12_columnsOf 8 = .ok (.ireturn, 1) := by decide +kernel
theorem dX12_code_0 : decode cX12_code 0 = .ok (.bipush 64, 2) := by decide +kernel
theorem dX12_code_2 : decode cX12_code 2 = .ok (.iload_n 0, 1) := by decide +kernel
theorem dX12_code_3 : decode cX12_code 3 = .ok (.imul, 1) := by decide +kernel
theorem dX12_code_4 : decode cX12_code 4 = .ok (.bipush 8, 2) := by decide +kernel
theorem dX12_code_6 : decode cX12_code 6 = .ok (.iload_n 1, 1) := by decide +kernel
theorem dX12_code_7 : decode cX12_code 7 = .ok (.imul, 1) := by decide +kernel
theorem dX12_code_8 : decode cX12_code 8 = .ok (.iadd, 1) := by decide +kernel
theorem dX12_code_9 : decode cX12_code 9 = .ok (.iload_n 2, 1) := by decide +kernel
theorem dX12_code_10 : decode cX12_code 10 = .ok (.iadd, 1) := by decide +kernel
theorem dX12_code_11 : decode cX12_code 11 = .ok (.ireturn, 1) := by decide +kernel
theorem dX12_valueIn_0 : decode cX12_valueIn 0 = .ok (.iload_n 0, 1) := by decide +kernel
theorem dX12_valueIn_1 : decode cX12_valueIn 1 = .ok (.bipush 6, 2) := by decide +kernel
theorem dX12_valueIn_3 : decode cX12_valueIn 3 = .ok (.iconst 3, 1) := by decide +kernel
theorem dX12_valueIn_4 : decode cX12_valueIn 4 = .ok (.iload_n 1, 1) := by decide +kernel
theorem dX12_valueIn_5 : decode cX12_valueIn 5 = .ok (.imul, 1) := by decide +kernel
theorem dX12_valueIn_6 : decode cX12_valueIn 6 = .ok (.isub, 1) := by decide +kernel
theorem dX12_valueIn_7 : decode cX12_valueIn 7 = .ok (.ishr, 1) := by decide +kernel
theorem dX12_valueIn_8 : decode cX12_valueIn 8 = .ok (.bipush 7, 2) := by decide +kernel
theorem dX12_valueIn_10 : decode cX12_valueIn 10 = .ok (.iand, 1) := by decide +kernel
theorem dX12_valueIn_11 : decode cX12_valueIn 11 = .ok (.ireturn, 1) := by decide +kernel
theorem dX12_areRight_0 : decode cX12_areRight 0 = .ok (.aload_n 0, 1) := by decide +kernel
theorem dX12_areRight_1 : decode cX12_areRight 1 = .ok (.iload_n 1, 1) := by decide +kernel
theorem dX12_areRight_2 : decode cX12_areRight 2 = .ok (.invokevirtual 68, 3) := by decide +kernel
theorem dX12_areRight_5 : decode cX12_areRight 5 = .ok (.istore 6, 2) := by decide +kernel
theorem dX12_areRight_7 : decode cX12_areRight 7 = .ok (.iload_n 2, 1) := by decide +kernel
theorem dX12_areRight_8 : decode cX12_areRight 8 = .ok (.iconst 0, 1) := by decide +kernel
theorem dX12_areRight_9 : decode cX12_areRight 9 = .ok (.iload 5, 2) := by decide +kernel
theorem dX12_areRight_11 : decode cX12_areRight 11 = .ok (.invokestatic 64, 3) := by decide +kernel
theorem dX12_areRight_14 : decode cX12_areRight 14 = .ok (.ifCond .eq 48, 3) := by decide +kernel
theorem dX12_areRight_17 : decode cX12_areRight 17 = .ok (.iload_n 3, 1) := by decide +kernel
theorem dX12_areRight_18 : decode cX12_areRight 18 = .ok (.iconst 0, 1) := by decide +kernel
theorem dX12_areRight_19 : decode cX12_areRight 19 = .ok (.iload 6, 2) := by decide +kernel
theorem dX12_areRight_21 : decode cX12_areRight 21 = .ok (.iconst 1, 1) := by decide +kernel
theorem dX12_areRight_22 : decode cX12_areRight 22 = .ok (.if_icmp .le 8, 3) := by decide +kernel
theorem dX12_areRight_25 : decode cX12_areRight 25 = .ok (.iload 5, 2) := by decide +kernel
theorem dX12_areRight_27 : decode cX12_areRight 27 = .ok (.goto 4, 3) := by decide +kernel
theorem dX12_areRight_30 : decode cX12_areRight 30 = .ok (.iconst 0, 1) := by decide +kernel
theorem dX12_areRight_31 : decode cX12_areRight 31 = .ok (.invokestatic 64, 3) := by decide +kernel
theorem dX12_areRight_34 : decode cX12_areRight 34 = .ok (.ifCond .eq 28, 3) := by decide +kernel
theorem dX12_areRight_37 : decode cX12_areRight 37 = .ok (.iload 4, 2) := by decide +kernel
theorem dX12_areRight_39 : decode cX12_areRight 39 = .ok (.iconst 0, 1) := by decide +kernel
theorem dX12_areRight_40 : decode cX12_areRight 40 = .ok (.iload 6, 2) := by decide +kernel
theorem dX12_areRight_42 : decode cX12_areRight 42 = .ok (.iconst 2, 1) := by decide +kernel
theorem dX12_areRight_43 : decode cX12_areRight 43 = .ok (.if_icmp .le 8, 3) := by decide +kernel
theorem dX12_areRight_46 : decode cX12_areRight 46 = .ok (.iload 5, 2) := by decide +kernel
theorem dX12_areRight_48 : decode cX12_areRight 48 = .ok (.goto 4, 3) := by decide +kernel
theorem dX12_areRight_51 : decode cX12_areRight 51 = .ok (.iconst 0, 1) := by decide +kernel
theorem dX12_areRight_52 : decode cX12_areRight 52 = .ok (.invokestatic 64, 3) := by decide +kernel
theorem dX12_areRight_55 : decode cX12_areRight 55 = .ok (.ifCond .eq 7, 3) := by decide +kernel
theorem dX12_areRight_58 : decode cX12_areRight 58 = .ok (.iconst 1, 1) := by decide +kernel
theorem dX12_areRight_59 : decode cX12_areRight 59 = .ok (.goto 4, 3) := by decide +kernel
theorem dX12_areRight_62 : decode cX12_areRight 62 = .ok (.iconst 0, 1) := by decide +kernel
theorem dX12_areRight_63 : decode cX12_areRight 63 = .ok (.ireturn, 1) := by decide +kernel
theorem dX12_isFactAt_0 : decode cX12_isFactAt 0 = .ok (.aload_n 0, 1) := by decide +kernel
theorem dX12_isFactAt_1 : decode cX12_isFactAt 1 = .ok (.getfield 9, 3) := by decide +kernel
theorem dX12_isFactAt_4 : decode cX12_isFactAt 4 = .ok (.bipush 6, 2) := by decide +kernel
theorem dX12_isFactAt_6 : decode cX12_isFactAt 6 = .ok (.sipush 512, 3) := by decide +kernel
theorem dX12_isFactAt_9 : decode cX12_isFactAt 9 = .ok (.iload_n 1, 1) := by decide +kernel
theorem dX12_isFactAt_10 : decode cX12_isFactAt 10 = .ok (.imul, 1) := by decide +kernel
theorem dX12_isFactAt_11 : decode cX12_isFactAt 11 = .ok (.iadd, 1) := by decide +kernel
theorem dX12_isFactAt_12 : decode cX12_isFactAt 12 = .ok (.iload_n 2, 1) := by decide +kernel
theorem dX12_isFactAt_13 : decode cX12_isFactAt 13 = .ok (.iadd, 1) := by decide +kernel
theorem dX12_isFactAt_14 : decode cX12_isFactAt 14 = .ok (.iaload, 1) := by decide +kernel
theorem dX12_isFactAt_15 : decode cX12_isFactAt 15 = .ok (.iconst 1, 1) := by decide +kernel
theorem dX12_isFactAt_16 : decode cX12_isFactAt 16 = .ok (.if_icmp .ne 7, 3) := by decide +kernel
theorem dX12_isFactAt_19 : decode cX12_isFactAt 19 = .ok (.iconst 1, 1) := by decide +kernel
theorem dX12_isFactAt_20 : decode cX12_isFactAt 20 = .ok (.goto 4, 3) := by decide +kernel
theorem dX12_isFactAt_23 : decode cX12_isFactAt 23 = .ok (.iconst 0, 1) := by decide +kernel
theorem dX12_isFactAt_24 : decode cX12_isFactAt 24 = .ok (.ireturn, 1) := by decide +kernel
theorem dX12_tells_0 : decode cX12_tells 0 = .ok (.aload_n 0, 1) := by decide +kernel
theorem dX12_tells_1 : decode cX12_tells 1 = .ok (.getfield 9, 3) := by decide +kernel
theorem dX12_tells_4 : decode cX12_tells 4 = .ok (.bipush 6, 2) := by decide +kernel
theorem dX12_tells_6 : decode cX12_tells 6 = .ok (.sipush 512, 3) := by decide +kernel
theorem dX12_tells_9 : decode cX12_tells 9 = .ok (.iload_n 1, 1) := by decide +kernel
theorem dX12_tells_10 : decode cX12_tells 10 = .ok (.imul, 1) := by decide +kernel
theorem dX12_tells_11 : decode cX12_tells 11 = .ok (.iadd, 1) := by decide +kernel
theorem dX12_tells_12 : decode cX12_tells 12 = .ok (.iload_n 2, 1) := by decide +kernel
theorem dX12_tells_13 : decode cX12_tells 13 = .ok (.iload_n 3, 1) := by decide +kernel
theorem dX12_tells_14 : decode cX12_tells 14 = .ok (.iconst 0, 1) := by decide +kernel
theorem dX12_tells_15 : decode cX12_tells 15 = .ok (.invokestatic 72, 3) := by decide +kernel
theorem dX12_tells_18 : decode cX12_tells 18 = .ok (.iadd, 1) := by decide +kernel
theorem dX12_tells_19 : decode cX12_tells 19 = .ok (.iconst 1, 1) := by decide +kernel
theorem dX12_tells_20 : decode cX12_tells 20 = .ok (.iastore, 1) := by decide +kernel
theorem dX12_tells_21 : decode cX12_tells 21 = .ok (.return_, 1) := by decide +kernel
theorem dX12_factsOf_0 : decode cX12_factsOf 0 = .ok (.iconst 0, 1) := by decide +kernel
theorem dX12_factsOf_1 : decode cX12_factsOf 1 = .ok (.istore_n 2, 1) := by decide +kernel
theorem dX12_factsOf_2 : decode cX12_factsOf 2 = .ok (.iconst 0, 1) := by decide +kernel
theorem dX12_factsOf_3 : decode cX12_factsOf 3 = .ok (.istore_n 3, 1) := by decide +kernel
theorem dX12_factsOf_4 : decode cX12_factsOf 4 = .ok (.iload_n 3, 1) := by decide +kernel
theorem dX12_factsOf_5 : decode cX12_factsOf 5 = .ok (.sipush 512, 3) := by decide +kernel
theorem dX12_factsOf_8 : decode cX12_factsOf 8 = .ok (.if_icmp .ge 27, 3) := by decide +kernel
theorem dX12_factsOf_11 : decode cX12_factsOf 11 = .ok (.iload_n 2, 1) := by decide +kernel
theorem dX12_factsOf_12 : decode cX12_factsOf 12 = .ok (.aload_n 0, 1) := by decide +kernel
theorem dX12_factsOf_13 : decode cX12_factsOf 13 = .ok (.getfield 9, 3) := by decide +kernel
theorem dX12_factsOf_16 : decode cX12_factsOf 16 = .ok (.bipush 6, 2) := by decide +kernel
theorem dX12_factsOf_18 : decode cX12_factsOf 18 = .ok (.sipush 512, 3) := by decide +kernel
theorem dX12_factsOf_21 : decode cX12_factsOf 21 = .ok (.iload_n 1, 1) := by decide +kernel
theorem dX12_factsOf_22 : decode cX12_factsOf 22 = .ok (.imul, 1) := by decide +kernel
theorem dX12_factsOf_23 : decode cX12_factsOf 23 = .ok (.iadd, 1) := by decide +kernel
theorem dX12_factsOf_24 : decode cX12_factsOf 24 = .ok (.iload_n 3, 1) := by decide +kernel
theorem dX12_factsOf_25 : decode cX12_factsOf 25 = .ok (.iadd, 1) := by decide +kernel
theorem dX12_factsOf_26 : decode cX12_factsOf 26 = .ok (.iaload, 1) := by decide +kernel
theorem dX12_factsOf_27 : decode cX12_factsOf 27 = .ok (.iadd, 1) := by decide +kernel
theorem dX12_factsOf_28 : decode cX12_factsOf 28 = .ok (.istore_n 2, 1) := by decide +kernel
theorem dX12_factsOf_29 : decode cX12_factsOf 29 = .ok (.iinc 3 1, 3) := by decide +kernel
theorem dX12_factsOf_32 : decode cX12_factsOf 32 = .ok (.goto (-28), 3) := by decide +kernel
theorem dX12_factsOf_35 : decode cX12_factsOf 35 = .ok (.iload_n 2, 1) := by decide +kernel
theorem dX12_factsOf_36 : decode cX12_factsOf 36 = .ok (.ireturn, 1) := by decide +kernel
theorem dX12_atoms_0 : decode cX12_atoms 0 = .ok (.aload_n 0, 1) := by decide +kernel
theorem dX12_atoms_1 : decode cX12_atoms 1 = .ok (.getfield 9, 3) := by decide +kernel
theorem dX12_atoms_4 : decode cX12_atoms 4 = .ok (.sipush 2570, 3) := by decide +kernel
theorem dX12_atoms_7 : decode cX12_atoms 7 = .ok (.bipush 21, 2) := by decide +kernel
theorem dX12_atoms_9 : decode cX12_atoms 9 = .ok (.iload_n 1, 1) := by decide +kernel
theorem dX12_atoms_10 : decode cX12_atoms 10 = .ok (.imul, 1) := by decide +kernel
theorem dX12_atoms_11 : decode cX12_atoms 11 = .ok (.iadd, 1) := by decide +kernel
theorem dX12_atoms_12 : decode cX12_atoms 12 = .ok (.iaload, 1) := by decide +kernel
theorem dX12_atoms_13 : decode cX12_atoms 13 = .ok (.ireturn, 1) := by decide +kernel
theorem dX12_atomAt_0 : decode cX12_atomAt 0 = .ok (.sipush 2570, 3) := by decide +kernel
theorem dX12_atomAt_3 : decode cX12_atomAt 3 = .ok (.bipush 21, 2) := by decide +kernel
theorem dX12_atomAt_5 : decode cX12_atomAt 5 = .ok (.iload_n 1, 1) := by decide +kernel
theorem dX12_atomAt_6 : decode cX12_atomAt 6 = .ok (.imul, 1) := by decide +kernel
theorem dX12_atomAt_7 : decode cX12_atomAt 7 = .ok (.iadd, 1) := by decide +kernel
theorem dX12_atomAt_8 : decode cX12_atomAt 8 = .ok (.iconst 1, 1) := by decide +kernel
theorem dX12_atomAt_9 : decode cX12_atomAt 9 = .ok (.iadd, 1) := by decide +kernel
theorem dX12_atomAt_10 : decode cX12_atomAt 10 = .ok (.iconst 4, 1) := by decide +kernel
theorem dX12_atomAt_11 : decode cX12_atomAt 11 = .ok (.iload_n 2, 1) := by decide +kernel
theorem dX12_atomAt_12 : decode cX12_atomAt 12 = .ok (.imul, 1) := by decide +kernel
theorem dX12_atomAt_13 : decode cX12_atomAt 13 = .ok (.iadd, 1) := by decide +kernel
theorem dX12_atomAt_14 : decode cX12_atomAt 14 = .ok (.ireturn, 1) := by decide +kernel
theorem dX12_laysAtom_0 : decode cX12_laysAtom 0 = .ok (.aload_n 0, 1) := by decide +kernel
theorem dX12_laysAtom_1 : decode cX12_laysAtom 1 = .ok (.aload_n 0, 1) := by decide +kernel
theorem dX12_laysAtom_2 : decode cX12_laysAtom 2 = .ok (.iload_n 1, 1) := by decide +kernel
theorem dX12_laysAtom_3 : decode cX12_laysAtom 3 = .ok (.aload_n 0, 1) := by decide +kernel
theorem dX12_laysAtom_4 : decode cX12_laysAtom 4 = .ok (.iload_n 1, 1) := by decide +kernel
theorem dX12_laysAtom_5 : decode cX12_laysAtom 5 = .ok (.invokevirtual 76, 3) := by decide +kernel
theorem dX12_laysAtom_8 : decode cX12_laysAtom 8 = .ok (.invokevirtual 79, 3) := by decide +kernel
theorem dX12_laysAtom_11 : decode cX12_laysAtom 11 = .ok (.iload_n 2, 1) := by decide +kernel
theorem dX12_laysAtom_12 : decode cX12_laysAtom 12 = .ok (.iload_n 3, 1) := by decide +kernel
theorem dX12_laysAtom_13 : decode cX12_laysAtom 13 = .ok (.iload 4, 2) := by decide +kernel
theorem dX12_laysAtom_15 : decode cX12_laysAtom 15 = .ok (.iload 5, 2) := by decide +kernel
theorem dX12_laysAtom_17 : decode cX12_laysAtom 17 = .ok (.invokevirtual 83, 3) := by decide +kernel
theorem dX12_laysAtom_20 : decode cX12_laysAtom 20 = .ok (.aload_n 0, 1) := by decide +kernel
theorem dX12_laysAtom_21 : decode cX12_laysAtom 21 = .ok (.getfield 9, 3) := by decide +kernel
theorem dX12_laysAtom_24 : decode cX12_laysAtom 24 = .ok (.sipush 2570, 3) := by decide +kernel
theorem dX12_laysAtom_27 : decode cX12_laysAtom 27 = .ok (.bipush 21, 2) := by decide +kernel
theorem dX12_laysAtom_29 : decode cX12_laysAtom 29 = .ok (.iload_n 1, 1) := by decide +kernel
theorem dX12_laysAtom_30 : decode cX12_laysAtom 30 = .ok (.imul, 1) := by decide +kernel
theorem dX12_laysAtom_31 : decode cX12_laysAtom 31 = .ok (.iadd, 1) := by decide +kernel
theorem dX12_laysAtom_32 : decode cX12_laysAtom 32 = .ok (.dup2, 1) := by decide +kernel
theorem dX12_laysAtom_33 : decode cX12_laysAtom 33 = .ok (.iaload, 1) := by decide +kernel
theorem dX12_laysAtom_34 : decode cX12_laysAtom 34 = .ok (.iconst 1, 1) := by decide +kernel
theorem dX12_laysAtom_35 : decode cX12_laysAtom 35 = .ok (.iadd, 1) := by decide +kernel
theorem dX12_laysAtom_36 : decode cX12_laysAtom 36 = .ok (.iastore, 1) := by decide +kernel
theorem dX12_laysAtom_37 : decode cX12_laysAtom 37 = .ok (.return_, 1) := by decide +kernel
theorem dX12_laysHead_0 : decode cX12_laysHead 0 = .ok (.aload_n 0, 1) := by decide +kernel
theorem dX12_laysHead_1 : decode cX12_laysHead 1 = .ok (.getfield 9, 3) := by decide +kernel
theorem dX12_laysHead_4 : decode cX12_laysHead 4 = .ok (.iload_n 1, 1) := by decide +kernel
theorem dX12_laysHead_5 : decode cX12_laysHead 5 = .ok (.iload_n 2, 1) := by decide +kernel
theorem dX12_laysHead_6 : decode cX12_laysHead 6 = .ok (.iastore, 1) := by decide +kernel
theorem dX12_laysHead_7 : decode cX12_laysHead 7 = .ok (.aload_n 0, 1) := by decide +kernel
theorem dX12_laysHead_8 : decode cX12_laysHead 8 = .ok (.getfield 9, 3) := by decide +kernel
theorem dX12_laysHead_11 : decode cX12_laysHead 11 = .ok (.iload_n 1, 1) := by decide +kernel
theorem dX12_laysHead_12 : decode cX12_laysHead 12 = .ok (.iconst 1, 1) := by decide +kernel
theorem dX12_laysHead_13 : decode cX12_laysHead 13 = .ok (.iadd, 1) := by decide +kernel
theorem dX12_laysHead_14 : decode cX12_laysHead 14 = .ok (.iload_n 3, 1) := by decide +kernel
theorem dX12_laysHead_15 : decode cX12_laysHead 15 = .ok (.iastore, 1) := by decide +kernel
theorem dX12_laysHead_16 : decode cX12_laysHead 16 = .ok (.aload_n 0, 1) := by decide +kernel
theorem dX12_laysHead_17 : decode cX12_laysHead 17 = .ok (.getfield 9, 3) := by decide +kernel
theorem dX12_laysHead_20 : decode cX12_laysHead 20 = .ok (.iload_n 1, 1) := by decide +kernel
theorem dX12_laysHead_21 : decode cX12_laysHead 21 = .ok (.iconst 1, 1) := by decide +kernel
theorem dX12_laysHead_22 : decode cX12_laysHead 22 = .ok (.iadd, 1) := by decide +kernel
theorem dX12_laysHead_23 : decode cX12_laysHead 23 = .ok (.iconst 1, 1) := by decide +kernel
theorem dX12_laysHead_24 : decode cX12_laysHead 24 = .ok (.iadd, 1) := by decide +kernel
theorem dX12_laysHead_25 : decode cX12_laysHead 25 = .ok (.iload 4, 2) := by decide +kernel
theorem dX12_laysHead_27 : decode cX12_laysHead 27 = .ok (.iastore, 1) := by decide +kernel
theorem dX12_laysHead_28 : decode cX12_laysHead 28 = .ok (.aload_n 0, 1) := by decide +kernel
theorem dX12_laysHead_29 : decode cX12_laysHead 29 = .ok (.getfield 9, 3) := by decide +kernel
theorem dX12_laysHead_32 : decode cX12_laysHead 32 = .ok (.iload_n 1, 1) := by decide +kernel
theorem dX12_laysHead_33 : decode cX12_laysHead 33 = .ok (.iconst 1, 1) := by decide +kernel
theorem dX12_laysHead_34 : decode cX12_laysHead 34 = .ok (.iadd, 1) := by decide +kernel
theorem dX12_laysHead_35 : decode cX12_laysHead 35 = .ok (.iconst 2, 1) := by decide +kernel
theorem dX12_laysHead_36 : decode cX12_laysHead 36 = .ok (.iadd, 1) := by decide +kernel
theorem dX12_laysHead_37 : decode cX12_laysHead 37 = .ok (.iload 5, 2) := by decide +kernel
theorem dX12_laysHead_39 : decode cX12_laysHead 39 = .ok (.iastore, 1) := by decide +kernel
theorem dX12_laysHead_40 : decode cX12_laysHead 40 = .ok (.return_, 1) := by decide +kernel
theorem dX12_headAt_0 : decode cX12_headAt 0 = .ok (.sipush 2655, 3) := by decide +kernel
theorem dX12_headAt_3 : decode cX12_headAt 3 = .ok (.bipush 25, 2) := by decide +kernel
theorem dX12_headAt_5 : decode cX12_headAt 5 = .ok (.iload_n 1, 1) := by decide +kernel
theorem dX12_headAt_6 : decode cX12_headAt 6 = .ok (.imul, 1) := by decide +kernel
theorem dX12_headAt_7 : decode cX12_headAt 7 = .ok (.iadd, 1) := by decide +kernel
theorem dX12_headAt_8 : decode cX12_headAt 8 = .ok (.ireturn, 1) := by decide +kernel
theorem dX12_ruleAtoms_0 : decode cX12_ruleAtoms 0 = .ok (.aload_n 0, 1) := by decide +kernel
theorem dX12_ruleAtoms_1 : decode cX12_ruleAtoms 1 = .ok (.getfield 9, 3) := by decide +kernel
theorem dX12_ruleAtoms_4 : decode cX12_ruleAtoms 4 = .ok (.aload_n 0, 1) := by decide +kernel
theorem dX12_ruleAtoms_5 : decode cX12_ruleAtoms 5 = .ok (.iload_n 1, 1) := by decide +kernel
theorem dX12_ruleAtoms_6 : decode cX12_ruleAtoms 6 = .ok (.invokevirtual 86, 3) := by decide +kernel
theorem dX12_ruleAtoms_9 : decode cX12_ruleAtoms 9 = .ok (.iconst 4, 1) := by decide +kernel
theorem dX12_ruleAtoms_10 : decode cX12_ruleAtoms 10 = .ok (.iadd, 1) := by decide +kernel
theorem dX12_ruleAtoms_11 : decode cX12_ruleAtoms 11 = .ok (.iaload, 1) := by decide +kernel
theorem dX12_ruleAtoms_12 : decode cX12_ruleAtoms 12 = .ok (.ireturn, 1) := by decide +kernel
theorem dX12_ruleAtomAt_0 : decode cX12_ruleAtomAt 0 = .ok (.aload_n 0, 1) := by decide +kernel
theorem dX12_ruleAtomAt_1 : decode cX12_ruleAtomAt 1 = .ok (.iload_n 1, 1) := by decide +kernel
theorem dX12_ruleAtomAt_2 : decode cX12_ruleAtomAt 2 = .ok (.invokevirtual 86, 3) := by decide +kernel
theorem dX12_ruleAtomAt_5 : decode cX12_ruleAtomAt 5 = .ok (.iconst 5, 1) := by decide +kernel
theorem dX12_ruleAtomAt_6 : decode cX12_ruleAtomAt 6 = .ok (.iadd, 1) := by decide +kernel
theorem dX12_ruleAtomAt_7 : decode cX12_ruleAtomAt 7 = .ok (.iconst 5, 1) := by decide +kernel
theorem dX12_ruleAtomAt_8 : decode cX12_ruleAtomAt 8 = .ok (.iload_n 2, 1) := by decide +kernel
theorem dX12_ruleAtomAt_9 : decode cX12_ruleAtomAt 9 = .ok (.imul, 1) := by decide +kernel
theorem dX12_ruleAtomAt_10 : decode cX12_ruleAtomAt 10 = .ok (.iadd, 1) := by decide +kernel
theorem dX12_ruleAtomAt_11 : decode cX12_ruleAtomAt 11 = .ok (.ireturn, 1) := by decide +kernel
theorem dX12_isNotAt_0 : decode cX12_isNotAt 0 = .ok (.aload_n 0, 1) := by decide +kernel
theorem dX12_isNotAt_1 : decode cX12_isNotAt 1 = .ok (.getfield 9, 3) := by decide +kernel
theorem dX12_isNotAt_4 : decode cX12_isNotAt 4 = .ok (.aload_n 0, 1) := by decide +kernel
theorem dX12_isNotAt_5 : decode cX12_isNotAt 5 = .ok (.iload_n 1, 1) := by decide +kernel
theorem dX12_isNotAt_6 : decode cX12_isNotAt 6 = .ok (.iload_n 2, 1) := by decide +kernel
theorem dX12_isNotAt_7 : decode cX12_isNotAt 7 = .ok (.invokevirtual 89, 3) := by decide +kernel
theorem dX12_isNotAt_10 : decode cX12_isNotAt 10 = .ok (.iconst 4, 1) := by decide +kernel
theorem dX12_isNotAt_11 : decode cX12_isNotAt 11 = .ok (.iadd, 1) := by decide +kernel
theorem dX12_isNotAt_12 : decode cX12_isNotAt 12 = .ok (.iaload, 1) := by decide +kernel
theorem dX12_isNotAt_13 : decode cX12_isNotAt 13 = .ok (.iconst 1, 1) := by decide +kernel
theorem dX12_isNotAt_14 : decode cX12_isNotAt 14 = .ok (.if_icmp .ne 7, 3) := by decide +kernel
theorem dX12_isNotAt_17 : decode cX12_isNotAt 17 = .ok (.iconst 1, 1) := by decide +kernel
theorem dX12_isNotAt_18 : decode cX12_isNotAt 18 = .ok (.goto 4, 3) := by decide +kernel
theorem dX12_isNotAt_21 : decode cX12_isNotAt 21 = .ok (.iconst 0, 1) := by decide +kernel
theorem dX12_isNotAt_22 : decode cX12_isNotAt 22 = .ok (.ireturn, 1) := by decide +kernel
theorem dX12_laysRule_0 : decode cX12_laysRule 0 = .ok (.aload_n 0, 1) := by decide +kernel
theorem dX12_laysRule_1 : decode cX12_laysRule 1 = .ok (.aload_n 0, 1) := by decide +kernel
theorem dX12_laysRule_2 : decode cX12_laysRule 2 = .ok (.aload_n 0, 1) := by decide +kernel
theorem dX12_laysRule_3 : decode cX12_laysRule 3 = .ok (.getfield 9, 3) := by decide +kernel
theorem dX12_laysRule_6 : decode cX12_laysRule 6 = .ok (.sipush 2654, 3) := by decide +kernel
theorem dX12_laysRule_9 : decode cX12_laysRule 9 = .ok (.iaload, 1) := by decide +kernel
theorem dX12_laysRule_10 : decode cX12_laysRule 10 = .ok (.invokevirtual 86, 3) := by decide +kernel
theorem dX12_laysRule_13 : decode cX12_laysRule 13 = .ok (.iload_n 1, 1) := by decide +kernel
theorem dX12_laysRule_14 : decode cX12_laysRule 14 = .ok (.iload_n 2, 1) := by decide +kernel
theorem dX12_laysRule_15 : decode cX12_laysRule 15 = .ok (.iload_n 3, 1) := by decide +kernel
theorem dX12_laysRule_16 : decode cX12_laysRule 16 = .ok (.iload 4, 2) := by decide +kernel
theorem dX12_laysRule_18 : decode cX12_laysRule 18 = .ok (.invokevirtual 83, 3) := by decide +kernel
theorem dX12_laysRule_21 : decode cX12_laysRule 21 = .ok (.aload_n 0, 1) := by decide +kernel
theorem dX12_laysRule_22 : decode cX12_laysRule 22 = .ok (.getfield 9, 3) := by decide +kernel
theorem dX12_laysRule_25 : decode cX12_laysRule 25 = .ok (.aload_n 0, 1) := by decide +kernel
theorem dX12_laysRule_26 : decode cX12_laysRule 26 = .ok (.aload_n 0, 1) := by decide +kernel
theorem dX12_laysRule_27 : decode cX12_laysRule 27 = .ok (.getfield 9, 3) := by decide +kernel
theorem dX12_laysRule_30 : decode cX12_laysRule 30 = .ok (.sipush 2654, 3) := by decide +kernel
theorem dX12_laysRule_33 : decode cX12_laysRule 33 = .ok (.iaload, 1) := by decide +kernel
theorem dX12_laysRule_34 : decode cX12_laysRule 34 = .ok (.invokevirtual 86, 3) := by decide +kernel
theorem dX12_laysRule_37 : decode cX12_laysRule 37 = .ok (.iconst 4, 1) := by decide +kernel
theorem dX12_laysRule_38 : decode cX12_laysRule 38 = .ok (.iadd, 1) := by decide +kernel
theorem dX12_laysRule_39 : decode cX12_laysRule 39 = .ok (.iconst 0, 1) := by decide +kernel
theorem dX12_laysRule_40 : decode cX12_laysRule 40 = .ok (.iastore, 1) := by decide +kernel
theorem dX12_laysRule_41 : decode cX12_laysRule 41 = .ok (.aload_n 0, 1) := by decide +kernel
theorem dX12_laysRule_42 : decode cX12_laysRule 42 = .ok (.getfield 9, 3) := by decide +kernel
theorem dX12_laysRule_45 : decode cX12_laysRule 45 = .ok (.sipush 2654, 3) := by decide +kernel
theorem dX12_laysRule_48 : decode cX12_laysRule 48 = .ok (.dup2, 1) := by decide +kernel
theorem dX12_laysRule_49 : decode cX12_laysRule 49 = .ok (.iaload, 1) := by decide +kernel
theorem dX12_laysRule_50 : decode cX12_laysRule 50 = .ok (.iconst 1, 1) := by decide +kernel
theorem dX12_laysRule_51 : decode cX12_laysRule 51 = .ok (.iadd, 1) := by decide +kernel
theorem dX12_laysRule_52 : decode cX12_laysRule 52 = .ok (.iastore, 1) := by decide +kernel
theorem dX12_laysRule_53 : decode cX12_laysRule 53 = .ok (.return_, 1) := by decide +kernel
theorem dX12_laysRuleAtom_0 : decode cX12_laysRuleAtom 0 = .ok (.aload_n 0, 1) := by decide +kernel
theorem dX12_laysRuleAtom_1 : decode cX12_laysRuleAtom 1 = .ok (.iload_n 1, 1) := by decide +kernel
theorem dX12_laysRuleAtom_2 : decode cX12_laysRuleAtom 2 = .ok (.aload_n 0, 1) := by decide +kernel
theorem dX12_laysRuleAtom_3 : decode cX12_laysRuleAtom 3 = .ok (.iload_n 1, 1) := by decide +kernel
theorem dX12_laysRuleAtom_4 : decode cX12_laysRuleAtom 4 = .ok (.invokevirtual 92, 3) := by decide +kernel
theorem dX12_laysRuleAtom_7 : decode cX12_laysRuleAtom 7 = .ok (.invokevirtual 89, 3) := by decide +kernel
theorem dX12_laysRuleAtom_10 : decode cX12_laysRuleAtom 10 = .ok (.istore 7, 2) := by decide +kernel
theorem dX12_laysRuleAtom_12 : decode cX12_laysRuleAtom 12 = .ok (.aload_n 0, 1) := by decide +kernel
theorem dX12_laysRuleAtom_13 : decode cX12_laysRuleAtom 13 = .ok (.iload 7, 2) := by decide +kernel
theorem dX12_laysRuleAtom_15 : decode cX12_laysRuleAtom 15 = .ok (.iload_n 2, 1) := by decide +kernel
theorem dX12_laysRuleAtom_16 : decode cX12_laysRuleAtom 16 = .ok (.iload_n 3, 1) := by decide +kernel
theorem dX12_laysRuleAtom_17 : decode cX12_laysRuleAtom 17 = .ok (.iload 4, 2) := by decide +kernel
theorem dX12_laysRuleAtom_19 : decode cX12_laysRuleAtom 19 = .ok (.iload 5, 2) := by decide +kernel
theorem dX12_laysRuleAtom_21 : decode cX12_laysRuleAtom 21 = .ok (.invokevirtual 83, 3) := by decide +kernel
theorem dX12_laysRuleAtom_24 : decode cX12_laysRuleAtom 24 = .ok (.aload_n 0, 1) := by decide +kernel
theorem dX12_laysRuleAtom_25 : decode cX12_laysRuleAtom 25 = .ok (.getfield 9, 3) := by decide +kernel
theorem dX12_laysRuleAtom_28 : decode cX12_laysRuleAtom 28 = .ok (.iload 7, 2) := by decide +kernel
theorem dX12_laysRuleAtom_30 : decode cX12_laysRuleAtom 30 = .ok (.iconst 4, 1) := by decide +kernel
theorem dX12_laysRuleAtom_31 : decode cX12_laysRuleAtom 31 = .ok (.iadd, 1) := by decide +kernel
theorem dX12_laysRuleAtom_32 : decode cX12_laysRuleAtom 32 = .ok (.iload 6, 2) := by decide +kernel
theorem dX12_laysRuleAtom_34 : decode cX12_laysRuleAtom 34 = .ok (.iastore, 1) := by decide +kernel
theorem dX12_laysRuleAtom_35 : decode cX12_laysRuleAtom 35 = .ok (.aload_n 0, 1) := by decide +kernel
theorem dX12_laysRuleAtom_36 : decode cX12_laysRuleAtom 36 = .ok (.getfield 9, 3) := by decide +kernel
theorem dX12_laysRuleAtom_39 : decode cX12_laysRuleAtom 39 = .ok (.aload_n 0, 1) := by decide +kernel
theorem dX12_laysRuleAtom_40 : decode cX12_laysRuleAtom 40 = .ok (.iload_n 1, 1) := by decide +kernel
theorem dX12_laysRuleAtom_41 : decode cX12_laysRuleAtom 41 = .ok (.invokevirtual 86, 3) := by decide +kernel
theorem dX12_laysRuleAtom_44 : decode cX12_laysRuleAtom 44 = .ok (.iconst 4, 1) := by decide +kernel
theorem dX12_laysRuleAtom_45 : decode cX12_laysRuleAtom 45 = .ok (.iadd, 1) := by decide +kernel
theorem dX12_laysRuleAtom_46 : decode cX12_laysRuleAtom 46 = .ok (.dup2, 1) := by decide +kernel
theorem dX12_laysRuleAtom_47 : decode cX12_laysRuleAtom 47 = .ok (.iaload, 1) := by decide +kernel
theorem dX12_laysRuleAtom_48 : decode cX12_laysRuleAtom 48 = .ok (.iconst 1, 1) := by decide +kernel
theorem dX12_laysRuleAtom_49 : decode cX12_laysRuleAtom 49 = .ok (.iadd, 1) := by decide +kernel
theorem dX12_laysRuleAtom_50 : decode cX12_laysRuleAtom 50 = .ok (.iastore, 1) := by decide +kernel
theorem dX12_laysRuleAtom_51 : decode cX12_laysRuleAtom 51 = .ok (.return_, 1) := by decide +kernel
theorem dX12_keeps_0 : decode cX12_keeps 0 = .ok (.aload_n 0, 1) := by decide +kernel
theorem dX12_keeps_1 : decode cX12_keeps 1 = .ok (.getfield 95, 3) := by decide +kernel
theorem dX12_keeps_4 : decode cX12_keeps 4 = .ok (.bipush 10, 2) := by decide +kernel
theorem dX12_keeps_6 : decode cX12_keeps 6 = .ok (.if_icmp .ne 31, 3) := by decide +kernel
theorem dX12_keeps_9 : decode cX12_keeps 9 = .ok (.aload_n 0, 1) := by decide +kernel
theorem dX12_keeps_10 : decode cX12_keeps 10 = .ok (.getfield 13, 3) := by decide +kernel
theorem dX12_keeps_13 : decode cX12_keeps 13 = .ok (.sipush 2780, 3) := by decide +kernel
theorem dX12_keeps_16 : decode cX12_keeps 16 = .ok (.aload_n 0, 1) := by decide +kernel
theorem dX12_keeps_17 : decode cX12_keeps 17 = .ok (.getfield 13, 3) := by decide +kernel
theorem dX12_keeps_20 : decode cX12_keeps 20 = .ok (.iconst 0, 1) := by decide +kernel
theorem dX12_keeps_21 : decode cX12_keeps 21 = .ok (.sipush 25020, 3) := by decide +kernel
theorem dX12_keeps_24 : decode cX12_keeps 24 = .ok (.invokestatic 98, 3) := by decide +kernel
theorem dX12_keeps_27 : decode cX12_keeps 27 = .ok (.aload_n 0, 1) := by decide +kernel
theorem dX12_keeps_28 : decode cX12_keeps 28 = .ok (.dup, 1) := by decide +kernel
theorem dX12_keeps_29 : decode cX12_keeps 29 = .ok (.getfield 95, 3) := by decide +kernel
theorem dX12_keeps_32 : decode cX12_keeps 32 = .ok (.iconst 1, 1) := by decide +kernel
theorem dX12_keeps_33 : decode cX12_keeps 33 = .ok (.isub, 1) := by decide +kernel
theorem dX12_keeps_34 : decode cX12_keeps 34 = .ok (.putfield 95, 3) := by decide +kernel
theorem dX12_keeps_37 : decode cX12_keeps 37 = .ok (.aload_n 0, 1) := by decide +kernel
theorem dX12_keeps_38 : decode cX12_keeps 38 = .ok (.getfield 9, 3) := by decide +kernel
theorem dX12_keeps_41 : decode cX12_keeps 41 = .ok (.iconst 0, 1) := by decide +kernel
theorem dX12_keeps_42 : decode cX12_keeps 42 = .ok (.aload_n 0, 1) := by decide +kernel
theorem dX12_keeps_43 : decode cX12_keeps 43 = .ok (.getfield 13, 3) := by decide +kernel
theorem dX12_keeps_46 : decode cX12_keeps 46 = .ok (.aload_n 0, 1) := by decide +kernel
theorem dX12_keeps_47 : decode cX12_keeps 47 = .ok (.getfield 95, 3) := by decide +kernel
theorem dX12_keeps_50 : decode cX12_keeps 50 = .ok (.sipush 2780, 3) := by decide +kernel
theorem dX12_keeps_53 : decode cX12_keeps 53 = .ok (.imul, 1) := by decide +kernel
theorem dX12_keeps_54 : decode cX12_keeps 54 = .ok (.sipush 2780, 3) := by decide +kernel
theorem dX12_keeps_57 : decode cX12_keeps 57 = .ok (.invokestatic 98, 3) := by decide +kernel
theorem dX12_keeps_60 : decode cX12_keeps 60 = .ok (.aload_n 0, 1) := by decide +kernel
theorem dX12_keeps_61 : decode cX12_keeps 61 = .ok (.dup, 1) := by decide +kernel
theorem dX12_keeps_62 : decode cX12_keeps 62 = .ok (.getfield 95, 3) := by decide +kernel
theorem dX12_keeps_65 : decode cX12_keeps 65 = .ok (.iconst 1, 1) := by decide +kernel
theorem dX12_keeps_66 : decode cX12_keeps 66 = .ok (.iadd, 1) := by decide +kernel
theorem dX12_keeps_67 : decode cX12_keeps 67 = .ok (.putfield 95, 3) := by decide +kernel
theorem dX12_keeps_70 : decode cX12_keeps 70 = .ok (.return_, 1) := by decide +kernel
theorem dX12_variables_0 : decode cX12_variables 0 = .ok (.iconst 0, 1) := by decide +kernel
theorem dX12_variables_1 : decode cX12_variables 1 = .ok (.istore_n 2, 1) := by decide +kernel
theorem dX12_variables_2 : decode cX12_variables 2 = .ok (.iconst 0, 1) := by decide +kernel
theorem dX12_variables_3 : decode cX12_variables 3 = .ok (.istore_n 3, 1) := by decide +kernel
theorem dX12_variables_4 : decode cX12_variables 4 = .ok (.iload_n 3, 1) := by decide +kernel
theorem dX12_variables_5 : decode cX12_variables 5 = .ok (.aload_n 0, 1) := by decide +kernel
theorem dX12_variables_6 : decode cX12_variables 6 = .ok (.aload_n 0, 1) := by decide +kernel
theorem dX12_variables_7 : decode cX12_variables 7 = .ok (.getfield 9, 3) := by decide +kernel
theorem dX12_variables_10 : decode cX12_variables 10 = .ok (.iload_n 1, 1) := by decide +kernel
theorem dX12_variables_11 : decode cX12_variables 11 = .ok (.iaload, 1) := by decide +kernel
theorem dX12_variables_12 : decode cX12_variables 12 = .ok (.invokevirtual 68, 3) := by decide +kernel
theorem dX12_variables_15 : decode cX12_variables 15 = .ok (.if_icmp .ge 24, 3) := by decide +kernel
theorem dX12_variables_18 : decode cX12_variables 18 = .ok (.iload_n 2, 1) := by decide +kernel
theorem dX12_variables_19 : decode cX12_variables 19 = .ok (.iconst 1, 1) := by decide +kernel
theorem dX12_variables_20 : decode cX12_variables 20 = .ok (.aload_n 0, 1) := by decide +kernel
theorem dX12_variables_21 : decode cX12_variables 21 = .ok (.getfield 9, 3) := by decide +kernel
theorem dX12_variables_24 : decode cX12_variables 24 = .ok (.iload_n 1, 1) := by decide +kernel
theorem dX12_variables_25 : decode cX12_variables 25 = .ok (.iconst 1, 1) := by decide +kernel
theorem dX12_variables_26 : decode cX12_variables 26 = .ok (.iadd, 1) := by decide +kernel
theorem dX12_variables_27 : decode cX12_variables 27 = .ok (.iload_n 3, 1) := by decide +kernel
theorem dX12_variables_28 : decode cX12_variables 28 = .ok (.iadd, 1) := by decide +kernel
theorem dX12_variables_29 : decode cX12_variables 29 = .ok (.iaload, 1) := by decide +kernel
theorem dX12_variables_30 : decode cX12_variables 30 = .ok (.ishl, 1) := by decide +kernel
theorem dX12_variables_31 : decode cX12_variables 31 = .ok (.ior, 1) := by decide +kernel
theorem dX12_variables_32 : decode cX12_variables 32 = .ok (.istore_n 2, 1) := by decide +kernel
theorem dX12_variables_33 : decode cX12_variables 33 = .ok (.iinc 3 1, 3) := by decide +kernel
theorem dX12_variables_36 : decode cX12_variables 36 = .ok (.goto (-32), 3) := by decide +kernel
theorem dX12_variables_39 : decode cX12_variables 39 = .ok (.iload_n 2, 1) := by decide +kernel
theorem dX12_variables_40 : decode cX12_variables 40 = .ok (.ireturn, 1) := by decide +kernel
theorem dX12_codeBy_0 : decode cX12_codeBy 0 = .ok (.iconst 0, 1) := by decide +kernel
theorem dX12_codeBy_1 : decode cX12_codeBy 1 = .ok (.istore_n 2, 1) := by decide +kernel
theorem dX12_codeBy_2 : decode cX12_codeBy 2 = .ok (.iconst 0, 1) := by decide +kernel
theorem dX12_codeBy_3 : decode cX12_codeBy 3 = .ok (.istore_n 3, 1) := by decide +kernel
theorem dX12_codeBy_4 : decode cX12_codeBy 4 = .ok (.iload_n 3, 1) := by decide +kernel
theorem dX12_codeBy_5 : decode cX12_codeBy 5 = .ok (.aload_n 0, 1) := by decide +kernel
theorem dX12_codeBy_6 : decode cX12_codeBy 6 = .ok (.aload_n 0, 1) := by decide +kernel
theorem dX12_codeBy_7 : decode cX12_codeBy 7 = .ok (.getfield 9, 3) := by decide +kernel
theorem dX12_codeBy_10 : decode cX12_codeBy 10 = .ok (.iload_n 1, 1) := by decide +kernel
theorem dX12_codeBy_11 : decode cX12_codeBy 11 = .ok (.iaload, 1) := by decide +kernel
theorem dX12_codeBy_12 : decode cX12_codeBy 12 = .ok (.invokevirtual 68, 3) := by decide +kernel
theorem dX12_codeBy_15 : decode cX12_codeBy 15 = .ok (.if_icmp .ge 34, 3) := by decide +kernel
theorem dX12_codeBy_18 : decode cX12_codeBy 18 = .ok (.iload_n 2, 1) := by decide +kernel
theorem dX12_codeBy_19 : decode cX12_codeBy 19 = .ok (.aload_n 0, 1) := by decide +kernel
theorem dX12_codeBy_20 : decode cX12_codeBy 20 = .ok (.getfield 26, 3) := by decide +kernel
theorem dX12_codeBy_23 : decode cX12_codeBy 23 = .ok (.aload_n 0, 1) := by decide +kernel
theorem dX12_codeBy_24 : decode cX12_codeBy 24 = .ok (.getfield 9, 3) := by decide +kernel
theorem dX12_codeBy_27 : decode cX12_codeBy 27 = .ok (.iload_n 1, 1) := by decide +kernel
theorem dX12_codeBy_28 : decode cX12_codeBy 28 = .ok (.iconst 1, 1) := by decide +kernel
theorem dX12_codeBy_29 : decode cX12_codeBy 29 = .ok (.iadd, 1) := by decide +kernel
theorem dX12_codeBy_30 : decode cX12_codeBy 30 = .ok (.iload_n 3, 1) := by decide +kernel
theorem dX12_codeBy_31 : decode cX12_codeBy 31 = .ok (.iadd, 1) := by decide +kernel
theorem dX12_codeBy_32 : decode cX12_codeBy 32 = .ok (.iaload, 1) := by decide +kernel
theorem dX12_codeBy_33 : decode cX12_codeBy 33 = .ok (.iaload, 1) := by decide +kernel
theorem dX12_codeBy_34 : decode cX12_codeBy 34 = .ok (.bipush 6, 2) := by decide +kernel
theorem dX12_codeBy_36 : decode cX12_codeBy 36 = .ok (.iconst 3, 1) := by decide +kernel
theorem dX12_codeBy_37 : decode cX12_codeBy 37 = .ok (.iload_n 3, 1) := by decide +kernel
theorem dX12_codeBy_38 : decode cX12_codeBy 38 = .ok (.imul, 1) := by decide +kernel
theorem dX12_codeBy_39 : decode cX12_codeBy 39 = .ok (.isub, 1) := by decide +kernel
theorem dX12_codeBy_40 : decode cX12_codeBy 40 = .ok (.ishl, 1) := by decide +kernel
theorem dX12_codeBy_41 : decode cX12_codeBy 41 = .ok (.ior, 1) := by decide +kernel
theorem dX12_codeBy_42 : decode cX12_codeBy 42 = .ok (.istore_n 2, 1) := by decide +kernel
theorem dX12_codeBy_43 : decode cX12_codeBy 43 = .ok (.iinc 3 1, 3) := by decide +kernel
theorem dX12_codeBy_46 : decode cX12_codeBy 46 = .ok (.goto (-42), 3) := by decide +kernel
theorem dX12_codeBy_49 : decode cX12_codeBy 49 = .ok (.iload_n 2, 1) := by decide +kernel
theorem dX12_codeBy_50 : decode cX12_codeBy 50 = .ok (.ireturn, 1) := by decide +kernel
theorem dX12_fits_0 : decode cX12_fits 0 = .ok (.aload_n 0, 1) := by decide +kernel
theorem dX12_fits_1 : decode cX12_fits 1 = .ok (.getfield 16, 3) := by decide +kernel
theorem dX12_fits_4 : decode cX12_fits 4 = .ok (.sipush 512, 3) := by decide +kernel
theorem dX12_fits_7 : decode cX12_fits 7 = .ok (.aload_n 0, 1) := by decide +kernel
theorem dX12_fits_8 : decode cX12_fits 8 = .ok (.getfield 9, 3) := by decide +kernel
theorem dX12_fits_11 : decode cX12_fits 11 = .ok (.iload_n 1, 1) := by decide +kernel
theorem dX12_fits_12 : decode cX12_fits 12 = .ok (.iaload, 1) := by decide +kernel
theorem dX12_fits_13 : decode cX12_fits 13 = .ok (.imul, 1) := by decide +kernel
theorem dX12_fits_14 : decode cX12_fits 14 = .ok (.aload_n 0, 1) := by decide +kernel
theorem dX12_fits_15 : decode cX12_fits 15 = .ok (.iload_n 1, 1) := by decide +kernel
theorem dX12_fits_16 : decode cX12_fits 16 = .ok (.invokevirtual 104, 3) := by decide +kernel
theorem dX12_fits_19 : decode cX12_fits 19 = .ok (.iadd, 1) := by decide +kernel
theorem dX12_fits_20 : decode cX12_fits 20 = .ok (.baload, 1) := by decide +kernel
theorem dX12_fits_21 : decode cX12_fits 21 = .ok (.ireturn, 1) := by decide +kernel
theorem dX12_variablesOfRule_0 : decode cX12_variablesOfRule 0 = .ok (.iconst 0, 1) := by decide +kernel
theorem dX12_variablesOfRule_1 : decode cX12_variablesOfRule 1 = .ok (.istore_n 3, 1) := by decide +kernel
theorem dX12_variablesOfRule_2 : decode cX12_variablesOfRule 2 = .ok (.iconst 0, 1) := by decide +kernel
theorem dX12_variablesOfRule_3 : decode cX12_variablesOfRule 3 = .ok (.istore 4, 2) := by decide +kernel
theorem dX12_variablesOfRule_5 : decode cX12_variablesOfRule 5 = .ok (.iload 4, 2) := by decide +kernel
theorem dX12_variablesOfRule_7 : decode cX12_variablesOfRule 7 = .ok (.aload_n 0, 1) := by decide +kernel
theorem dX12_variablesOfRule_8 : decode cX12_variablesOfRule 8 = .ok (.iload_n 1, 1) := by decide +kernel
theorem dX12_variablesOfRule_9 : decode cX12_variablesOfRule 9 = .ok (.invokevirtual 92, 3) := by decide +kernel
theorem dX12_variablesOfRule_12 : decode cX12_variablesOfRule 12 = .ok (.if_icmp .ge 34, 3) := by decide +kernel
theorem dX12_variablesOfRule_15 : decode cX12_variablesOfRule 15 = .ok (.aload_n 0, 1) := by decide +kernel
theorem dX12_variablesOfRule_16 : decode cX12_variablesOfRule 16 = .ok (.iload_n 1, 1) := by decide +kernel
theorem dX12_variablesOfRule_17 : decode cX12_variablesOfRule 17 = .ok (.iload 4, 2) := by decide +kernel
theorem dX12_variablesOfRule_19 : decode cX12_variablesOfRule 19 = .ok (.invokevirtual 107, 3) := by decide +kernel
theorem dX12_variablesOfRule_22 : decode cX12_variablesOfRule 22 = .ok (.iload_n 2, 1) := by decide +kernel
theorem dX12_variablesOfRule_23 : decode cX12_variablesOfRule 23 = .ok (.if_icmp .ne 17, 3) := by decide +kernel
theorem dX12_variablesOfRule_26 : decode cX12_variablesOfRule 26 = .ok (.iload_n 3, 1) := by decide +kernel
theorem dX12_variablesOfRule_27 : decode cX12_variablesOfRule 27 = .ok (.aload_n 0, 1) := by decide +kernel
theorem dX12_variablesOfRule_28 : decode cX12_variablesOfRule 28 = .ok (.aload_n 0, 1) := by decide +kernel
theorem dX12_variablesOfRule_29 : decode cX12_variablesOfRule 29 = .ok (.iload_n 1, 1) := by decide +kernel
theorem dX12_variablesOfRule_30 : decode cX12_variablesOfRule 30 = .ok (.iload 4, 2) := by decide +kernel
theorem dX12_variablesOfRule_32 : decode cX12_variablesOfRule 32 = .ok (.invokevirtual 89, 3) := by decide +kernel
theorem dX12_variablesOfRule_35 : decode cX12_variablesOfRule 35 = .ok (.invokevirtual 111, 3) := by decide +kernel
theorem dX12_variablesOfRule_38 : decode cX12_variablesOfRule 38 = .ok (.ior, 1) := by decide +kernel
theorem dX12_variablesOfRule_39 : decode cX12_variablesOfRule 39 = .ok (.istore_n 3, 1) := by decide +kernel
theorem dX12_variablesOfRule_40 : decode cX12_variablesOfRule 40 = .ok (.iinc 4 1, 3) := by decide +kernel
theorem dX12_variablesOfRule_43 : decode cX12_variablesOfRule 43 = .ok (.goto (-38), 3) := by decide +kernel
theorem dX12_variablesOfRule_46 : decode cX12_variablesOfRule 46 = .ok (.iload_n 3, 1) := by decide +kernel
theorem dX12_variablesOfRule_47 : decode cX12_variablesOfRule 47 = .ok (.ireturn, 1) := by decide +kernel
theorem dX12_isIdleRule_0 : decode cX12_isIdleRule 0 = .ok (.aload_n 0, 1) := by decide +kernel
theorem dX12_isIdleRule_1 : decode cX12_isIdleRule 1 = .ok (.iload_n 1, 1) := by decide +kernel
theorem dX12_isIdleRule_2 : decode cX12_isIdleRule 2 = .ok (.iconst 0, 1) := by decide +kernel
theorem dX12_isIdleRule_3 : decode cX12_isIdleRule 3 = .ok (.invokevirtual 114, 3) := by decide +kernel
theorem dX12_isIdleRule_6 : decode cX12_isIdleRule 6 = .ok (.istore_n 2, 1) := by decide +kernel
theorem dX12_isIdleRule_7 : decode cX12_isIdleRule 7 = .ok (.aload_n 0, 1) := by decide +kernel
theorem dX12_isIdleRule_8 : decode cX12_isIdleRule 8 = .ok (.aload_n 0, 1) := by decide +kernel
theorem dX12_isIdleRule_9 : decode cX12_isIdleRule 9 = .ok (.iload_n 1, 1) := by decide +kernel
theorem dX12_isIdleRule_10 : decode cX12_isIdleRule 10 = .ok (.invokevirtual 86, 3) := by decide +kernel
theorem dX12_isIdleRule_13 : decode cX12_isIdleRule 13 = .ok (.invokevirtual 111, 3) := by decide +kernel
theorem dX12_isIdleRule_16 : decode cX12_isIdleRule 16 = .ok (.aload_n 0, 1) := by decide +kernel
theorem dX12_isIdleRule_17 : decode cX12_isIdleRule 17 = .ok (.iload_n 1, 1) := by decide +kernel
theorem dX12_isIdleRule_18 : decode cX12_isIdleRule 18 = .ok (.iconst 1, 1) := by decide +kernel
theorem dX12_isIdleRule_19 : decode cX12_isIdleRule 19 = .ok (.invokevirtual 114, 3) := by decide +kernel
theorem dX12_isIdleRule_22 : decode cX12_isIdleRule 22 = .ok (.ior, 1) := by decide +kernel
theorem dX12_isIdleRule_23 : decode cX12_isIdleRule 23 = .ok (.istore_n 3, 1) := by decide +kernel
theorem dX12_isIdleRule_24 : decode cX12_isIdleRule 24 = .ok (.iload_n 2, 1) := by decide +kernel
theorem dX12_isIdleRule_25 : decode cX12_isIdleRule 25 = .ok (.ifCond .eq 11, 3) := by decide +kernel
theorem dX12_isIdleRule_28 : decode cX12_isIdleRule 28 = .ok (.iload_n 3, 1) := by decide +kernel
theorem dX12_isIdleRule_29 : decode cX12_isIdleRule 29 = .ok (.iload_n 2, 1) := by decide +kernel
theorem dX12_isIdleRule_30 : decode cX12_isIdleRule 30 = .ok (.iconst (-1), 1) := by decide +kernel
theorem dX12_isIdleRule_31 : decode cX12_isIdleRule 31 = .ok (.ixor, 1) := by decide +kernel
theorem dX12_isIdleRule_32 : decode cX12_isIdleRule 32 = .ok (.iand, 1) := by decide +kernel
theorem dX12_isIdleRule_33 : decode cX12_isIdleRule 33 = .ok (.ifCond .eq 7, 3) := by decide +kernel
theorem dX12_isIdleRule_36 : decode cX12_isIdleRule 36 = .ok (.iconst 1, 1) := by decide +kernel
theorem dX12_isIdleRule_37 : decode cX12_isIdleRule 37 = .ok (.goto 4, 3) := by decide +kernel
theorem dX12_isIdleRule_40 : decode cX12_isIdleRule 40 = .ok (.iconst 0, 1) := by decide +kernel
theorem dX12_isIdleRule_41 : decode cX12_isIdleRule 41 = .ok (.ireturn, 1) := by decide +kernel
theorem dX12_findsLayers_0 : decode cX12_findsLayers 0 = .ok (.iconst 0, 1) := by decide +kernel
theorem dX12_findsLayers_1 : decode cX12_findsLayers 1 = .ok (.istore_n 1, 1) := by decide +kernel
theorem dX12_findsLayers_2 : decode cX12_findsLayers 2 = .ok (.iload_n 1, 1) := by decide +kernel
theorem dX12_findsLayers_3 : decode cX12_findsLayers 3 = .ok (.iconst 5, 1) := by decide +kernel
theorem dX12_findsLayers_4 : decode cX12_findsLayers 4 = .ok (.if_icmp .ge 16, 3) := by decide +kernel
theorem dX12_findsLayers_7 : decode cX12_findsLayers 7 = .ok (.aload_n 0, 1) := by decide +kernel
theorem dX12_findsLayers_8 : decode cX12_findsLayers 8 = .ok (.getfield 23, 3) := by decide +kernel
theorem dX12_findsLayers_11 : decode cX12_findsLayers 11 = .ok (.iload_n 1, 1) := by decide +kernel
theorem dX12_findsLayers_12 : decode cX12_findsLayers 12 = .ok (.iconst 0, 1) := by decide +kernel
theorem dX12_findsLayers_13 : decode cX12_findsLayers 13 = .ok (.iastore, 1) := by decide +kernel
theorem dX12_findsLayers_14 : decode cX12_findsLayers 14 = .ok (.iinc 1 1, 3) := by decide +kernel
theorem dX12_findsLayers_17 : decode cX12_findsLayers 17 = .ok (.goto (-15), 3) := by decide +kernel
theorem dX12_findsLayers_20 : decode cX12_findsLayers 20 = .ok (.iconst 0, 1) := by decide +kernel
theorem dX12_findsLayers_21 : decode cX12_findsLayers 21 = .ok (.istore_n 1, 1) := by decide +kernel
theorem dX12_findsLayers_22 : decode cX12_findsLayers 22 = .ok (.iload_n 1, 1) := by decide +kernel
theorem dX12_findsLayers_23 : decode cX12_findsLayers 23 = .ok (.ifCond .ne 124, 3) := by decide +kernel
theorem dX12_findsLayers_26 : decode cX12_findsLayers 26 = .ok (.iconst 1, 1) := by decide +kernel
theorem dX12_findsLayers_27 : decode cX12_findsLayers 27 = .ok (.istore_n 1, 1) := by decide +kernel
theorem dX12_findsLayers_28 : decode cX12_findsLayers 28 = .ok (.iconst 0, 1) := by decide +kernel
theorem dX12_findsLayers_29 : decode cX12_findsLayers 29 = .ok (.istore_n 2, 1) := by decide +kernel
theorem dX12_findsLayers_30 : decode cX12_findsLayers 30 = .ok (.iload_n 2, 1) := by decide +kernel
theorem dX12_findsLayers_31 : decode cX12_findsLayers 31 = .ok (.aload_n 0, 1) := by decide +kernel
theorem dX12_findsLayers_32 : decode cX12_findsLayers 32 = .ok (.getfield 9, 3) := by decide +kernel
theorem dX12_findsLayers_35 : decode cX12_findsLayers 35 = .ok (.sipush 2654, 3) := by decide +kernel
theorem dX12_findsLayers_38 : decode cX12_findsLayers 38 = .ok (.iaload, 1) := by decide +kernel
theorem dX12_findsLayers_39 : decode cX12_findsLayers 39 = .ok (.if_icmp .ge 105, 3) := by decide +kernel
theorem dX12_findsLayers_42 : decode cX12_findsLayers 42 = .ok (.aload_n 0, 1) := by decide +kernel
theorem dX12_findsLayers_43 : decode cX12_findsLayers 43 = .ok (.getfield 9, 3) := by decide +kernel
theorem dX12_findsLayers_46 : decode cX12_findsLayers 46 = .ok (.aload_n 0, 1) := by decide +kernel
theorem dX12_findsLayers_47 : decode cX12_findsLayers 47 = .ok (.iload_n 2, 1) := by decide +kernel
theorem dX12_findsLayers_48 : decode cX12_findsLayers 48 = .ok (.invokevirtual 86, 3) := by decide +kernel
theorem dX12_findsLayers_51 : decode cX12_findsLayers 51 = .ok (.iaload, 1) := by decide +kernel
theorem dX12_findsLayers_52 : decode cX12_findsLayers 52 = .ok (.istore_n 3, 1) := by decide +kernel
theorem dX12_findsLayers_53 : decode cX12_findsLayers 53 = .ok (.iconst 0, 1) := by decide +kernel
theorem dX12_findsLayers_54 : decode cX12_findsLayers 54 = .ok (.istore 4, 2) := by decide +kernel
theorem dX12_findsLayers_56 : decode cX12_findsLayers 56 = .ok (.iload 4, 2) := by decide +kernel
theorem dX12_findsLayers_58 : decode cX12_findsLayers 58 = .ok (.aload_n 0, 1) := by decide +kernel
theorem dX12_findsLayers_59 : decode cX12_findsLayers 59 = .ok (.iload_n 2, 1) := by decide +kernel
theorem dX12_findsLayers_60 : decode cX12_findsLayers 60 = .ok (.invokevirtual 92, 3) := by decide +kernel
theorem dX12_findsLayers_63 : decode cX12_findsLayers 63 = .ok (.if_icmp .ge 75, 3) := by decide +kernel
theorem dX12_findsLayers_66 : decode cX12_findsLayers 66 = .ok (.aload_n 0, 1) := by decide +kernel
theorem dX12_findsLayers_67 : decode cX12_findsLayers 67 = .ok (.getfield 23, 3) := by decide +kernel
theorem dX12_findsLayers_70 : decode cX12_findsLayers 70 = .ok (.aload_n 0, 1) := by decide +kernel
theorem dX12_findsLayers_71 : decode cX12_findsLayers 71 = .ok (.getfield 9, 3) := by decide +kernel
theorem dX12_findsLayers_74 : decode cX12_findsLayers 74 = .ok (.aload_n 0, 1) := by decide +kernel
theorem dX12_findsLayers_75 : decode cX12_findsLayers 75 = .ok (.iload_n 2, 1) := by decide +kernel
theorem dX12_findsLayers_76 : decode cX12_findsLayers 76 = .ok (.iload 4, 2) := by decide +kernel
theorem dX12_findsLayers_78 : decode cX12_findsLayers 78 = .ok (.invokevirtual 89, 3) := by decide +kernel
theorem dX12_findsLayers_81 : decode cX12_findsLayers 81 = .ok (.iaload, 1) := by decide +kernel
theorem dX12_findsLayers_82 : decode cX12_findsLayers 82 = .ok (.iaload, 1) := by decide +kernel
theorem dX12_findsLayers_83 : decode cX12_findsLayers 83 = .ok (.aload_n 0, 1) := by decide +kernel
theorem dX12_findsLayers_84 : decode cX12_findsLayers 84 = .ok (.getfield 9, 3) := by decide +kernel
theorem dX12_findsLayers_87 : decode cX12_findsLayers 87 = .ok (.aload_n 0, 1) := by decide +kernel
theorem dX12_findsLayers_88 : decode cX12_findsLayers 88 = .ok (.iload_n 2, 1) := by decide +kernel
theorem dX12_findsLayers_89 : decode cX12_findsLayers 89 = .ok (.iload 4, 2) := by decide +kernel
theorem dX12_findsLayers_91 : decode cX12_findsLayers 91 = .ok (.invokevirtual 89, 3) := by decide +kernel
theorem dX12_findsLayers_94 : decode cX12_findsLayers 94 = .ok (.iconst 4, 1) := by decide +kernel
theorem dX12_findsLayers_95 : decode cX12_findsLayers 95 = .ok (.iadd, 1) := by decide +kernel
theorem dX12_findsLayers_96 : decode cX12_findsLayers 96 = .ok (.iaload, 1) := by decide +kernel
theorem dX12_findsLayers_97 : decode cX12_findsLayers 97 = .ok (.iadd, 1) := by decide +kernel
theorem dX12_findsLayers_98 : decode cX12_findsLayers 98 = .ok (.istore 5, 2) := by decide +kernel
theorem dX12_findsLayers_100 : decode cX12_findsLayers 100 = .ok (.aload_n 0, 1) := by decide +kernel
theorem dX12_findsLayers_101 : decode cX12_findsLayers 101 = .ok (.getfield 23, 3) := by decide +kernel
theorem dX12_findsLayers_104 : decode cX12_findsLayers 104 = .ok (.iload_n 3, 1) := by decide +kernel
theorem dX12_findsLayers_105 : decode cX12_findsLayers 105 = .ok (.iaload, 1) := by decide +kernel
theorem dX12_findsLayers_106 : decode cX12_findsLayers 106 = .ok (.iload 5, 2) := by decide +kernel
theorem dX12_findsLayers_108 : decode cX12_findsLayers 108 = .ok (.if_icmp .lt 6, 3) := by decide +kernel
theorem dX12_findsLayers_111 : decode cX12_findsLayers 111 = .ok (.goto 21, 3) := by decide +kernel
theorem dX12_findsLayers_114 : decode cX12_findsLayers 114 = .ok (.aload_n 0, 1) := by decide +kernel
theorem dX12_findsLayers_115 : decode cX12_findsLayers 115 = .ok (.getfield 23, 3) := by decide +kernel
theorem dX12_findsLayers_118 : decode cX12_findsLayers 118 = .ok (.iload_n 3, 1) := by decide +kernel
theorem dX12_findsLayers_119 : decode cX12_findsLayers 119 = .ok (.iload 5, 2) := by decide +kernel
theorem dX12_findsLayers_121 : decode cX12_findsLayers 121 = .ok (.iastore, 1) := by decide +kernel
theorem dX12_findsLayers_122 : decode cX12_findsLayers 122 = .ok (.iconst 0, 1) := by decide +kernel
theorem dX12_findsLayers_123 : decode cX12_findsLayers 123 = .ok (.istore_n 1, 1) := by decide +kernel
theorem dX12_findsLayers_124 : decode cX12_findsLayers 124 = .ok (.iload 5, 2) := by decide +kernel
theorem dX12_findsLayers_126 : decode cX12_findsLayers 126 = .ok (.iconst 5, 1) := by decide +kernel
theorem dX12_findsLayers_127 : decode cX12_findsLayers 127 = .ok (.if_icmp .lt 5, 3) := by decide +kernel
theorem dX12_findsLayers_130 : decode cX12_findsLayers 130 = .ok (.iconst 0, 1) := by decide +kernel
theorem dX12_findsLayers_131 : decode cX12_findsLayers 131 = .ok (.ireturn, 1) := by decide +kernel
theorem dX12_findsLayers_132 : decode cX12_findsLayers 132 = .ok (.iinc 4 1, 3) := by decide +kernel
theorem dX12_findsLayers_135 : decode cX12_findsLayers 135 = .ok (.goto (-79), 3) := by decide +kernel
theorem dX12_findsLayers_138 : decode cX12_findsLayers 138 = .ok (.iinc 2 1, 3) := by decide +kernel
theorem dX12_findsLayers_141 : decode cX12_findsLayers 141 = .ok (.goto (-111), 3) := by decide +kernel
theorem dX12_findsLayers_144 : decode cX12_findsLayers 144 = .ok (.goto (-122), 3) := by decide +kernel
theorem dX12_findsLayers_147 : decode cX12_findsLayers 147 = .ok (.iconst 1, 1) := by decide +kernel
theorem dX12_findsLayers_148 : decode cX12_findsLayers 148 = .ok (.ireturn, 1) := by decide +kernel
theorem dX12_chooses_0 : decode cX12_chooses 0 = .ok (.iload_n 2, 1) := by decide +kernel
theorem dX12_chooses_1 : decode cX12_chooses 1 = .ok (.istore_n 3, 1) := by decide +kernel
theorem dX12_chooses_2 : decode cX12_chooses 2 = .ok (.iconst 0, 1) := by decide +kernel
theorem dX12_chooses_3 : decode cX12_chooses 3 = .ok (.istore 4, 2) := by decide +kernel
theorem dX12_chooses_5 : decode cX12_chooses 5 = .ok (.iload 4, 2) := by decide +kernel
theorem dX12_chooses_7 : decode cX12_chooses 7 = .ok (.iconst 4, 1) := by decide +kernel
theorem dX12_chooses_8 : decode cX12_chooses 8 = .ok (.if_icmp .ge 34, 3) := by decide +kernel
theorem dX12_chooses_11 : decode cX12_chooses 11 = .ok (.iload_n 1, 1) := by decide +kernel
theorem dX12_chooses_12 : decode cX12_chooses 12 = .ok (.iload 4, 2) := by decide +kernel
theorem dX12_chooses_14 : decode cX12_chooses 14 = .ok (.ishr, 1) := by decide +kernel
theorem dX12_chooses_15 : decode cX12_chooses 15 = .ok (.iconst 1, 1) := by decide +kernel
theorem dX12_chooses_16 : decode cX12_chooses 16 = .ok (.iand, 1) := by decide +kernel
theorem dX12_chooses_17 : decode cX12_chooses 17 = .ok (.iconst 1, 1) := by decide +kernel
theorem dX12_chooses_18 : decode cX12_chooses 18 = .ok (.if_icmp .ne 18, 3) := by decide +kernel
theorem dX12_chooses_21 : decode cX12_chooses 21 = .ok (.aload_n 0, 1) := by decide +kernel
theorem dX12_chooses_22 : decode cX12_chooses 22 = .ok (.getfield 26, 3) := by decide +kernel
theorem dX12_chooses_25 : decode cX12_chooses 25 = .ok (.iload 4, 2) := by decide +kernel
theorem dX12_chooses_27 : decode cX12_chooses 27 = .ok (.iload_n 3, 1) := by decide +kernel
theorem dX12_chooses_28 : decode cX12_chooses 28 = .ok (.bipush 7, 2) := by decide +kernel
theorem dX12_chooses_30 : decode cX12_chooses 30 = .ok (.iand, 1) := by decide +kernel
theorem dX12_chooses_31 : decode cX12_chooses 31 = .ok (.iastore, 1) := by decide +kernel
theorem dX12_chooses_32 : decode cX12_chooses 32 = .ok (.iload_n 3, 1) := by decide +kernel
theorem dX12_chooses_33 : decode cX12_chooses 33 = .ok (.iconst 3, 1) := by decide +kernel
theorem dX12_chooses_34 : decode cX12_chooses 34 = .ok (.ishr, 1) := by decide +kernel
theorem dX12_chooses_35 : decode cX12_chooses 35 = .ok (.istore_n 3, 1) := by decide +kernel
theorem dX12_chooses_36 : decode cX12_chooses 36 = .ok (.iinc 4 1, 3) := by decide +kernel
theorem dX12_chooses_39 : decode cX12_chooses 39 = .ok (.goto (-34), 3) := by decide +kernel
theorem dX12_chooses_42 : decode cX12_chooses 42 = .ok (.iload_n 3, 1) := by decide +kernel
theorem dX12_chooses_43 : decode cX12_chooses 43 = .ok (.ifCond .ne 7, 3) := by decide +kernel
theorem dX12_chooses_46 : decode cX12_chooses 46 = .ok (.iconst 1, 1) := by decide +kernel
theorem dX12_chooses_47 : decode cX12_chooses 47 = .ok (.goto 4, 3) := by decide +kernel
theorem dX12_chooses_50 : decode cX12_chooses 50 = .ok (.iconst 0, 1) := by decide +kernel
theorem dX12_chooses_51 : decode cX12_chooses 51 = .ok (.ireturn, 1) := by decide +kernel
theorem dX12_gives_0 : decode cX12_gives 0 = .ok (.iconst 0, 1) := by decide +kernel
theorem dX12_gives_1 : decode cX12_gives 1 = .ok (.istore_n 2, 1) := by decide +kernel
theorem dX12_gives_2 : decode cX12_gives 2 = .ok (.iload_n 2, 1) := by decide +kernel
theorem dX12_gives_3 : decode cX12_gives 3 = .ok (.aload_n 0, 1) := by decide +kernel
theorem dX12_gives_4 : decode cX12_gives 4 = .ok (.iload_n 1, 1) := by decide +kernel
theorem dX12_gives_5 : decode cX12_gives 5 = .ok (.invokevirtual 92, 3) := by decide +kernel
theorem dX12_gives_8 : decode cX12_gives 8 = .ok (.if_icmp .ge 30, 3) := by decide +kernel
theorem dX12_gives_11 : decode cX12_gives 11 = .ok (.aload_n 0, 1) := by decide +kernel
theorem dX12_gives_12 : decode cX12_gives 12 = .ok (.aload_n 0, 1) := by decide +kernel
theorem dX12_gives_13 : decode cX12_gives 13 = .ok (.iload_n 1, 1) := by decide +kernel
theorem dX12_gives_14 : decode cX12_gives 14 = .ok (.iload_n 2, 1) := by decide +kernel
theorem dX12_gives_15 : decode cX12_gives 15 = .ok (.invokevirtual 89, 3) := by decide +kernel
theorem dX12_gives_18 : decode cX12_gives 18 = .ok (.invokevirtual 118, 3) := by decide +kernel
theorem dX12_gives_21 : decode cX12_gives 21 = .ok (.aload_n 0, 1) := by decide +kernel
theorem dX12_gives_22 : decode cX12_gives 22 = .ok (.iload_n 1, 1) := by decide +kernel
theorem dX12_gives_23 : decode cX12_gives 23 = .ok (.iload_n 2, 1) := by decide +kernel
theorem dX12_gives_24 : decode cX12_gives 24 = .ok (.invokevirtual 107, 3) := by decide +kernel
theorem dX12_gives_27 : decode cX12_gives 27 = .ok (.if_icmp .ne 5, 3) := by decide +kernel
theorem dX12_gives_30 : decode cX12_gives 30 = .ok (.iconst 0, 1) := by decide +kernel
theorem dX12_gives_31 : decode cX12_gives 31 = .ok (.ireturn, 1) := by decide +kernel
theorem dX12_gives_32 : decode cX12_gives 32 = .ok (.iinc 2 1, 3) := by decide +kernel
theorem dX12_gives_35 : decode cX12_gives 35 = .ok (.goto (-33), 3) := by decide +kernel
theorem dX12_gives_38 : decode cX12_gives 38 = .ok (.iconst 1, 1) := by decide +kernel
theorem dX12_gives_39 : decode cX12_gives 39 = .ok (.ireturn, 1) := by decide +kernel
theorem dX12_applies_0 : decode cX12_applies 0 = .ok (.aload_n 0, 1) := by decide +kernel
theorem dX12_applies_1 : decode cX12_applies 1 = .ok (.iload_n 1, 1) := by decide +kernel
theorem dX12_applies_2 : decode cX12_applies 2 = .ok (.iconst 0, 1) := by decide +kernel
theorem dX12_applies_3 : decode cX12_applies 3 = .ok (.invokevirtual 114, 3) := by decide +kernel
theorem dX12_applies_6 : decode cX12_applies 6 = .ok (.istore_n 2, 1) := by decide +kernel
theorem dX12_applies_7 : decode cX12_applies 7 = .ok (.aload_n 0, 1) := by decide +kernel
theorem dX12_applies_8 : decode cX12_applies 8 = .ok (.iload_n 1, 1) := by decide +kernel
theorem dX12_applies_9 : decode cX12_applies 9 = .ok (.invokevirtual 86, 3) := by decide +kernel
theorem dX12_applies_12 : decode cX12_applies 12 = .ok (.istore_n 3, 1) := by decide +kernel
theorem dX12_applies_13 : decode cX12_applies 13 = .ok (.iconst 0, 1) := by decide +kernel
theorem dX12_applies_14 : decode cX12_applies 14 = .ok (.istore 4, 2) := by decide +kernel
theorem dX12_applies_16 : decode cX12_applies 16 = .ok (.aload_n 0, 1) := by decide +kernel
theorem dX12_applies_17 : decode cX12_applies 17 = .ok (.iload_n 2, 1) := by decide +kernel
theorem dX12_applies_18 : decode cX12_applies 18 = .ok (.iload 4, 2) := by decide +kernel
theorem dX12_applies_20 : decode cX12_applies 20 = .ok (.invokevirtual 122, 3) := by decide +kernel
theorem dX12_applies_23 : decode cX12_applies 23 = .ok (.ifCond .eq 39, 3) := by decide +kernel
theorem dX12_applies_26 : decode cX12_applies 26 = .ok (.aload_n 0, 1) := by decide +kernel
theorem dX12_applies_27 : decode cX12_applies 27 = .ok (.iload_n 1, 1) := by decide +kernel
theorem dX12_applies_28 : decode cX12_applies 28 = .ok (.invokevirtual 125, 3) := by decide +kernel
theorem dX12_applies_31 : decode cX12_applies 31 = .ok (.ifCond .eq 25, 3) := by decide +kernel
theorem dX12_applies_34 : decode cX12_applies 34 = .ok (.aload_n 0, 1) := by decide +kernel
theorem dX12_applies_35 : decode cX12_applies 35 = .ok (.getfield 20, 3) := by decide +kernel
theorem dX12_applies_38 : decode cX12_applies 38 = .ok (.sipush 512, 3) := by decide +kernel
theorem dX12_applies_41 : decode cX12_applies 41 = .ok (.aload_n 0, 1) := by decide +kernel
theorem dX12_applies_42 : decode cX12_applies 42 = .ok (.getfield 9, 3) := by decide +kernel
theorem dX12_applies_45 : decode cX12_applies 45 = .ok (.iload_n 3, 1) := by decide +kernel
theorem dX12_applies_46 : decode cX12_applies 46 = .ok (.iaload, 1) := by decide +kernel
theorem dX12_applies_47 : decode cX12_applies 47 = .ok (.imul, 1) := by decide +kernel
theorem dX12_applies_48 : decode cX12_applies 48 = .ok (.aload_n 0, 1) := by decide +kernel
theorem dX12_applies_49 : decode cX12_applies 49 = .ok (.iload_n 3, 1) := by decide +kernel
theorem dX12_applies_50 : decode cX12_applies 50 = .ok (.invokevirtual 104, 3) := by decide +kernel
theorem dX12_applies_53 : decode cX12_applies 53 = .ok (.iadd, 1) := by decide +kernel
theorem dX12_applies_54 : decode cX12_applies 54 = .ok (.iconst 1, 1) := by decide +kernel
theorem dX12_applies_55 : decode cX12_applies 55 = .ok (.bastore, 1) := by decide +kernel
theorem dX12_applies_56 : decode cX12_applies 56 = .ok (.iinc 4 1, 3) := by decide +kernel
theorem dX12_applies_59 : decode cX12_applies 59 = .ok (.goto (-43), 3) := by decide +kernel
theorem dX12_applies_62 : decode cX12_applies 62 = .ok (.return_, 1) := by decide +kernel
theorem dX12_goesRound_0 : decode cX12_goesRound 0 = .ok (.iconst 0, 1) := by decide +kernel
theorem dX12_goesRound_1 : decode cX12_goesRound 1 = .ok (.istore_n 2, 1) := by decide +kernel
theorem dX12_goesRound_2 : decode cX12_goesRound 2 = .ok (.iload_n 2, 1) := by decide +kernel
theorem dX12_goesRound_3 : decode cX12_goesRound 3 = .ok (.sipush 2560, 3) := by decide +kernel
theorem dX12_goesRound_6 : decode cX12_goesRound 6 = .ok (.if_icmp .ge 16, 3) := by decide +kernel
theorem dX12_goesRound_9 : decode cX12_goesRound 9 = .ok (.aload_n 0, 1) := by decide +kernel
theorem dX12_goesRound_10 : decode cX12_goesRound 10 = .ok (.getfield 20, 3) := by decide +kernel
theorem dX12_goesRound_13 : decode cX12_goesRound 13 = .ok (.iload_n 2, 1) := by decide +kernel
theorem dX12_goesRound_14 : decode cX12_goesRound 14 = .ok (.iconst 0, 1) := by decide +kernel
theorem dX12_goesRound_15 : decode cX12_goesRound 15 = .ok (.bastore, 1) := by decide +kernel
theorem dX12_goesRound_16 : decode cX12_goesRound 16 = .ok (.iinc 2 1, 3) := by decide +kernel
theorem dX12_goesRound_19 : decode cX12_goesRound 19 = .ok (.goto (-17), 3) := by decide +kernel
theorem dX12_goesRound_22 : decode cX12_goesRound 22 = .ok (.iconst 0, 1) := by decide +kernel
theorem dX12_goesRound_23 : decode cX12_goesRound 23 = .ok (.istore_n 2, 1) := by decide +kernel
theorem dX12_goesRound_24 : decode cX12_goesRound 24 = .ok (.iload_n 2, 1) := by decide +kernel
theorem dX12_goesRound_25 : decode cX12_goesRound 25 = .ok (.aload_n 0, 1) := by decide +kernel
theorem dX12_goesRound_26 : decode cX12_goesRound 26 = .ok (.getfield 9, 3) := by decide +kernel
theorem dX12_goesRound_29 : decode cX12_goesRound 29 = .ok (.sipush 2654, 3) := by decide +kernel
theorem dX12_goesRound_32 : decode cX12_goesRound 32 = .ok (.iaload, 1) := by decide +kernel
theorem dX12_goesRound_33 : decode cX12_goesRound 33 = .ok (.if_icmp .ge 41, 3) := by decide +kernel
theorem dX12_goesRound_36 : decode cX12_goesRound 36 = .ok (.aload_n 0, 1) := by decide +kernel
theorem dX12_goesRound_37 : decode cX12_goesRound 37 = .ok (.iload_n 2, 1) := by decide +kernel
theorem dX12_goesRound_38 : decode cX12_goesRound 38 = .ok (.invokevirtual 128, 3) := by decide +kernel
theorem dX12_goesRound_41 : decode cX12_goesRound 41 = .ok (.ifCond .ne 27, 3) := by decide +kernel
theorem dX12_goesRound_44 : decode cX12_goesRound 44 = .ok (.aload_n 0, 1) := by decide +kernel
theorem dX12_goesRound_45 : decode cX12_goesRound 45 = .ok (.getfield 23, 3) := by decide +kernel
theorem dX12_goesRound_48 : decode cX12_goesRound 48 = .ok (.aload_n 0, 1) := by decide +kernel
theorem dX12_goesRound_49 : decode cX12_goesRound 49 = .ok (.getfield 9, 3) := by decide +kernel
theorem dX12_goesRound_52 : decode cX12_goesRound 52 = .ok (.aload_n 0, 1) := by decide +kernel
theorem dX12_goesRound_53 : decode cX12_goesRound 53 = .ok (.iload_n 2, 1) := by decide +kernel
theorem dX12_goesRound_54 : decode cX12_goesRound 54 = .ok (.invokevirtual 86, 3) := by decide +kernel
theorem dX12_goesRound_57 : decode cX12_goesRound 57 = .ok (.iaload, 1) := by decide +kernel
theorem dX12_goesRound_58 : decode cX12_goesRound 58 = .ok (.iaload, 1) := by decide +kernel
theorem dX12_goesRound_59 : decode cX12_goesRound 59 = .ok (.iload_n 1, 1) := by decide +kernel
theorem dX12_goesRound_60 : decode cX12_goesRound 60 = .ok (.if_icmp .ne 8, 3) := by decide +kernel
theorem dX12_goesRound_63 : decode cX12_goesRound 63 = .ok (.aload_n 0, 1) := by decide +kernel
theorem dX12_goesRound_64 : decode cX12_goesRound 64 = .ok (.iload_n 2, 1) := by decide +kernel
theorem dX12_goesRound_65 : decode cX12_goesRound 65 = .ok (.invokevirtual 131, 3) := by decide +kernel
theorem dX12_goesRound_68 : decode cX12_goesRound 68 = .ok (.iinc 2 1, 3) := by decide +kernel
theorem dX12_goesRound_71 : decode cX12_goesRound 71 = .ok (.goto (-47), 3) := by decide +kernel
theorem dX12_goesRound_74 : decode cX12_goesRound 74 = .ok (.iconst 0, 1) := by decide +kernel
theorem dX12_goesRound_75 : decode cX12_goesRound 75 = .ok (.istore_n 2, 1) := by decide +kernel
theorem dX12_goesRound_76 : decode cX12_goesRound 76 = .ok (.iconst 0, 1) := by decide +kernel
theorem dX12_goesRound_77 : decode cX12_goesRound 77 = .ok (.istore_n 3, 1) := by decide +kernel
theorem dX12_goesRound_78 : decode cX12_goesRound 78 = .ok (.iload_n 3, 1) := by decide +kernel
theorem dX12_goesRound_79 : decode cX12_goesRound 79 = .ok (.sipush 2560, 3) := by decide +kernel
theorem dX12_goesRound_82 : decode cX12_goesRound 82 = .ok (.if_icmp .ge 66, 3) := by decide +kernel
theorem dX12_goesRound_85 : decode cX12_goesRound 85 = .ok (.iload_n 2, 1) := by decide +kernel
theorem dX12_goesRound_86 : decode cX12_goesRound 86 = .ok (.ifCond .ne 21, 3) := by decide +kernel
theorem dX12_goesRound_89 : decode cX12_goesRound 89 = .ok (.aload_n 0, 1) := by decide +kernel
theorem dX12_goesRound_90 : decode cX12_goesRound 90 = .ok (.getfield 20, 3) := by decide +kernel
theorem dX12_goesRound_93 : decode cX12_goesRound 93 = .ok (.iload_n 3, 1) := by decide +kernel
theorem dX12_goesRound_94 : decode cX12_goesRound 94 = .ok (.baload, 1) := by decide +kernel
theorem dX12_goesRound_95 : decode cX12_goesRound 95 = .ok (.ifCond .eq 16, 3) := by decide +kernel
theorem dX12_goesRound_98 : decode cX12_goesRound 98 = .ok (.aload_n 0, 1) := by decide +kernel
theorem dX12_goesRound_99 : decode cX12_goesRound 99 = .ok (.getfield 16, 3) := by decide +kernel
theorem dX12_goesRound_102 : decode cX12_goesRound 102 = .ok (.iload_n 3, 1) := by decide +kernel
theorem dX12_goesRound_103 : decode cX12_goesRound 103 = .ok (.baload, 1) := by decide +kernel
theorem dX12_goesRound_104 : decode cX12_goesRound 104 = .ok (.ifCond .ne 7, 3) := by decide +kernel
theorem dX12_goesRound_107 : decode cX12_goesRound 107 = .ok (.iconst 1, 1) := by decide +kernel
theorem dX12_goesRound_108 : decode cX12_goesRound 108 = .ok (.goto 4, 3) := by decide +kernel
theorem dX12_goesRound_111 : decode cX12_goesRound 111 = .ok (.iconst 0, 1) := by decide +kernel
theorem dX12_goesRound_112 : decode cX12_goesRound 112 = .ok (.istore_n 2, 1) := by decide +kernel
theorem dX12_goesRound_113 : decode cX12_goesRound 113 = .ok (.aload_n 0, 1) := by decide +kernel
theorem dX12_goesRound_114 : decode cX12_goesRound 114 = .ok (.getfield 16, 3) := by decide +kernel
theorem dX12_goesRound_117 : decode cX12_goesRound 117 = .ok (.iload_n 3, 1) := by decide +kernel
theorem dX12_goesRound_118 : decode cX12_goesRound 118 = .ok (.aload_n 0, 1) := by decide +kernel
theorem dX12_goesRound_119 : decode cX12_goesRound 119 = .ok (.getfield 16, 3) := by decide +kernel
theorem dX12_goesRound_122 : decode cX12_goesRound 122 = .ok (.iload_n 3, 1) := by decide +kernel
theorem dX12_goesRound_123 : decode cX12_goesRound 123 = .ok (.baload, 1) := by decide +kernel
theorem dX12_goesRound_124 : decode cX12_goesRound 124 = .ok (.ifCond .ne 12, 3) := by decide +kernel
theorem dX12_goesRound_127 : decode cX12_goesRound 127 = .ok (.aload_n 0, 1) := by decide +kernel
theorem dX12_goesRound_128 : decode cX12_goesRound 128 = .ok (.getfield 20, 3) := by decide +kernel
theorem dX12_goesRound_131 : decode cX12_goesRound 131 = .ok (.iload_n 3, 1) := by decide +kernel
theorem dX12_goesRound_132 : decode cX12_goesRound 132 = .ok (.baload, 1) := by decide +kernel
theorem dX12_goesRound_133 : decode cX12_goesRound 133 = .ok (.ifCond .eq 7, 3) := by decide +kernel
theorem dX12_goesRound_136 : decode cX12_goesRound 136 = .ok (.iconst 1, 1) := by decide +kernel
theorem dX12_goesRound_137 : decode cX12_goesRound 137 = .ok (.goto 4, 3) := by decide +kernel
theorem dX12_goesRound_140 : decode cX12_goesRound 140 = .ok (.iconst 0, 1) := by decide +kernel
theorem dX12_goesRound_141 : decode cX12_goesRound 141 = .ok (.bastore, 1) := by decide +kernel
theorem dX12_goesRound_142 : decode cX12_goesRound 142 = .ok (.iinc 3 1, 3) := by decide +kernel
theorem dX12_goesRound_145 : decode cX12_goesRound 145 = .ok (.goto (-67), 3) := by decide +kernel
theorem dX12_goesRound_148 : decode cX12_goesRound 148 = .ok (.aload_n 0, 1) := by decide +kernel
theorem dX12_goesRound_149 : decode cX12_goesRound 149 = .ok (.dup, 1) := by decide +kernel
theorem dX12_goesRound_150 : decode cX12_goesRound 150 = .ok (.getfield 135, 3) := by decide +kernel
theorem dX12_goesRound_153 : decode cX12_goesRound 153 = .ok (.iconst 1, 1) := by decide +kernel
theorem dX12_goesRound_154 : decode cX12_goesRound 154 = .ok (.iadd, 1) := by decide +kernel
theorem dX12_goesRound_155 : decode cX12_goesRound 155 = .ok (.putfield 135, 3) := by decide +kernel
theorem dX12_goesRound_158 : decode cX12_goesRound 158 = .ok (.iload_n 2, 1) := by decide +kernel
theorem dX12_goesRound_159 : decode cX12_goesRound 159 = .ok (.ireturn, 1) := by decide +kernel
theorem dX12_hasRules_0 : decode cX12_hasRules 0 = .ok (.iconst 0, 1) := by decide +kernel
theorem dX12_hasRules_1 : decode cX12_hasRules 1 = .ok (.istore_n 2, 1) := by decide +kernel
theorem dX12_hasRules_2 : decode cX12_hasRules 2 = .ok (.iconst 0, 1) := by decide +kernel
theorem dX12_hasRules_3 : decode cX12_hasRules 3 = .ok (.istore_n 3, 1) := by decide +kernel
theorem dX12_hasRules_4 : decode cX12_hasRules 4 = .ok (.iload_n 3, 1) := by decide +kernel
theorem dX12_hasRules_5 : decode cX12_hasRules 5 = .ok (.aload_n 0, 1) := by decide +kernel
theorem dX12_hasRules_6 : decode cX12_hasRules 6 = .ok (.getfield 9, 3) := by decide +kernel
theorem dX12_hasRules_9 : decode cX12_hasRules 9 = .ok (.sipush 2654, 3) := by decide +kernel
theorem dX12_hasRules_12 : decode cX12_hasRules 12 = .ok (.iaload, 1) := by decide +kernel
theorem dX12_hasRules_13 : decode cX12_hasRules 13 = .ok (.if_icmp .ge 46, 3) := by decide +kernel
theorem dX12_hasRules_16 : decode cX12_hasRules 16 = .ok (.iload_n 2, 1) := by decide +kernel
theorem dX12_hasRules_17 : decode cX12_hasRules 17 = .ok (.ifCond .ne 30, 3) := by decide +kernel
theorem dX12_hasRules_20 : decode cX12_hasRules 20 = .ok (.aload_n 0, 1) := by decide +kernel
theorem dX12_hasRules_21 : decode cX12_hasRules 21 = .ok (.iload_n 3, 1) := by decide +kernel
theorem dX12_hasRules_22 : decode cX12_hasRules 22 = .ok (.invokevirtual 128, 3) := by decide +kernel
theorem dX12_hasRules_25 : decode cX12_hasRules 25 = .ok (.ifCond .ne 26, 3) := by decide +kernel
theorem dX12_hasRules_28 : decode cX12_hasRules 28 = .ok (.aload_n 0, 1) := by decide +kernel
theorem dX12_hasRules_29 : decode cX12_hasRules 29 = .ok (.getfield 23, 3) := by decide +kernel
theorem dX12_hasRules_32 : decode cX12_hasRules 32 = .ok (.aload_n 0, 1) := by decide +kernel
theorem dX12_hasRules_33 : decode cX12_hasRules 33 = .ok (.getfield 9, 3) := by decide +kernel
theorem dX12_hasRules_36 : decode cX12_hasRules 36 = .ok (.aload_n 0, 1) := by decide +kernel
theorem dX12_hasRules_37 : decode cX12_hasRules 37 = .ok (.iload_n 3, 1) := by decide +kernel
theorem dX12_hasRules_38 : decode cX12_hasRules 38 = .ok (.invokevirtual 86, 3) := by decide +kernel
theorem dX12_hasRules_41 : decode cX12_hasRules 41 = .ok (.iaload, 1) := by decide +kernel
theorem dX12_hasRules_42 : decode cX12_hasRules 42 = .ok (.iaload, 1) := by decide +kernel
theorem dX12_hasRules_43 : decode cX12_hasRules 43 = .ok (.iload_n 1, 1) := by decide +kernel
theorem dX12_hasRules_44 : decode cX12_hasRules 44 = .ok (.if_icmp .ne 7, 3) := by decide +kernel
theorem dX12_hasRules_47 : decode cX12_hasRules 47 = .ok (.iconst 1, 1) := by decide +kernel
theorem dX12_hasRules_48 : decode cX12_hasRules 48 = .ok (.goto 4, 3) := by decide +kernel
theorem dX12_hasRules_51 : decode cX12_hasRules 51 = .ok (.iconst 0, 1) := by decide +kernel
theorem dX12_hasRules_52 : decode cX12_hasRules 52 = .ok (.istore_n 2, 1) := by decide +kernel
theorem dX12_hasRules_53 : decode cX12_hasRules 53 = .ok (.iinc 3 1, 3) := by decide +kernel
theorem dX12_hasRules_56 : decode cX12_hasRules 56 = .ok (.goto (-52), 3) := by decide +kernel
theorem dX12_hasRules_59 : decode cX12_hasRules 59 = .ok (.iload_n 2, 1) := by decide +kernel
theorem dX12_hasRules_60 : decode cX12_hasRules 60 = .ok (.ireturn, 1) := by decide +kernel
theorem dX12_follows_0 : decode cX12_follows 0 = .ok (.aload_n 0, 1) := by decide +kernel
theorem dX12_follows_1 : decode cX12_follows 1 = .ok (.invokevirtual 138, 3) := by decide +kernel
theorem dX12_follows_4 : decode cX12_follows 4 = .ok (.istore_n 1, 1) := by decide +kernel
theorem dX12_follows_5 : decode cX12_follows 5 = .ok (.iconst 0, 1) := by decide +kernel
theorem dX12_follows_6 : decode cX12_follows 6 = .ok (.istore_n 2, 1) := by decide +kernel
theorem dX12_follows_7 : decode cX12_follows 7 = .ok (.iload_n 2, 1) := by decide +kernel
theorem dX12_follows_8 : decode cX12_follows 8 = .ok (.sipush 2560, 3) := by decide +kernel
theorem dX12_follows_11 : decode cX12_follows 11 = .ok (.if_icmp .ge 33, 3) := by decide +kernel
theorem dX12_follows_14 : decode cX12_follows 14 = .ok (.aload_n 0, 1) := by decide +kernel
theorem dX12_follows_15 : decode cX12_follows 15 = .ok (.getfield 16, 3) := by decide +kernel
theorem dX12_follows_18 : decode cX12_follows 18 = .ok (.iload_n 2, 1) := by decide +kernel
theorem dX12_follows_19 : decode cX12_follows 19 = .ok (.aload_n 0, 1) := by decide +kernel
theorem dX12_follows_20 : decode cX12_follows 20 = .ok (.getfield 9, 3) := by decide +kernel
theorem dX12_follows_23 : decode cX12_follows 23 = .ok (.bipush 6, 2) := by decide +kernel
theorem dX12_follows_25 : decode cX12_follows 25 = .ok (.iload_n 2, 1) := by decide +kernel
theorem dX12_follows_26 : decode cX12_follows 26 = .ok (.iadd, 1) := by decide +kernel
theorem dX12_follows_27 : decode cX12_follows 27 = .ok (.iaload, 1) := by decide +kernel
theorem dX12_follows_28 : decode cX12_follows 28 = .ok (.iconst 1, 1) := by decide +kernel
theorem dX12_follows_29 : decode cX12_follows 29 = .ok (.if_icmp .ne 7, 3) := by decide +kernel
theorem dX12_follows_32 : decode cX12_follows 32 = .ok (.iconst 1, 1) := by decide +kernel
theorem dX12_follows_33 : decode cX12_follows 33 = .ok (.goto 4, 3) := by decide +kernel
theorem dX12_follows_36 : decode cX12_follows 36 = .ok (.iconst 0, 1) := by decide +kernel
theorem dX12_follows_37 : decode cX12_follows 37 = .ok (.bastore, 1) := by decide +kernel
theorem dX12_follows_38 : decode cX12_follows 38 = .ok (.iinc 2 1, 3) := by decide +kernel
theorem dX12_follows_41 : decode cX12_follows 41 = .ok (.goto (-34), 3) := by decide +kernel
theorem dX12_follows_44 : decode cX12_follows 44 = .ok (.aload_n 0, 1) := by decide +kernel
theorem dX12_follows_45 : decode cX12_follows 45 = .ok (.iconst 0, 1) := by decide +kernel
theorem dX12_follows_46 : decode cX12_follows 46 = .ok (.putfield 135, 3) := by decide +kernel
theorem dX12_follows_49 : decode cX12_follows 49 = .ok (.iconst 0, 1) := by decide +kernel
theorem dX12_follows_50 : decode cX12_follows 50 = .ok (.istore_n 2, 1) := by decide +kernel
theorem dX12_follows_51 : decode cX12_follows 51 = .ok (.iload_n 2, 1) := by decide +kernel
theorem dX12_follows_52 : decode cX12_follows 52 = .ok (.iconst 5, 1) := by decide +kernel
theorem dX12_follows_53 : decode cX12_follows 53 = .ok (.if_icmp .ge 28, 3) := by decide +kernel
theorem dX12_follows_56 : decode cX12_follows 56 = .ok (.aload_n 0, 1) := by decide +kernel
theorem dX12_follows_57 : decode cX12_follows 57 = .ok (.iload_n 2, 1) := by decide +kernel
theorem dX12_follows_58 : decode cX12_follows 58 = .ok (.invokevirtual 142, 3) := by decide +kernel
theorem dX12_follows_61 : decode cX12_follows 61 = .ok (.istore_n 3, 1) := by decide +kernel
theorem dX12_follows_62 : decode cX12_follows 62 = .ok (.iload_n 3, 1) := by decide +kernel
theorem dX12_follows_63 : decode cX12_follows 63 = .ok (.ifCond .eq 12, 3) := by decide +kernel
theorem dX12_follows_66 : decode cX12_follows 66 = .ok (.aload_n 0, 1) := by decide +kernel
theorem dX12_follows_67 : decode cX12_follows 67 = .ok (.iload_n 2, 1) := by decide +kernel
theorem dX12_follows_68 : decode cX12_follows 68 = .ok (.invokevirtual 145, 3) := by decide +kernel
theorem dX12_follows_71 : decode cX12_follows 71 = .ok (.istore_n 3, 1) := by decide +kernel
theorem dX12_follows_72 : decode cX12_follows 72 = .ok (.goto (-10), 3) := by decide +kernel
theorem dX12_follows_75 : decode cX12_follows 75 = .ok (.iinc 2 1, 3) := by decide +kernel
theorem dX12_follows_78 : decode cX12_follows 78 = .ok (.goto (-27), 3) := by decide +kernel
theorem dX12_follows_81 : decode cX12_follows 81 = .ok (.return_, 1) := by decide +kernel
theorem dX12_firingsOf_0 : decode cX12_firingsOf 0 = .ok (.aload_n 0, 1) := by decide +kernel
theorem dX12_firingsOf_1 : decode cX12_firingsOf 1 = .ok (.iload_n 1, 1) := by decide +kernel
theorem dX12_firingsOf_2 : decode cX12_firingsOf 2 = .ok (.invokevirtual 128, 3) := by decide +kernel
theorem dX12_firingsOf_5 : decode cX12_firingsOf 5 = .ok (.ifCond .eq 5, 3) := by decide +kernel
theorem dX12_firingsOf_8 : decode cX12_firingsOf 8 = .ok (.iconst 0, 1) := by decide +kernel
theorem dX12_firingsOf_9 : decode cX12_firingsOf 9 = .ok (.ireturn, 1) := by decide +kernel
theorem dX12_firingsOf_10 : decode cX12_firingsOf 10 = .ok (.aload_n 0, 1) := by decide +kernel
theorem dX12_firingsOf_11 : decode cX12_firingsOf 11 = .ok (.iload_n 1, 1) := by decide +kernel
theorem dX12_firingsOf_12 : decode cX12_firingsOf 12 = .ok (.iconst 0, 1) := by decide +kernel
theorem dX12_firingsOf_13 : decode cX12_firingsOf 13 = .ok (.invokevirtual 114, 3) := by decide +kernel
theorem dX12_firingsOf_16 : decode cX12_firingsOf 16 = .ok (.istore_n 3, 1) := by decide +kernel
theorem dX12_firingsOf_17 : decode cX12_firingsOf 17 = .ok (.iconst 0, 1) := by decide +kernel
theorem dX12_firingsOf_18 : decode cX12_firingsOf 18 = .ok (.istore 4, 2) := by decide +kernel
theorem dX12_firingsOf_20 : decode cX12_firingsOf 20 = .ok (.iconst 0, 1) := by decide +kernel
theorem dX12_firingsOf_21 : decode cX12_firingsOf 21 = .ok (.istore 5, 2) := by decide +kernel
theorem dX12_firingsOf_23 : decode cX12_firingsOf 23 = .ok (.aload_n 0, 1) := by decide +kernel
theorem dX12_firingsOf_24 : decode cX12_firingsOf 24 = .ok (.iload_n 3, 1) := by decide +kernel
theorem dX12_firingsOf_25 : decode cX12_firingsOf 25 = .ok (.iload 5, 2) := by decide +kernel
theorem dX12_firingsOf_27 : decode cX12_firingsOf 27 = .ok (.invokevirtual 122, 3) := by decide +kernel
theorem dX12_firingsOf_30 : decode cX12_firingsOf 30 = .ok (.ifCond .eq 38, 3) := by decide +kernel
theorem dX12_firingsOf_33 : decode cX12_firingsOf 33 = .ok (.aload_n 0, 1) := by decide +kernel
theorem dX12_firingsOf_34 : decode cX12_firingsOf 34 = .ok (.iload_n 1, 1) := by decide +kernel
theorem dX12_firingsOf_35 : decode cX12_firingsOf 35 = .ok (.invokevirtual 125, 3) := by decide +kernel
theorem dX12_firingsOf_38 : decode cX12_firingsOf 38 = .ok (.ifCond .eq 24, 3) := by decide +kernel
theorem dX12_firingsOf_41 : decode cX12_firingsOf 41 = .ok (.iload_n 2, 1) := by decide +kernel
theorem dX12_firingsOf_42 : decode cX12_firingsOf 42 = .ok (.iconst (-1), 1) := by decide +kernel
theorem dX12_firingsOf_43 : decode cX12_firingsOf 43 = .ok (.if_icmp .eq 16, 3) := by decide +kernel
theorem dX12_firingsOf_46 : decode cX12_firingsOf 46 = .ok (.aload_n 0, 1) := by decide +kernel
theorem dX12_firingsOf_47 : decode cX12_firingsOf 47 = .ok (.aload_n 0, 1) := by decide +kernel
theorem dX12_firingsOf_48 : decode cX12_firingsOf 48 = .ok (.iload_n 1, 1) := by decide +kernel
theorem dX12_firingsOf_49 : decode cX12_firingsOf 49 = .ok (.invokevirtual 86, 3) := by decide +kernel
theorem dX12_firingsOf_52 : decode cX12_firingsOf 52 = .ok (.invokevirtual 104, 3) := by decide +kernel
theorem dX12_firingsOf_55 : decode cX12_firingsOf 55 = .ok (.iload_n 2, 1) := by decide +kernel
theorem dX12_firingsOf_56 : decode cX12_firingsOf 56 = .ok (.if_icmp .ne 6, 3) := by decide +kernel
theorem dX12_firingsOf_59 : decode cX12_firingsOf 59 = .ok (.iinc 4 1, 3) := by decide +kernel
theorem dX12_firingsOf_62 : decode cX12_firingsOf 62 = .ok (.iinc 5 1, 3) := by decide +kernel
theorem dX12_firingsOf_65 : decode cX12_firingsOf 65 = .ok (.goto (-42), 3) := by decide +kernel
theorem dX12_firingsOf_68 : decode cX12_firingsOf 68 = .ok (.iload 4, 2) := by decide +kernel
theorem dX12_firingsOf_70 : decode cX12_firingsOf 70 = .ok (.ireturn, 1) := by decide +kernel
theorem dX12_reasonsOf_0 : decode cX12_reasonsOf 0 = .ok (.aload_n 0, 1) := by decide +kernel
theorem dX12_reasonsOf_1 : decode cX12_reasonsOf 1 = .ok (.getfield 16, 3) := by decide +kernel
theorem dX12_reasonsOf_4 : decode cX12_reasonsOf 4 = .ok (.sipush 512, 3) := by decide +kernel
theorem dX12_reasonsOf_7 : decode cX12_reasonsOf 7 = .ok (.iload_n 1, 1) := by decide +kernel
theorem dX12_reasonsOf_8 : decode cX12_reasonsOf 8 = .ok (.imul, 1) := by decide +kernel
theorem dX12_reasonsOf_9 : decode cX12_reasonsOf 9 = .ok (.iload_n 2, 1) := by decide +kernel
theorem dX12_reasonsOf_10 : decode cX12_reasonsOf 10 = .ok (.iadd, 1) := by decide +kernel
theorem dX12_reasonsOf_11 : decode cX12_reasonsOf 11 = .ok (.baload, 1) := by decide +kernel
theorem dX12_reasonsOf_12 : decode cX12_reasonsOf 12 = .ok (.ifCond .ne 5, 3) := by decide +kernel
theorem dX12_reasonsOf_15 : decode cX12_reasonsOf 15 = .ok (.iconst 0, 1) := by decide +kernel
theorem dX12_reasonsOf_16 : decode cX12_reasonsOf 16 = .ok (.ireturn, 1) := by decide +kernel
theorem dX12_reasonsOf_17 : decode cX12_reasonsOf 17 = .ok (.aload_n 0, 1) := by decide +kernel
theorem dX12_reasonsOf_18 : decode cX12_reasonsOf 18 = .ok (.iload_n 1, 1) := by decide +kernel
theorem dX12_reasonsOf_19 : decode cX12_reasonsOf 19 = .ok (.iload_n 2, 1) := by decide +kernel
theorem dX12_reasonsOf_20 : decode cX12_reasonsOf 20 = .ok (.invokevirtual 148, 3) := by decide +kernel
theorem dX12_reasonsOf_23 : decode cX12_reasonsOf 23 = .ok (.ifCond .eq 7, 3) := by decide +kernel
theorem dX12_reasonsOf_26 : decode cX12_reasonsOf 26 = .ok (.iconst 1, 1) := by decide +kernel
theorem dX12_reasonsOf_27 : decode cX12_reasonsOf 27 = .ok (.goto 4, 3) := by decide +kernel
theorem dX12_reasonsOf_30 : decode cX12_reasonsOf 30 = .ok (.iconst 0, 1) := by decide +kernel
theorem dX12_reasonsOf_31 : decode cX12_reasonsOf 31 = .ok (.istore_n 3, 1) := by decide +kernel
theorem dX12_reasonsOf_32 : decode cX12_reasonsOf 32 = .ok (.iconst 0, 1) := by decide +kernel
theorem dX12_reasonsOf_33 : decode cX12_reasonsOf 33 = .ok (.istore 4, 2) := by decide +kernel
theorem dX12_reasonsOf_35 : decode cX12_reasonsOf 35 = .ok (.iload 4, 2) := by decide +kernel
theorem dX12_reasonsOf_37 : decode cX12_reasonsOf 37 = .ok (.aload_n 0, 1) := by decide +kernel
theorem dX12_reasonsOf_38 : decode cX12_reasonsOf 38 = .ok (.getfield 9, 3) := by decide +kernel
theorem dX12_reasonsOf_41 : decode cX12_reasonsOf 41 = .ok (.sipush 2654, 3) := by decide +kernel
theorem dX12_reasonsOf_44 : decode cX12_reasonsOf 44 = .ok (.iaload, 1) := by decide +kernel
theorem dX12_reasonsOf_45 : decode cX12_reasonsOf 45 = .ok (.if_icmp .ge 34, 3) := by decide +kernel
theorem dX12_reasonsOf_48 : decode cX12_reasonsOf 48 = .ok (.aload_n 0, 1) := by decide +kernel
theorem dX12_reasonsOf_49 : decode cX12_reasonsOf 49 = .ok (.getfield 9, 3) := by decide +kernel
theorem dX12_reasonsOf_52 : decode cX12_reasonsOf 52 = .ok (.aload_n 0, 1) := by decide +kernel
theorem dX12_reasonsOf_53 : decode cX12_reasonsOf 53 = .ok (.iload 4, 2) := by decide +kernel
theorem dX12_reasonsOf_55 : decode cX12_reasonsOf 55 = .ok (.invokevirtual 86, 3) := by decide +kernel
theorem dX12_reasonsOf_58 : decode cX12_reasonsOf 58 = .ok (.iaload, 1) := by decide +kernel
theorem dX12_reasonsOf_59 : decode cX12_reasonsOf 59 = .ok (.iload_n 1, 1) := by decide +kernel
theorem dX12_reasonsOf_60 : decode cX12_reasonsOf 60 = .ok (.if_icmp .ne 13, 3) := by decide +kernel
theorem dX12_reasonsOf_63 : decode cX12_reasonsOf 63 = .ok (.iload_n 3, 1) := by decide +kernel
theorem dX12_reasonsOf_64 : decode cX12_reasonsOf 64 = .ok (.aload_n 0, 1) := by decide +kernel
theorem dX12_reasonsOf_65 : decode cX12_reasonsOf 65 = .ok (.iload 4, 2) := by decide +kernel
theorem dX12_reasonsOf_67 : decode cX12_reasonsOf 67 = .ok (.iload_n 2, 1) := by decide +kernel
theorem dX12_reasonsOf_68 : decode cX12_reasonsOf 68 = .ok (.invokevirtual 151, 3) := by decide +kernel
theorem dX12_reasonsOf_71 : decode cX12_reasonsOf 71 = .ok (.iadd, 1) := by decide +kernel
theorem dX12_reasonsOf_72 : decode cX12_reasonsOf 72 = .ok (.istore_n 3, 1) := by decide +kernel
theorem dX12_reasonsOf_73 : decode cX12_reasonsOf 73 = .ok (.iinc 4 1, 3) := by decide +kernel
theorem dX12_reasonsOf_76 : decode cX12_reasonsOf 76 = .ok (.goto (-41), 3) := by decide +kernel
theorem dX12_reasonsOf_79 : decode cX12_reasonsOf 79 = .ok (.iload_n 3, 1) := by decide +kernel
theorem dX12_reasonsOf_80 : decode cX12_reasonsOf 80 = .ok (.ireturn, 1) := by decide +kernel
theorem dX12_rowsOf_0 : decode cX12_rowsOf 0 = .ok (.iconst 0, 1) := by decide +kernel
theorem dX12_rowsOf_1 : decode cX12_rowsOf 1 = .ok (.istore_n 2, 1) := by decide +kernel
theorem dX12_rowsOf_2 : decode cX12_rowsOf 2 = .ok (.iconst 0, 1) := by decide +kernel
theorem dX12_rowsOf_3 : decode cX12_rowsOf 3 = .ok (.istore_n 3, 1) := by decide +kernel
theorem dX12_rowsOf_4 : decode cX12_rowsOf 4 = .ok (.iload_n 3, 1) := by decide +kernel
theorem dX12_rowsOf_5 : decode cX12_rowsOf 5 = .ok (.sipush 512, 3) := by decide +kernel
theorem dX12_rowsOf_8 : decode cX12_rowsOf 8 = .ok (.if_icmp .ge 32, 3) := by decide +kernel
theorem dX12_rowsOf_11 : decode cX12_rowsOf 11 = .ok (.iload_n 2, 1) := by decide +kernel
theorem dX12_rowsOf_12 : decode cX12_rowsOf 12 = .ok (.aload_n 0, 1) := by decide +kernel
theorem dX12_rowsOf_13 : decode cX12_rowsOf 13 = .ok (.getfield 16, 3) := by decide +kernel
theorem dX12_rowsOf_16 : decode cX12_rowsOf 16 = .ok (.sipush 512, 3) := by decide +kernel
theorem dX12_rowsOf_19 : decode cX12_rowsOf 19 = .ok (.iload_n 1, 1) := by decide +kernel
theorem dX12_rowsOf_20 : decode cX12_rowsOf 20 = .ok (.imul, 1) := by decide +kernel
theorem dX12_rowsOf_21 : decode cX12_rowsOf 21 = .ok (.iload_n 3, 1) := by decide +kernel
theorem dX12_rowsOf_22 : decode cX12_rowsOf 22 = .ok (.iadd, 1) := by decide +kernel
theorem dX12_rowsOf_23 : decode cX12_rowsOf 23 = .ok (.baload, 1) := by decide +kernel
theorem dX12_rowsOf_24 : decode cX12_rowsOf 24 = .ok (.ifCond .eq 7, 3) := by decide +kernel
theorem dX12_rowsOf_27 : decode cX12_rowsOf 27 = .ok (.iconst 1, 1) := by decide +kernel
theorem dX12_rowsOf_28 : decode cX12_rowsOf 28 = .ok (.goto 4, 3) := by decide +kernel
theorem dX12_rowsOf_31 : decode cX12_rowsOf 31 = .ok (.iconst 0, 1) := by decide +kernel
theorem dX12_rowsOf_32 : decode cX12_rowsOf 32 = .ok (.iadd, 1) := by decide +kernel
theorem dX12_rowsOf_33 : decode cX12_rowsOf 33 = .ok (.istore_n 2, 1) := by decide +kernel
theorem dX12_rowsOf_34 : decode cX12_rowsOf 34 = .ok (.iinc 3 1, 3) := by decide +kernel
theorem dX12_rowsOf_37 : decode cX12_rowsOf 37 = .ok (.goto (-33), 3) := by decide +kernel
theorem dX12_rowsOf_40 : decode cX12_rowsOf 40 = .ok (.iload_n 2, 1) := by decide +kernel
theorem dX12_rowsOf_41 : decode cX12_rowsOf 41 = .ok (.ireturn, 1) := by decide +kernel
theorem dX12_variablesOfQuery_0 : decode cX12_variablesOfQuery 0 = .ok (.iconst 0, 1) := by decide +kernel
theorem dX12_variablesOfQuery_1 : decode cX12_variablesOfQuery 1 = .ok (.istore_n 2, 1) := by decide +kernel
theorem dX12_variablesOfQuery_2 : decode cX12_variablesOfQuery 2 = .ok (.iconst 0, 1) := by decide +kernel
theorem dX12_variablesOfQuery_3 : decode cX12_variablesOfQuery 3 = .ok (.istore_n 3, 1) := by decide +kernel
theorem dX12_variablesOfQuery_4 : decode cX12_variablesOfQuery 4 = .ok (.iload_n 3, 1) := by decide +kernel
theorem dX12_variablesOfQuery_5 : decode cX12_variablesOfQuery 5 = .ok (.aload_n 0, 1) := by decide +kernel
theorem dX12_variablesOfQuery_6 : decode cX12_variablesOfQuery 6 = .ok (.iload_n 1, 1) := by decide +kernel
theorem dX12_variablesOfQuery_7 : decode cX12_variablesOfQuery 7 = .ok (.invokevirtual 76, 3) := by decide +kernel
theorem dX12_variablesOfQuery_10 : decode cX12_variablesOfQuery 10 = .ok (.if_icmp .ge 22, 3) := by decide +kernel
theorem dX12_variablesOfQuery_13 : decode cX12_variablesOfQuery 13 = .ok (.iload_n 2, 1) := by decide +kernel
theorem dX12_variablesOfQuery_14 : decode cX12_variablesOfQuery 14 = .ok (.aload_n 0, 1) := by decide +kernel
theorem dX12_variablesOfQuery_15 : decode cX12_variablesOfQuery 15 = .ok (.aload_n 0, 1) := by decide +kernel
theorem dX12_variablesOfQuery_16 : decode cX12_variablesOfQuery 16 = .ok (.iload_n 1, 1) := by decide +kernel
theorem dX12_variablesOfQuery_17 : decode cX12_variablesOfQuery 17 = .ok (.iload_n 3, 1) := by decide +kernel
theorem dX12_variablesOfQuery_18 : decode cX12_variablesOfQuery 18 = .ok (.invokevirtual 79, 3) := by decide +kernel
theorem dX12_variablesOfQuery_21 : decode cX12_variablesOfQuery 21 = .ok (.invokevirtual 111, 3) := by decide +kernel
theorem dX12_variablesOfQuery_24 : decode cX12_variablesOfQuery 24 = .ok (.ior, 1) := by decide +kernel
theorem dX12_variablesOfQuery_25 : decode cX12_variablesOfQuery 25 = .ok (.istore_n 2, 1) := by decide +kernel
theorem dX12_variablesOfQuery_26 : decode cX12_variablesOfQuery 26 = .ok (.iinc 3 1, 3) := by decide +kernel
theorem dX12_variablesOfQuery_29 : decode cX12_variablesOfQuery 29 = .ok (.goto (-25), 3) := by decide +kernel
theorem dX12_variablesOfQuery_32 : decode cX12_variablesOfQuery 32 = .ok (.iload_n 2, 1) := by decide +kernel
theorem dX12_variablesOfQuery_33 : decode cX12_variablesOfQuery 33 = .ok (.ireturn, 1) := by decide +kernel
theorem dX12_standsIn_0 : decode cX12_standsIn 0 = .ok (.iload_n 2, 1) := by decide +kernel
theorem dX12_standsIn_1 : decode cX12_standsIn 1 = .ok (.iconst 0, 1) := by decide +kernel
theorem dX12_standsIn_2 : decode cX12_standsIn 2 = .ok (.iconst 3, 1) := by decide +kernel
theorem dX12_standsIn_3 : decode cX12_standsIn 3 = .ok (.invokestatic 64, 3) := by decide +kernel
theorem dX12_standsIn_6 : decode cX12_standsIn 6 = .ok (.ifCond .eq 20, 3) := by decide +kernel
theorem dX12_standsIn_9 : decode cX12_standsIn 9 = .ok (.aload_n 0, 1) := by decide +kernel
theorem dX12_standsIn_10 : decode cX12_standsIn 10 = .ok (.iload_n 1, 1) := by decide +kernel
theorem dX12_standsIn_11 : decode cX12_standsIn 11 = .ok (.invokevirtual 154, 3) := by decide +kernel
theorem dX12_standsIn_14 : decode cX12_standsIn 14 = .ok (.iload_n 2, 1) := by decide +kernel
theorem dX12_standsIn_15 : decode cX12_standsIn 15 = .ok (.ishr, 1) := by decide +kernel
theorem dX12_standsIn_16 : decode cX12_standsIn 16 = .ok (.iconst 1, 1) := by decide +kernel
theorem dX12_standsIn_17 : decode cX12_standsIn 17 = .ok (.iand, 1) := by decide +kernel
theorem dX12_standsIn_18 : decode cX12_standsIn 18 = .ok (.iconst 1, 1) := by decide +kernel
theorem dX12_standsIn_19 : decode cX12_standsIn 19 = .ok (.if_icmp .ne 7, 3) := by decide +kernel
theorem dX12_standsIn_22 : decode cX12_standsIn 22 = .ok (.iconst 1, 1) := by decide +kernel
theorem dX12_standsIn_23 : decode cX12_standsIn 23 = .ok (.goto 4, 3) := by decide +kernel
theorem dX12_standsIn_26 : decode cX12_standsIn 26 = .ok (.iconst 0, 1) := by decide +kernel
theorem dX12_standsIn_27 : decode cX12_standsIn 27 = .ok (.ireturn, 1) := by decide +kernel
theorem dX12_findsPlaces_0 : decode cX12_findsPlaces 0 = .ok (.aload_n 0, 1) := by decide +kernel
theorem dX12_findsPlaces_1 : decode cX12_findsPlaces 1 = .ok (.iload_n 1, 1) := by decide +kernel
theorem dX12_findsPlaces_2 : decode cX12_findsPlaces 2 = .ok (.invokevirtual 154, 3) := by decide +kernel
theorem dX12_findsPlaces_5 : decode cX12_findsPlaces 5 = .ok (.istore_n 2, 1) := by decide +kernel
theorem dX12_findsPlaces_6 : decode cX12_findsPlaces 6 = .ok (.aload_n 0, 1) := by decide +kernel
theorem dX12_findsPlaces_7 : decode cX12_findsPlaces 7 = .ok (.iconst 0, 1) := by decide +kernel
theorem dX12_findsPlaces_8 : decode cX12_findsPlaces 8 = .ok (.putfield 157, 3) := by decide +kernel
theorem dX12_findsPlaces_11 : decode cX12_findsPlaces 11 = .ok (.sipush 1000, 3) := by decide +kernel
theorem dX12_findsPlaces_14 : decode cX12_findsPlaces 14 = .ok (.istore_n 3, 1) := by decide +kernel
theorem dX12_findsPlaces_15 : decode cX12_findsPlaces 15 = .ok (.iload_n 3, 1) := by decide +kernel
theorem dX12_findsPlaces_16 : decode cX12_findsPlaces 16 = .ok (.ifCond .le 61, 3) := by decide +kernel
theorem dX12_findsPlaces_19 : decode cX12_findsPlaces 19 = .ok (.aload_n 0, 1) := by decide +kernel
theorem dX12_findsPlaces_20 : decode cX12_findsPlaces 20 = .ok (.getfield 9, 3) := by decide +kernel
theorem dX12_findsPlaces_23 : decode cX12_findsPlaces 23 = .ok (.sipush 2566, 3) := by decide +kernel
theorem dX12_findsPlaces_26 : decode cX12_findsPlaces 26 = .ok (.iload_n 1, 1) := by decide +kernel
theorem dX12_findsPlaces_27 : decode cX12_findsPlaces 27 = .ok (.iadd, 1) := by decide +kernel
theorem dX12_findsPlaces_28 : decode cX12_findsPlaces 28 = .ok (.iaload, 1) := by decide +kernel
theorem dX12_findsPlaces_29 : decode cX12_findsPlaces 29 = .ok (.iload_n 3, 1) := by decide +kernel
theorem dX12_findsPlaces_30 : decode cX12_findsPlaces 30 = .ok (.idiv, 1) := by decide +kernel
theorem dX12_findsPlaces_31 : decode cX12_findsPlaces 31 = .ok (.bipush 10, 2) := by decide +kernel
theorem dX12_findsPlaces_33 : decode cX12_findsPlaces 33 = .ok (.irem, 1) := by decide +kernel
theorem dX12_findsPlaces_34 : decode cX12_findsPlaces 34 = .ok (.istore 4, 2) := by decide +kernel
theorem dX12_findsPlaces_36 : decode cX12_findsPlaces 36 = .ok (.iload_n 2, 1) := by decide +kernel
theorem dX12_findsPlaces_37 : decode cX12_findsPlaces 37 = .ok (.iload 4, 2) := by decide +kernel
theorem dX12_findsPlaces_39 : decode cX12_findsPlaces 39 = .ok (.ishr, 1) := by decide +kernel
theorem dX12_findsPlaces_40 : decode cX12_findsPlaces 40 = .ok (.iconst 1, 1) := by decide +kernel
theorem dX12_findsPlaces_41 : decode cX12_findsPlaces 41 = .ok (.iand, 1) := by decide +kernel
theorem dX12_findsPlaces_42 : decode cX12_findsPlaces 42 = .ok (.ifCond .ne 6, 3) := by decide +kernel
theorem dX12_findsPlaces_45 : decode cX12_findsPlaces 45 = .ok (.goto 24, 3) := by decide +kernel
theorem dX12_findsPlaces_48 : decode cX12_findsPlaces 48 = .ok (.aload_n 0, 1) := by decide +kernel
theorem dX12_findsPlaces_49 : decode cX12_findsPlaces 49 = .ok (.getfield 29, 3) := by decide +kernel
theorem dX12_findsPlaces_52 : decode cX12_findsPlaces 52 = .ok (.aload_n 0, 1) := by decide +kernel
theorem dX12_findsPlaces_53 : decode cX12_findsPlaces 53 = .ok (.getfield 157, 3) := by decide +kernel
theorem dX12_findsPlaces_56 : decode cX12_findsPlaces 56 = .ok (.iload 4, 2) := by decide +kernel
theorem dX12_findsPlaces_58 : decode cX12_findsPlaces 58 = .ok (.iastore, 1) := by decide +kernel
theorem dX12_findsPlaces_59 : decode cX12_findsPlaces 59 = .ok (.aload_n 0, 1) := by decide +kernel
theorem dX12_findsPlaces_60 : decode cX12_findsPlaces 60 = .ok (.dup, 1) := by decide +kernel
theorem dX12_findsPlaces_61 : decode cX12_findsPlaces 61 = .ok (.getfield 157, 3) := by decide +kernel
theorem dX12_findsPlaces_64 : decode cX12_findsPlaces 64 = .ok (.iconst 1, 1) := by decide +kernel
theorem dX12_findsPlaces_65 : decode cX12_findsPlaces 65 = .ok (.iadd, 1) := by decide +kernel
theorem dX12_findsPlaces_66 : decode cX12_findsPlaces 66 = .ok (.putfield 157, 3) := by decide +kernel
theorem dX12_findsPlaces_69 : decode cX12_findsPlaces 69 = .ok (.iload_n 3, 1) := by decide +kernel
theorem dX12_findsPlaces_70 : decode cX12_findsPlaces 70 = .ok (.bipush 10, 2) := by decide +kernel
theorem dX12_findsPlaces_72 : decode cX12_findsPlaces 72 = .ok (.idiv, 1) := by decide +kernel
theorem dX12_findsPlaces_73 : decode cX12_findsPlaces 73 = .ok (.istore_n 3, 1) := by decide +kernel
theorem dX12_findsPlaces_74 : decode cX12_findsPlaces 74 = .ok (.goto (-59), 3) := by decide +kernel
theorem dX12_findsPlaces_77 : decode cX12_findsPlaces 77 = .ok (.return_, 1) := by decide +kernel
theorem dX12_takes_0 : decode cX12_takes 0 = .ok (.iconst 0, 1) := by decide +kernel
theorem dX12_takes_1 : decode cX12_takes 1 = .ok (.istore_n 2, 1) := by decide +kernel
theorem dX12_takes_2 : decode cX12_takes 2 = .ok (.iload_n 2, 1) := by decide +kernel
theorem dX12_takes_3 : decode cX12_takes 3 = .ok (.aload_n 0, 1) := by decide +kernel
theorem dX12_takes_4 : decode cX12_takes 4 = .ok (.getfield 157, 3) := by decide +kernel
theorem dX12_takes_7 : decode cX12_takes 7 = .ok (.if_icmp .ge 35, 3) := by decide +kernel
theorem dX12_takes_10 : decode cX12_takes 10 = .ok (.aload_n 0, 1) := by decide +kernel
theorem dX12_takes_11 : decode cX12_takes 11 = .ok (.getfield 26, 3) := by decide +kernel
theorem dX12_takes_14 : decode cX12_takes 14 = .ok (.aload_n 0, 1) := by decide +kernel
theorem dX12_takes_15 : decode cX12_takes 15 = .ok (.getfield 29, 3) := by decide +kernel
theorem dX12_takes_18 : decode cX12_takes 18 = .ok (.iload_n 2, 1) := by decide +kernel
theorem dX12_takes_19 : decode cX12_takes 19 = .ok (.iaload, 1) := by decide +kernel
theorem dX12_takes_20 : decode cX12_takes 20 = .ok (.iload_n 1, 1) := by decide +kernel
theorem dX12_takes_21 : decode cX12_takes 21 = .ok (.iconst 3, 1) := by decide +kernel
theorem dX12_takes_22 : decode cX12_takes 22 = .ok (.aload_n 0, 1) := by decide +kernel
theorem dX12_takes_23 : decode cX12_takes 23 = .ok (.getfield 157, 3) := by decide +kernel
theorem dX12_takes_26 : decode cX12_takes 26 = .ok (.iconst 1, 1) := by decide +kernel
theorem dX12_takes_27 : decode cX12_takes 27 = .ok (.isub, 1) := by decide +kernel
theorem dX12_takes_28 : decode cX12_takes 28 = .ok (.iload_n 2, 1) := by decide +kernel
theorem dX12_takes_29 : decode cX12_takes 29 = .ok (.isub, 1) := by decide +kernel
theorem dX12_takes_30 : decode cX12_takes 30 = .ok (.imul, 1) := by decide +kernel
theorem dX12_takes_31 : decode cX12_takes 31 = .ok (.ishr, 1) := by decide +kernel
theorem dX12_takes_32 : decode cX12_takes 32 = .ok (.bipush 7, 2) := by decide +kernel
theorem dX12_takes_34 : decode cX12_takes 34 = .ok (.iand, 1) := by decide +kernel
theorem dX12_takes_35 : decode cX12_takes 35 = .ok (.iastore, 1) := by decide +kernel
theorem dX12_takes_36 : decode cX12_takes 36 = .ok (.iinc 2 1, 3) := by decide +kernel
theorem dX12_takes_39 : decode cX12_takes 39 = .ok (.goto (-37), 3) := by decide +kernel
theorem dX12_takes_42 : decode cX12_takes 42 = .ok (.return_, 1) := by decide +kernel
theorem dX12_isAnswer_0 : decode cX12_isAnswer 0 = .ok (.aload_n 0, 1) := by decide +kernel
theorem dX12_isAnswer_1 : decode cX12_isAnswer 1 = .ok (.iload_n 2, 1) := by decide +kernel
theorem dX12_isAnswer_2 : decode cX12_isAnswer 2 = .ok (.invokevirtual 160, 3) := by decide +kernel
theorem dX12_isAnswer_5 : decode cX12_isAnswer 5 = .ok (.iconst 1, 1) := by decide +kernel
theorem dX12_isAnswer_6 : decode cX12_isAnswer 6 = .ok (.istore_n 3, 1) := by decide +kernel
theorem dX12_isAnswer_7 : decode cX12_isAnswer 7 = .ok (.iconst 0, 1) := by decide +kernel
theorem dX12_isAnswer_8 : decode cX12_isAnswer 8 = .ok (.istore 4, 2) := by decide +kernel
theorem dX12_isAnswer_10 : decode cX12_isAnswer 10 = .ok (.iload 4, 2) := by decide +kernel
theorem dX12_isAnswer_12 : decode cX12_isAnswer 12 = .ok (.aload_n 0, 1) := by decide +kernel
theorem dX12_isAnswer_13 : decode cX12_isAnswer 13 = .ok (.iload_n 1, 1) := by decide +kernel
theorem dX12_isAnswer_14 : decode cX12_isAnswer 14 = .ok (.invokevirtual 76, 3) := by decide +kernel
theorem dX12_isAnswer_17 : decode cX12_isAnswer 17 = .ok (.if_icmp .ge 25, 3) := by decide +kernel
theorem dX12_isAnswer_20 : decode cX12_isAnswer 20 = .ok (.iload_n 3, 1) := by decide +kernel
theorem dX12_isAnswer_21 : decode cX12_isAnswer 21 = .ok (.ifCond .eq 21, 3) := by decide +kernel
theorem dX12_isAnswer_24 : decode cX12_isAnswer 24 = .ok (.aload_n 0, 1) := by decide +kernel
theorem dX12_isAnswer_25 : decode cX12_isAnswer 25 = .ok (.aload_n 0, 1) := by decide +kernel
theorem dX12_isAnswer_26 : decode cX12_isAnswer 26 = .ok (.iload_n 1, 1) := by decide +kernel
theorem dX12_isAnswer_27 : decode cX12_isAnswer 27 = .ok (.iload 4, 2) := by decide +kernel
theorem dX12_isAnswer_29 : decode cX12_isAnswer 29 = .ok (.invokevirtual 79, 3) := by decide +kernel
theorem dX12_isAnswer_32 : decode cX12_isAnswer 32 = .ok (.invokevirtual 118, 3) := by decide +kernel
theorem dX12_isAnswer_35 : decode cX12_isAnswer 35 = .ok (.istore_n 3, 1) := by decide +kernel
theorem dX12_isAnswer_36 : decode cX12_isAnswer 36 = .ok (.iinc 4 1, 3) := by decide +kernel
theorem dX12_isAnswer_39 : decode cX12_isAnswer 39 = .ok (.goto (-29), 3) := by decide +kernel
theorem dX12_isAnswer_42 : decode cX12_isAnswer 42 = .ok (.iload_n 3, 1) := by decide +kernel
theorem dX12_isAnswer_43 : decode cX12_isAnswer 43 = .ok (.ireturn, 1) := by decide +kernel
theorem dX12_choices_0 : decode cX12_choices 0 = .ok (.aload_n 0, 1) := by decide +kernel
theorem dX12_choices_1 : decode cX12_choices 1 = .ok (.iload_n 1, 1) := by decide +kernel
theorem dX12_choices_2 : decode cX12_choices 2 = .ok (.invokevirtual 163, 3) := by decide +kernel
theorem dX12_choices_5 : decode cX12_choices 5 = .ok (.aload_n 0, 1) := by decide +kernel
theorem dX12_choices_6 : decode cX12_choices 6 = .ok (.getfield 157, 3) := by decide +kernel
theorem dX12_choices_9 : decode cX12_choices 9 = .ok (.ifCond .ne 7, 3) := by decide +kernel
theorem dX12_choices_12 : decode cX12_choices 12 = .ok (.iconst 0, 1) := by decide +kernel
theorem dX12_choices_13 : decode cX12_choices 13 = .ok (.goto 11, 3) := by decide +kernel
theorem dX12_choices_16 : decode cX12_choices 16 = .ok (.iconst 1, 1) := by decide +kernel
theorem dX12_choices_17 : decode cX12_choices 17 = .ok (.iconst 3, 1) := by decide +kernel
theorem dX12_choices_18 : decode cX12_choices 18 = .ok (.aload_n 0, 1) := by decide +kernel
theorem dX12_choices_19 : decode cX12_choices 19 = .ok (.getfield 157, 3) := by decide +kernel
theorem dX12_choices_22 : decode cX12_choices 22 = .ok (.imul, 1) := by decide +kernel
theorem dX12_choices_23 : decode cX12_choices 23 = .ok (.ishl, 1) := by decide +kernel
theorem dX12_choices_24 : decode cX12_choices 24 = .ok (.ireturn, 1) := by decide +kernel
theorem dX12_answersOf_0 : decode cX12_answersOf 0 = .ok (.aload_n 0, 1) := by decide +kernel
theorem dX12_answersOf_1 : decode cX12_answersOf 1 = .ok (.iload_n 1, 1) := by decide +kernel
theorem dX12_answersOf_2 : decode cX12_answersOf 2 = .ok (.invokevirtual 166, 3) := by decide +kernel
theorem dX12_answersOf_5 : decode cX12_answersOf 5 = .ok (.istore_n 2, 1) := by decide +kernel
theorem dX12_answersOf_6 : decode cX12_answersOf 6 = .ok (.iconst 0, 1) := by decide +kernel
theorem dX12_answersOf_7 : decode cX12_answersOf 7 = .ok (.istore_n 3, 1) := by decide +kernel
theorem dX12_answersOf_8 : decode cX12_answersOf 8 = .ok (.iconst 0, 1) := by decide +kernel
theorem dX12_answersOf_9 : decode cX12_answersOf 9 = .ok (.istore 4, 2) := by decide +kernel
theorem dX12_answersOf_11 : decode cX12_answersOf 11 = .ok (.iload 4, 2) := by decide +kernel
theorem dX12_answersOf_13 : decode cX12_answersOf 13 = .ok (.iload_n 2, 1) := by decide +kernel
theorem dX12_answersOf_14 : decode cX12_answersOf 14 = .ok (.if_icmp .ge 27, 3) := by decide +kernel
theorem dX12_answersOf_17 : decode cX12_answersOf 17 = .ok (.iload_n 3, 1) := by decide +kernel
theorem dX12_answersOf_18 : decode cX12_answersOf 18 = .ok (.aload_n 0, 1) := by decide +kernel
theorem dX12_answersOf_19 : decode cX12_answersOf 19 = .ok (.iload_n 1, 1) := by decide +kernel
theorem dX12_answersOf_20 : decode cX12_answersOf 20 = .ok (.iload 4, 2) := by decide +kernel
theorem dX12_answersOf_22 : decode cX12_answersOf 22 = .ok (.invokevirtual 169, 3) := by decide +kernel
theorem dX12_answersOf_25 : decode cX12_answersOf 25 = .ok (.ifCond .eq 7, 3) := by decide +kernel
theorem dX12_answersOf_28 : decode cX12_answersOf 28 = .ok (.iconst 1, 1) := by decide +kernel
theorem dX12_answersOf_29 : decode cX12_answersOf 29 = .ok (.goto 4, 3) := by decide +kernel
theorem dX12_answersOf_32 : decode cX12_answersOf 32 = .ok (.iconst 0, 1) := by decide +kernel
theorem dX12_answersOf_33 : decode cX12_answersOf 33 = .ok (.iadd, 1) := by decide +kernel
theorem dX12_answersOf_34 : decode cX12_answersOf 34 = .ok (.istore_n 3, 1) := by decide +kernel
theorem dX12_answersOf_35 : decode cX12_answersOf 35 = .ok (.iinc 4 1, 3) := by decide +kernel
theorem dX12_answersOf_38 : decode cX12_answersOf 38 = .ok (.goto (-27), 3) := by decide +kernel
theorem dX12_answersOf_41 : decode cX12_answersOf 41 = .ok (.iload_n 3, 1) := by decide +kernel
theorem dX12_answersOf_42 : decode cX12_answersOf 42 = .ok (.ireturn, 1) := by decide +kernel
theorem dX12_findsMade_0 : decode cX12_findsMade 0 = .ok (.iconst 0, 1) := by decide +kernel
theorem dX12_findsMade_1 : decode cX12_findsMade 1 = .ok (.istore_n 3, 1) := by decide +kernel
theorem dX12_findsMade_2 : decode cX12_findsMade 2 = .ok (.iload_n 3, 1) := by decide +kernel
theorem dX12_findsMade_3 : decode cX12_findsMade 3 = .ok (.sipush 512, 3) := by decide +kernel
theorem dX12_findsMade_6 : decode cX12_findsMade 6 = .ok (.if_icmp .ge 16, 3) := by decide +kernel
theorem dX12_findsMade_9 : decode cX12_findsMade 9 = .ok (.aload_n 0, 1) := by decide +kernel
theorem dX12_findsMade_10 : decode cX12_findsMade 10 = .ok (.getfield 32, 3) := by decide +kernel
theorem dX12_findsMade_13 : decode cX12_findsMade 13 = .ok (.iload_n 3, 1) := by decide +kernel
theorem dX12_findsMade_14 : decode cX12_findsMade 14 = .ok (.iconst 0, 1) := by decide +kernel
theorem dX12_findsMade_15 : decode cX12_findsMade 15 = .ok (.bastore, 1) := by decide +kernel
theorem dX12_findsMade_16 : decode cX12_findsMade 16 = .ok (.iinc 3 1, 3) := by decide +kernel
theorem dX12_findsMade_19 : decode cX12_findsMade 19 = .ok (.goto (-17), 3) := by decide +kernel
theorem dX12_findsMade_22 : decode cX12_findsMade 22 = .ok (.aload_n 0, 1) := by decide +kernel
theorem dX12_findsMade_23 : decode cX12_findsMade 23 = .ok (.iload_n 1, 1) := by decide +kernel
theorem dX12_findsMade_24 : decode cX12_findsMade 24 = .ok (.invokevirtual 166, 3) := by decide +kernel
theorem dX12_findsMade_27 : decode cX12_findsMade 27 = .ok (.istore_n 3, 1) := by decide +kernel
theorem dX12_findsMade_28 : decode cX12_findsMade 28 = .ok (.iconst 0, 1) := by decide +kernel
theorem dX12_findsMade_29 : decode cX12_findsMade 29 = .ok (.istore 4, 2) := by decide +kernel
theorem dX12_findsMade_31 : decode cX12_findsMade 31 = .ok (.iload 4, 2) := by decide +kernel
theorem dX12_findsMade_33 : decode cX12_findsMade 33 = .ok (.iload_n 3, 1) := by decide +kernel
theorem dX12_findsMade_34 : decode cX12_findsMade 34 = .ok (.if_icmp .ge 35, 3) := by decide +kernel
theorem dX12_findsMade_37 : decode cX12_findsMade 37 = .ok (.aload_n 0, 1) := by decide +kernel
theorem dX12_findsMade_38 : decode cX12_findsMade 38 = .ok (.iload_n 1, 1) := by decide +kernel
theorem dX12_findsMade_39 : decode cX12_findsMade 39 = .ok (.iload 4, 2) := by decide +kernel
theorem dX12_findsMade_41 : decode cX12_findsMade 41 = .ok (.invokevirtual 169, 3) := by decide +kernel
theorem dX12_findsMade_44 : decode cX12_findsMade 44 = .ok (.ifCond .eq 19, 3) := by decide +kernel
theorem dX12_findsMade_47 : decode cX12_findsMade 47 = .ok (.aload_n 0, 1) := by decide +kernel
theorem dX12_findsMade_48 : decode cX12_findsMade 48 = .ok (.getfield 32, 3) := by decide +kernel
theorem dX12_findsMade_51 : decode cX12_findsMade 51 = .ok (.aload_n 0, 1) := by decide +kernel
theorem dX12_findsMade_52 : decode cX12_findsMade 52 = .ok (.aload_n 0, 1) := by decide +kernel
theorem dX12_findsMade_53 : decode cX12_findsMade 53 = .ok (.iload_n 1, 1) := by decide +kernel
theorem dX12_findsMade_54 : decode cX12_findsMade 54 = .ok (.iload_n 2, 1) := by decide +kernel
theorem dX12_findsMade_55 : decode cX12_findsMade 55 = .ok (.invokevirtual 79, 3) := by decide +kernel
theorem dX12_findsMade_58 : decode cX12_findsMade 58 = .ok (.invokevirtual 104, 3) := by decide +kernel
theorem dX12_findsMade_61 : decode cX12_findsMade 61 = .ok (.iconst 1, 1) := by decide +kernel
theorem dX12_findsMade_62 : decode cX12_findsMade 62 = .ok (.bastore, 1) := by decide +kernel
theorem dX12_findsMade_63 : decode cX12_findsMade 63 = .ok (.iinc 4 1, 3) := by decide +kernel
theorem dX12_findsMade_66 : decode cX12_findsMade 66 = .ok (.goto (-35), 3) := by decide +kernel
theorem dX12_findsMade_69 : decode cX12_findsMade 69 = .ok (.return_, 1) := by decide +kernel
theorem dX12_isRowFor_0 : decode cX12_isRowFor 0 = .ok (.iconst 0, 1) := by decide +kernel
theorem dX12_isRowFor_1 : decode cX12_isRowFor 1 = .ok (.istore 4, 2) := by decide +kernel
theorem dX12_isRowFor_3 : decode cX12_isRowFor 3 = .ok (.iload 4, 2) := by decide +kernel
theorem dX12_isRowFor_5 : decode cX12_isRowFor 5 = .ok (.aload_n 0, 1) := by decide +kernel
theorem dX12_isRowFor_6 : decode cX12_isRowFor 6 = .ok (.aload_n 0, 1) := by decide +kernel
theorem dX12_isRowFor_7 : decode cX12_isRowFor 7 = .ok (.getfield 9, 3) := by decide +kernel
theorem dX12_isRowFor_10 : decode cX12_isRowFor 10 = .ok (.iload_n 1, 1) := by decide +kernel
theorem dX12_isRowFor_11 : decode cX12_isRowFor 11 = .ok (.iaload, 1) := by decide +kernel
theorem dX12_isRowFor_12 : decode cX12_isRowFor 12 = .ok (.invokevirtual 68, 3) := by decide +kernel
theorem dX12_isRowFor_15 : decode cX12_isRowFor 15 = .ok (.if_icmp .ge 116, 3) := by decide +kernel
theorem dX12_isRowFor_18 : decode cX12_isRowFor 18 = .ok (.aload_n 0, 1) := by decide +kernel
theorem dX12_isRowFor_19 : decode cX12_isRowFor 19 = .ok (.getfield 9, 3) := by decide +kernel
theorem dX12_isRowFor_22 : decode cX12_isRowFor 22 = .ok (.iload_n 1, 1) := by decide +kernel
theorem dX12_isRowFor_23 : decode cX12_isRowFor 23 = .ok (.iconst 1, 1) := by decide +kernel
theorem dX12_isRowFor_24 : decode cX12_isRowFor 24 = .ok (.iadd, 1) := by decide +kernel
theorem dX12_isRowFor_25 : decode cX12_isRowFor 25 = .ok (.iload 4, 2) := by decide +kernel
theorem dX12_isRowFor_27 : decode cX12_isRowFor 27 = .ok (.iadd, 1) := by decide +kernel
theorem dX12_isRowFor_28 : decode cX12_isRowFor 28 = .ok (.iaload, 1) := by decide +kernel
theorem dX12_isRowFor_29 : decode cX12_isRowFor 29 = .ok (.istore 5, 2) := by decide +kernel
theorem dX12_isRowFor_31 : decode cX12_isRowFor 31 = .ok (.iconst 0, 1) := by decide +kernel
theorem dX12_isRowFor_32 : decode cX12_isRowFor 32 = .ok (.istore 6, 2) := by decide +kernel
theorem dX12_isRowFor_34 : decode cX12_isRowFor 34 = .ok (.iload 6, 2) := by decide +kernel
theorem dX12_isRowFor_36 : decode cX12_isRowFor 36 = .ok (.iload 4, 2) := by decide +kernel
theorem dX12_isRowFor_38 : decode cX12_isRowFor 38 = .ok (.if_icmp .ge 42, 3) := by decide +kernel
theorem dX12_isRowFor_41 : decode cX12_isRowFor 41 = .ok (.aload_n 0, 1) := by decide +kernel
theorem dX12_isRowFor_42 : decode cX12_isRowFor 42 = .ok (.getfield 9, 3) := by decide +kernel
theorem dX12_isRowFor_45 : decode cX12_isRowFor 45 = .ok (.iload_n 1, 1) := by decide +kernel
theorem dX12_isRowFor_46 : decode cX12_isRowFor 46 = .ok (.iconst 1, 1) := by decide +kernel
theorem dX12_isRowFor_47 : decode cX12_isRowFor 47 = .ok (.iadd, 1) := by decide +kernel
theorem dX12_isRowFor_48 : decode cX12_isRowFor 48 = .ok (.iload 6, 2) := by decide +kernel
theorem dX12_isRowFor_50 : decode cX12_isRowFor 50 = .ok (.iadd, 1) := by decide +kernel
theorem dX12_isRowFor_51 : decode cX12_isRowFor 51 = .ok (.iaload, 1) := by decide +kernel
theorem dX12_isRowFor_52 : decode cX12_isRowFor 52 = .ok (.iload 5, 2) := by decide +kernel
theorem dX12_isRowFor_54 : decode cX12_isRowFor 54 = .ok (.if_icmp .ne 20, 3) := by decide +kernel
theorem dX12_isRowFor_57 : decode cX12_isRowFor 57 = .ok (.iload_n 2, 1) := by decide +kernel
theorem dX12_isRowFor_58 : decode cX12_isRowFor 58 = .ok (.iload 6, 2) := by decide +kernel
theorem dX12_isRowFor_60 : decode cX12_isRowFor 60 = .ok (.invokestatic 172, 3) := by decide +kernel
theorem dX12_isRowFor_63 : decode cX12_isRowFor 63 = .ok (.iload_n 2, 1) := by decide +kernel
theorem dX12_isRowFor_64 : decode cX12_isRowFor 64 = .ok (.iload 4, 2) := by decide +kernel
theorem dX12_isRowFor_66 : decode cX12_isRowFor 66 = .ok (.invokestatic 172, 3) := by decide +kernel
theorem dX12_isRowFor_69 : decode cX12_isRowFor 69 = .ok (.if_icmp .eq 5, 3) := by decide +kernel
theorem dX12_isRowFor_72 : decode cX12_isRowFor 72 = .ok (.iconst 0, 1) := by decide +kernel
theorem dX12_isRowFor_73 : decode cX12_isRowFor 73 = .ok (.ireturn, 1) := by decide +kernel
theorem dX12_isRowFor_74 : decode cX12_isRowFor 74 = .ok (.iinc 6 1, 3) := by decide +kernel
theorem dX12_isRowFor_77 : decode cX12_isRowFor 77 = .ok (.goto (-43), 3) := by decide +kernel
theorem dX12_isRowFor_80 : decode cX12_isRowFor 80 = .ok (.iconst 0, 1) := by decide +kernel
theorem dX12_isRowFor_81 : decode cX12_isRowFor 81 = .ok (.istore 6, 2) := by decide +kernel
theorem dX12_isRowFor_83 : decode cX12_isRowFor 83 = .ok (.iload 6, 2) := by decide +kernel
theorem dX12_isRowFor_85 : decode cX12_isRowFor 85 = .ok (.iload_n 3, 1) := by decide +kernel
theorem dX12_isRowFor_86 : decode cX12_isRowFor 86 = .ok (.if_icmp .ge 39, 3) := by decide +kernel
theorem dX12_isRowFor_89 : decode cX12_isRowFor 89 = .ok (.aload_n 0, 1) := by decide +kernel
theorem dX12_isRowFor_90 : decode cX12_isRowFor 90 = .ok (.getfield 29, 3) := by decide +kernel
theorem dX12_isRowFor_93 : decode cX12_isRowFor 93 = .ok (.iload 6, 2) := by decide +kernel
theorem dX12_isRowFor_95 : decode cX12_isRowFor 95 = .ok (.iaload, 1) := by decide +kernel
theorem dX12_isRowFor_96 : decode cX12_isRowFor 96 = .ok (.iload 5, 2) := by decide +kernel
theorem dX12_isRowFor_98 : decode cX12_isRowFor 98 = .ok (.if_icmp .ne 21, 3) := by decide +kernel
theorem dX12_isRowFor_101 : decode cX12_isRowFor 101 = .ok (.aload_n 0, 1) := by decide +kernel
theorem dX12_isRowFor_102 : decode cX12_isRowFor 102 = .ok (.getfield 26, 3) := by decide +kernel
theorem dX12_isRowFor_105 : decode cX12_isRowFor 105 = .ok (.iload 5, 2) := by decide +kernel
theorem dX12_isRowFor_107 : decode cX12_isRowFor 107 = .ok (.iaload, 1) := by decide +kernel
theorem dX12_isRowFor_108 : decode cX12_isRowFor 108 = .ok (.iload_n 2, 1) := by decide +kernel
theorem dX12_isRowFor_109 : decode cX12_isRowFor 109 = .ok (.iload 4, 2) := by decide +kernel
theorem dX12_isRowFor_111 : decode cX12_isRowFor 111 = .ok (.invokestatic 172, 3) := by decide +kernel
theorem dX12_isRowFor_114 : decode cX12_isRowFor 114 = .ok (.if_icmp .eq 5, 3) := by decide +kernel
theorem dX12_isRowFor_117 : decode cX12_isRowFor 117 = .ok (.iconst 0, 1) := by decide +kernel
theorem dX12_isRowFor_118 : decode cX12_isRowFor 118 = .ok (.ireturn, 1) := by decide +kernel
theorem dX12_isRowFor_119 : decode cX12_isRowFor 119 = .ok (.iinc 6 1, 3) := by decide +kernel
theorem dX12_isRowFor_122 : decode cX12_isRowFor 122 = .ok (.goto (-39), 3) := by decide +kernel
theorem dX12_isRowFor_125 : decode cX12_isRowFor 125 = .ok (.iinc 4 1, 3) := by decide +kernel
theorem dX12_isRowFor_128 : decode cX12_isRowFor 128 = .ok (.goto (-125), 3) := by decide +kernel
theorem dX12_isRowFor_131 : decode cX12_isRowFor 131 = .ok (.iconst 1, 1) := by decide +kernel
theorem dX12_isRowFor_132 : decode cX12_isRowFor 132 = .ok (.ireturn, 1) := by decide +kernel
theorem dX12_told_0 : decode cX12_told 0 = .ok (.iconst 0, 1) := by decide +kernel
theorem dX12_told_1 : decode cX12_told 1 = .ok (.istore 5, 2) := by decide +kernel
theorem dX12_told_3 : decode cX12_told 3 = .ok (.aload_n 0, 1) := by decide +kernel
theorem dX12_told_4 : decode cX12_told 4 = .ok (.getfield 9, 3) := by decide +kernel
theorem dX12_told_7 : decode cX12_told 7 = .ok (.iload_n 1, 1) := by decide +kernel
theorem dX12_told_8 : decode cX12_told 8 = .ok (.iconst 1, 1) := by decide +kernel
theorem dX12_told_9 : decode cX12_told 9 = .ok (.iadd, 1) := by decide +kernel
theorem dX12_told_10 : decode cX12_told 10 = .ok (.iload 5, 2) := by decide +kernel
theorem dX12_told_12 : decode cX12_told 12 = .ok (.iadd, 1) := by decide +kernel
theorem dX12_told_13 : decode cX12_told 13 = .ok (.iaload, 1) := by decide +kernel
theorem dX12_told_14 : decode cX12_told 14 = .ok (.iload_n 2, 1) := by decide +kernel
theorem dX12_told_15 : decode cX12_told 15 = .ok (.if_icmp .eq 9, 3) := by decide +kernel
theorem dX12_told_18 : decode cX12_told 18 = .ok (.iinc 5 1, 3) := by decide +kernel
theorem dX12_told_21 : decode cX12_told 21 = .ok (.goto (-18), 3) := by decide +kernel
theorem dX12_told_24 : decode cX12_told 24 = .ok (.iconst (-1), 1) := by decide +kernel
theorem dX12_told_25 : decode cX12_told 25 = .ok (.istore 6, 2) := by decide +kernel
theorem dX12_told_27 : decode cX12_told 27 = .ok (.iconst 0, 1) := by decide +kernel
theorem dX12_told_28 : decode cX12_told 28 = .ok (.istore 7, 2) := by decide +kernel
theorem dX12_told_30 : decode cX12_told 30 = .ok (.iload 7, 2) := by decide +kernel
theorem dX12_told_32 : decode cX12_told 32 = .ok (.sipush 512, 3) := by decide +kernel
theorem dX12_told_35 : decode cX12_told 35 = .ok (.if_icmp .ge 77, 3) := by decide +kernel
theorem dX12_told_38 : decode cX12_told 38 = .ok (.aload_n 0, 1) := by decide +kernel
theorem dX12_told_39 : decode cX12_told 39 = .ok (.getfield 16, 3) := by decide +kernel
theorem dX12_told_42 : decode cX12_told 42 = .ok (.sipush 512, 3) := by decide +kernel
theorem dX12_told_45 : decode cX12_told 45 = .ok (.aload_n 0, 1) := by decide +kernel
theorem dX12_told_46 : decode cX12_told 46 = .ok (.getfield 9, 3) := by decide +kernel
theorem dX12_told_49 : decode cX12_told 49 = .ok (.iload_n 1, 1) := by decide +kernel
theorem dX12_told_50 : decode cX12_told 50 = .ok (.iaload, 1) := by decide +kernel
theorem dX12_told_51 : decode cX12_told 51 = .ok (.imul, 1) := by decide +kernel
theorem dX12_told_52 : decode cX12_told 52 = .ok (.iload 7, 2) := by decide +kernel
theorem dX12_told_54 : decode cX12_told 54 = .ok (.iadd, 1) := by decide +kernel
theorem dX12_told_55 : decode cX12_told 55 = .ok (.baload, 1) := by decide +kernel
theorem dX12_told_56 : decode cX12_told 56 = .ok (.ifCond .eq 50, 3) := by decide +kernel
theorem dX12_told_59 : decode cX12_told 59 = .ok (.aload_n 0, 1) := by decide +kernel
theorem dX12_told_60 : decode cX12_told 60 = .ok (.iload_n 1, 1) := by decide +kernel
theorem dX12_told_61 : decode cX12_told 61 = .ok (.iload 7, 2) := by decide +kernel
theorem dX12_told_63 : decode cX12_told 63 = .ok (.iload_n 3, 1) := by decide +kernel
theorem dX12_told_64 : decode cX12_told 64 = .ok (.invokevirtual 175, 3) := by decide +kernel
theorem dX12_told_67 : decode cX12_told 67 = .ok (.ifCond .ne 6, 3) := by decide +kernel
theorem dX12_told_70 : decode cX12_told 70 = .ok (.goto 36, 3) := by decide +kernel
theorem dX12_told_73 : decode cX12_told 73 = .ok (.iload 7, 2) := by decide +kernel
theorem dX12_told_75 : decode cX12_told 75 = .ok (.iload 5, 2) := by decide +kernel
theorem dX12_told_77 : decode cX12_told 77 = .ok (.invokestatic 172, 3) := by decide +kernel
theorem dX12_told_80 : decode cX12_told 80 = .ok (.istore 8, 2) := by decide +kernel
theorem dX12_told_82 : decode cX12_told 82 = .ok (.iload 8, 2) := by decide +kernel
theorem dX12_told_84 : decode cX12_told 84 = .ok (.iload 4, 2) := by decide +kernel
theorem dX12_told_86 : decode cX12_told 86 = .ok (.if_icmp .lt 20, 3) := by decide +kernel
theorem dX12_told_89 : decode cX12_told 89 = .ok (.iload 6, 2) := by decide +kernel
theorem dX12_told_91 : decode cX12_told 91 = .ok (.iconst (-1), 1) := by decide +kernel
theorem dX12_told_92 : decode cX12_told 92 = .ok (.if_icmp .eq 10, 3) := by decide +kernel
theorem dX12_told_95 : decode cX12_told 95 = .ok (.iload 8, 2) := by decide +kernel
theorem dX12_told_97 : decode cX12_told 97 = .ok (.iload 6, 2) := by decide +kernel
theorem dX12_told_99 : decode cX12_told 99 = .ok (.if_icmp .ge 7, 3) := by decide +kernel
theorem dX12_told_102 : decode cX12_told 102 = .ok (.iload 8, 2) := by decide +kernel
theorem dX12_told_104 : decode cX12_told 104 = .ok (.istore 6, 2) := by decide +kernel
theorem dX12_told_106 : decode cX12_told 106 = .ok (.iinc 7 1, 3) := by decide +kernel
theorem dX12_told_109 : decode cX12_told 109 = .ok (.goto (-79), 3) := by decide +kernel
theorem dX12_told_112 : decode cX12_told 112 = .ok (.iload 6, 2) := by decide +kernel
theorem dX12_told_114 : decode cX12_told 114 = .ok (.ireturn, 1) := by decide +kernel
theorem dX12_nextAtom_0 : decode cX12_nextAtom 0 = .ok (.iload_n 2, 1) := by decide +kernel
theorem dX12_nextAtom_1 : decode cX12_nextAtom 1 = .ok (.istore 4, 2) := by decide +kernel
theorem dX12_nextAtom_3 : decode cX12_nextAtom 3 = .ok (.iload 4, 2) := by decide +kernel
theorem dX12_nextAtom_5 : decode cX12_nextAtom 5 = .ok (.iconst 1, 1) := by decide +kernel
theorem dX12_nextAtom_6 : decode cX12_nextAtom 6 = .ok (.iadd, 1) := by decide +kernel
theorem dX12_nextAtom_7 : decode cX12_nextAtom 7 = .ok (.aload_n 0, 1) := by decide +kernel
theorem dX12_nextAtom_8 : decode cX12_nextAtom 8 = .ok (.iload_n 1, 1) := by decide +kernel
theorem dX12_nextAtom_9 : decode cX12_nextAtom 9 = .ok (.invokevirtual 76, 3) := by decide +kernel
theorem dX12_nextAtom_12 : decode cX12_nextAtom 12 = .ok (.irem, 1) := by decide +kernel
theorem dX12_nextAtom_13 : decode cX12_nextAtom 13 = .ok (.istore 4, 2) := by decide +kernel
theorem dX12_nextAtom_15 : decode cX12_nextAtom 15 = .ok (.aload_n 0, 1) := by decide +kernel
theorem dX12_nextAtom_16 : decode cX12_nextAtom 16 = .ok (.aload_n 0, 1) := by decide +kernel
theorem dX12_nextAtom_17 : decode cX12_nextAtom 17 = .ok (.iload_n 1, 1) := by decide +kernel
theorem dX12_nextAtom_18 : decode cX12_nextAtom 18 = .ok (.iload 4, 2) := by decide +kernel
theorem dX12_nextAtom_20 : decode cX12_nextAtom 20 = .ok (.invokevirtual 79, 3) := by decide +kernel
theorem dX12_nextAtom_23 : decode cX12_nextAtom 23 = .ok (.invokevirtual 111, 3) := by decide +kernel
theorem dX12_nextAtom_26 : decode cX12_nextAtom 26 = .ok (.iload_n 3, 1) := by decide +kernel
theorem dX12_nextAtom_27 : decode cX12_nextAtom 27 = .ok (.ishr, 1) := by decide +kernel
theorem dX12_nextAtom_28 : decode cX12_nextAtom 28 = .ok (.iconst 1, 1) := by decide +kernel
theorem dX12_nextAtom_29 : decode cX12_nextAtom 29 = .ok (.iand, 1) := by decide +kernel
theorem dX12_nextAtom_30 : decode cX12_nextAtom 30 = .ok (.ifCond .eq (-27), 3) := by decide +kernel
theorem dX12_nextAtom_33 : decode cX12_nextAtom 33 = .ok (.iload 4, 2) := by decide +kernel
theorem dX12_nextAtom_35 : decode cX12_nextAtom 35 = .ok (.ireturn, 1) := by decide +kernel
theorem dX12_atomsWith_0 : decode cX12_atomsWith 0 = .ok (.iconst 0, 1) := by decide +kernel
theorem dX12_atomsWith_1 : decode cX12_atomsWith 1 = .ok (.istore_n 3, 1) := by decide +kernel
theorem dX12_atomsWith_2 : decode cX12_atomsWith 2 = .ok (.iconst 0, 1) := by decide +kernel
theorem dX12_atomsWith_3 : decode cX12_atomsWith 3 = .ok (.istore 4, 2) := by decide +kernel
theorem dX12_atomsWith_5 : decode cX12_atomsWith 5 = .ok (.iload 4, 2) := by decide +kernel
theorem dX12_atomsWith_7 : decode cX12_atomsWith 7 = .ok (.aload_n 0, 1) := by decide +kernel
theorem dX12_atomsWith_8 : decode cX12_atomsWith 8 = .ok (.iload_n 1, 1) := by decide +kernel
theorem dX12_atomsWith_9 : decode cX12_atomsWith 9 = .ok (.invokevirtual 76, 3) := by decide +kernel
theorem dX12_atomsWith_12 : decode cX12_atomsWith 12 = .ok (.if_icmp .ge 27, 3) := by decide +kernel
theorem dX12_atomsWith_15 : decode cX12_atomsWith 15 = .ok (.iload_n 3, 1) := by decide +kernel
theorem dX12_atomsWith_16 : decode cX12_atomsWith 16 = .ok (.aload_n 0, 1) := by decide +kernel
theorem dX12_atomsWith_17 : decode cX12_atomsWith 17 = .ok (.aload_n 0, 1) := by decide +kernel
theorem dX12_atomsWith_18 : decode cX12_atomsWith 18 = .ok (.iload_n 1, 1) := by decide +kernel
theorem dX12_atomsWith_19 : decode cX12_atomsWith 19 = .ok (.iload 4, 2) := by decide +kernel
theorem dX12_atomsWith_21 : decode cX12_atomsWith 21 = .ok (.invokevirtual 79, 3) := by decide +kernel
theorem dX12_atomsWith_24 : decode cX12_atomsWith 24 = .ok (.invokevirtual 111, 3) := by decide +kernel
theorem dX12_atomsWith_27 : decode cX12_atomsWith 27 = .ok (.iload_n 2, 1) := by decide +kernel
theorem dX12_atomsWith_28 : decode cX12_atomsWith 28 = .ok (.ishr, 1) := by decide +kernel
theorem dX12_atomsWith_29 : decode cX12_atomsWith 29 = .ok (.iconst 1, 1) := by decide +kernel
theorem dX12_atomsWith_30 : decode cX12_atomsWith 30 = .ok (.iand, 1) := by decide +kernel
theorem dX12_atomsWith_31 : decode cX12_atomsWith 31 = .ok (.iadd, 1) := by decide +kernel
theorem dX12_atomsWith_32 : decode cX12_atomsWith 32 = .ok (.istore_n 3, 1) := by decide +kernel
theorem dX12_atomsWith_33 : decode cX12_atomsWith 33 = .ok (.iinc 4 1, 3) := by decide +kernel
theorem dX12_atomsWith_36 : decode cX12_atomsWith 36 = .ok (.goto (-31), 3) := by decide +kernel
theorem dX12_atomsWith_39 : decode cX12_atomsWith 39 = .ok (.iload_n 3, 1) := by decide +kernel
theorem dX12_atomsWith_40 : decode cX12_atomsWith 40 = .ok (.ireturn, 1) := by decide +kernel
theorem dX12_leaps_0 : decode cX12_leaps 0 = .ok (.aload_n 0, 1) := by decide +kernel
theorem dX12_leaps_1 : decode cX12_leaps 1 = .ok (.getfield 29, 3) := by decide +kernel
theorem dX12_leaps_4 : decode cX12_leaps 4 = .ok (.iload_n 2, 1) := by decide +kernel
theorem dX12_leaps_5 : decode cX12_leaps 5 = .ok (.iaload, 1) := by decide +kernel
theorem dX12_leaps_6 : decode cX12_leaps 6 = .ok (.istore_n 3, 1) := by decide +kernel
theorem dX12_leaps_7 : decode cX12_leaps 7 = .ok (.aload_n 0, 1) := by decide +kernel
theorem dX12_leaps_8 : decode cX12_leaps 8 = .ok (.iload_n 1, 1) := by decide +kernel
theorem dX12_leaps_9 : decode cX12_leaps 9 = .ok (.iload_n 3, 1) := by decide +kernel
theorem dX12_leaps_10 : decode cX12_leaps 10 = .ok (.invokevirtual 178, 3) := by decide +kernel
theorem dX12_leaps_13 : decode cX12_leaps 13 = .ok (.istore 4, 2) := by decide +kernel
theorem dX12_leaps_15 : decode cX12_leaps 15 = .ok (.aload_n 0, 1) := by decide +kernel
theorem dX12_leaps_16 : decode cX12_leaps 16 = .ok (.iload_n 1, 1) := by decide +kernel
theorem dX12_leaps_17 : decode cX12_leaps 17 = .ok (.aload_n 0, 1) := by decide +kernel
theorem dX12_leaps_18 : decode cX12_leaps 18 = .ok (.iload_n 1, 1) := by decide +kernel
theorem dX12_leaps_19 : decode cX12_leaps 19 = .ok (.invokevirtual 76, 3) := by decide +kernel
theorem dX12_leaps_22 : decode cX12_leaps 22 = .ok (.iconst 1, 1) := by decide +kernel
theorem dX12_leaps_23 : decode cX12_leaps 23 = .ok (.isub, 1) := by decide +kernel
theorem dX12_leaps_24 : decode cX12_leaps 24 = .ok (.iload_n 3, 1) := by decide +kernel
theorem dX12_leaps_25 : decode cX12_leaps 25 = .ok (.invokevirtual 181, 3) := by decide +kernel
theorem dX12_leaps_28 : decode cX12_leaps 28 = .ok (.istore 5, 2) := by decide +kernel
theorem dX12_leaps_30 : decode cX12_leaps 30 = .ok (.iconst 0, 1) := by decide +kernel
theorem dX12_leaps_31 : decode cX12_leaps 31 = .ok (.istore 6, 2) := by decide +kernel
theorem dX12_leaps_33 : decode cX12_leaps 33 = .ok (.iconst 0, 1) := by decide +kernel
theorem dX12_leaps_34 : decode cX12_leaps 34 = .ok (.istore 7, 2) := by decide +kernel
theorem dX12_leaps_36 : decode cX12_leaps 36 = .ok (.aload_n 0, 1) := by decide +kernel
theorem dX12_leaps_37 : decode cX12_leaps 37 = .ok (.dup, 1) := by decide +kernel
theorem dX12_leaps_38 : decode cX12_leaps 38 = .ok (.getfield 184, 3) := by decide +kernel
theorem dX12_leaps_41 : decode cX12_leaps 41 = .ok (.iconst 1, 1) := by decide +kernel
theorem dX12_leaps_42 : decode cX12_leaps 42 = .ok (.iadd, 1) := by decide +kernel
theorem dX12_leaps_43 : decode cX12_leaps 43 = .ok (.putfield 184, 3) := by decide +kernel
theorem dX12_leaps_46 : decode cX12_leaps 46 = .ok (.aload_n 0, 1) := by decide +kernel
theorem dX12_leaps_47 : decode cX12_leaps 47 = .ok (.aload_n 0, 1) := by decide +kernel
theorem dX12_leaps_48 : decode cX12_leaps 48 = .ok (.iload_n 1, 1) := by decide +kernel
theorem dX12_leaps_49 : decode cX12_leaps 49 = .ok (.iload 5, 2) := by decide +kernel
theorem dX12_leaps_51 : decode cX12_leaps 51 = .ok (.invokevirtual 79, 3) := by decide +kernel
theorem dX12_leaps_54 : decode cX12_leaps 54 = .ok (.iload_n 3, 1) := by decide +kernel
theorem dX12_leaps_55 : decode cX12_leaps 55 = .ok (.iload_n 2, 1) := by decide +kernel
theorem dX12_leaps_56 : decode cX12_leaps 56 = .ok (.iload 6, 2) := by decide +kernel
theorem dX12_leaps_58 : decode cX12_leaps 58 = .ok (.invokevirtual 187, 3) := by decide +kernel
theorem dX12_leaps_61 : decode cX12_leaps 61 = .ok (.istore 8, 2) := by decide +kernel
theorem dX12_leaps_63 : decode cX12_leaps 63 = .ok (.iload 8, 2) := by decide +kernel
theorem dX12_leaps_65 : decode cX12_leaps 65 = .ok (.iconst (-1), 1) := by decide +kernel
theorem dX12_leaps_66 : decode cX12_leaps 66 = .ok (.if_icmp .ne 4, 3) := by decide +kernel
theorem dX12_leaps_69 : decode cX12_leaps 69 = .ok (.return_, 1) := by decide +kernel
theorem dX12_leaps_70 : decode cX12_leaps 70 = .ok (.iload 8, 2) := by decide +kernel
theorem dX12_leaps_72 : decode cX12_leaps 72 = .ok (.iload 6, 2) := by decide +kernel
theorem dX12_leaps_74 : decode cX12_leaps 74 = .ok (.if_icmp .le 7, 3) := by decide +kernel
theorem dX12_leaps_77 : decode cX12_leaps 77 = .ok (.iconst 1, 1) := by decide +kernel
theorem dX12_leaps_78 : decode cX12_leaps 78 = .ok (.goto 7, 3) := by decide +kernel
theorem dX12_leaps_81 : decode cX12_leaps 81 = .ok (.iload 7, 2) := by decide +kernel
theorem dX12_leaps_83 : decode cX12_leaps 83 = .ok (.iconst 1, 1) := by decide +kernel
theorem dX12_leaps_84 : decode cX12_leaps 84 = .ok (.iadd, 1) := by decide +kernel
theorem dX12_leaps_85 : decode cX12_leaps 85 = .ok (.istore 7, 2) := by decide +kernel
theorem dX12_leaps_87 : decode cX12_leaps 87 = .ok (.iload 8, 2) := by decide +kernel
theorem dX12_leaps_89 : decode cX12_leaps 89 = .ok (.istore 6, 2) := by decide +kernel
theorem dX12_leaps_91 : decode cX12_leaps 91 = .ok (.iload 7, 2) := by decide +kernel
theorem dX12_leaps_93 : decode cX12_leaps 93 = .ok (.iload 4, 2) := by decide +kernel
theorem dX12_leaps_95 : decode cX12_leaps 95 = .ok (.if_icmp .ne 35, 3) := by decide +kernel
theorem dX12_leaps_98 : decode cX12_leaps 98 = .ok (.aload_n 0, 1) := by decide +kernel
theorem dX12_leaps_99 : decode cX12_leaps 99 = .ok (.getfield 26, 3) := by decide +kernel
theorem dX12_leaps_102 : decode cX12_leaps 102 = .ok (.iload_n 3, 1) := by decide +kernel
theorem dX12_leaps_103 : decode cX12_leaps 103 = .ok (.iload 6, 2) := by decide +kernel
theorem dX12_leaps_105 : decode cX12_leaps 105 = .ok (.iastore, 1) := by decide +kernel
theorem dX12_leaps_106 : decode cX12_leaps 106 = .ok (.iload_n 2, 1) := by decide +kernel
theorem dX12_leaps_107 : decode cX12_leaps 107 = .ok (.iconst 1, 1) := by decide +kernel
theorem dX12_leaps_108 : decode cX12_leaps 108 = .ok (.iadd, 1) := by decide +kernel
theorem dX12_leaps_109 : decode cX12_leaps 109 = .ok (.aload_n 0, 1) := by decide +kernel
theorem dX12_leaps_110 : decode cX12_leaps 110 = .ok (.getfield 157, 3) := by decide +kernel
theorem dX12_leaps_113 : decode cX12_leaps 113 = .ok (.if_icmp .ge 11, 3) := by decide +kernel
theorem dX12_leaps_116 : decode cX12_leaps 116 = .ok (.aload_n 0, 1) := by decide +kernel
theorem dX12_leaps_117 : decode cX12_leaps 117 = .ok (.iload_n 1, 1) := by decide +kernel
theorem dX12_leaps_118 : decode cX12_leaps 118 = .ok (.iload_n 2, 1) := by decide +kernel
theorem dX12_leaps_119 : decode cX12_leaps 119 = .ok (.iconst 1, 1) := by decide +kernel
theorem dX12_leaps_120 : decode cX12_leaps 120 = .ok (.iadd, 1) := by decide +kernel
theorem dX12_leaps_121 : decode cX12_leaps 121 = .ok (.invokevirtual 191, 3) := by decide +kernel
theorem dX12_leaps_124 : decode cX12_leaps 124 = .ok (.iinc 6 1, 3) := by decide +kernel
theorem dX12_leaps_127 : decode cX12_leaps 127 = .ok (.iconst 0, 1) := by decide +kernel
theorem dX12_leaps_128 : decode cX12_leaps 128 = .ok (.istore 7, 2) := by decide +kernel
theorem dX12_leaps_130 : decode cX12_leaps 130 = .ok (.aload_n 0, 1) := by decide +kernel
theorem dX12_leaps_131 : decode cX12_leaps 131 = .ok (.iload_n 1, 1) := by decide +kernel
theorem dX12_leaps_132 : decode cX12_leaps 132 = .ok (.iload 5, 2) := by decide +kernel
theorem dX12_leaps_134 : decode cX12_leaps 134 = .ok (.iload_n 3, 1) := by decide +kernel
theorem dX12_leaps_135 : decode cX12_leaps 135 = .ok (.invokevirtual 181, 3) := by decide +kernel
theorem dX12_leaps_138 : decode cX12_leaps 138 = .ok (.istore 5, 2) := by decide +kernel
theorem dX12_leaps_140 : decode cX12_leaps 140 = .ok (.goto (-104), 3) := by decide +kernel
theorem dX12_standing_0 : decode cX12_standing 0 = .ok (.iconst 0, 1) := by decide +kernel
theorem dX12_standing_1 : decode cX12_standing 1 = .ok (.istore_n 3, 1) := by decide +kernel
theorem dX12_standing_2 : decode cX12_standing 2 = .ok (.iconst 0, 1) := by decide +kernel
theorem dX12_standing_3 : decode cX12_standing 3 = .ok (.istore 4, 2) := by decide +kernel
theorem dX12_standing_5 : decode cX12_standing 5 = .ok (.iload 4, 2) := by decide +kernel
theorem dX12_standing_7 : decode cX12_standing 7 = .ok (.aload_n 0, 1) := by decide +kernel
theorem dX12_standing_8 : decode cX12_standing 8 = .ok (.iload_n 1, 1) := by decide +kernel
theorem dX12_standing_9 : decode cX12_standing 9 = .ok (.invokevirtual 76, 3) := by decide +kernel
theorem dX12_standing_12 : decode cX12_standing 12 = .ok (.if_icmp .ge 39, 3) := by decide +kernel
theorem dX12_standing_15 : decode cX12_standing 15 = .ok (.iload_n 3, 1) := by decide +kernel
theorem dX12_standing_16 : decode cX12_standing 16 = .ok (.aload_n 0, 1) := by decide +kernel
theorem dX12_standing_17 : decode cX12_standing 17 = .ok (.getfield 38, 3) := by decide +kernel
theorem dX12_standing_20 : decode cX12_standing 20 = .ok (.iload 4, 2) := by decide +kernel
theorem dX12_standing_22 : decode cX12_standing 22 = .ok (.baload, 1) := by decide +kernel
theorem dX12_standing_23 : decode cX12_standing 23 = .ok (.ifCond .ne 19, 3) := by decide +kernel
theorem dX12_standing_26 : decode cX12_standing 26 = .ok (.aload_n 0, 1) := by decide +kernel
theorem dX12_standing_27 : decode cX12_standing 27 = .ok (.getfield 35, 3) := by decide +kernel
theorem dX12_standing_30 : decode cX12_standing 30 = .ok (.iload 4, 2) := by decide +kernel
theorem dX12_standing_32 : decode cX12_standing 32 = .ok (.iaload, 1) := by decide +kernel
theorem dX12_standing_33 : decode cX12_standing 33 = .ok (.iload_n 2, 1) := by decide +kernel
theorem dX12_standing_34 : decode cX12_standing 34 = .ok (.iand, 1) := by decide +kernel
theorem dX12_standing_35 : decode cX12_standing 35 = .ok (.ifCond .eq 7, 3) := by decide +kernel
theorem dX12_standing_38 : decode cX12_standing 38 = .ok (.iconst 1, 1) := by decide +kernel
theorem dX12_standing_39 : decode cX12_standing 39 = .ok (.goto 4, 3) := by decide +kernel
theorem dX12_standing_42 : decode cX12_standing 42 = .ok (.iconst 0, 1) := by decide +kernel
theorem dX12_standing_43 : decode cX12_standing 43 = .ok (.iadd, 1) := by decide +kernel
theorem dX12_standing_44 : decode cX12_standing 44 = .ok (.istore_n 3, 1) := by decide +kernel
theorem dX12_standing_45 : decode cX12_standing 45 = .ok (.iinc 4 1, 3) := by decide +kernel
theorem dX12_standing_48 : decode cX12_standing 48 = .ok (.goto (-43), 3) := by decide +kernel
theorem dX12_standing_51 : decode cX12_standing 51 = .ok (.iload_n 3, 1) := by decide +kernel
theorem dX12_standing_52 : decode cX12_standing 52 = .ok (.ireturn, 1) := by decide +kernel
theorem dX12_goes_0 : decode cX12_goes 0 = .ok (.aload_n 0, 1) := by decide +kernel
theorem dX12_goes_1 : decode cX12_goes 1 = .ok (.getfield 35, 3) := by decide +kernel
theorem dX12_goes_4 : decode cX12_goes 4 = .ok (.iload_n 2, 1) := by decide +kernel
theorem dX12_goes_5 : decode cX12_goes 5 = .ok (.iaload, 1) := by decide +kernel
theorem dX12_goes_6 : decode cX12_goes 6 = .ok (.ifCond .ne 7, 3) := by decide +kernel
theorem dX12_goes_9 : decode cX12_goes 9 = .ok (.iconst 1, 1) := by decide +kernel
theorem dX12_goes_10 : decode cX12_goes 10 = .ok (.goto 4, 3) := by decide +kernel
theorem dX12_goes_13 : decode cX12_goes 13 = .ok (.iconst 0, 1) := by decide +kernel
theorem dX12_goes_14 : decode cX12_goes 14 = .ok (.istore_n 3, 1) := by decide +kernel
theorem dX12_goes_15 : decode cX12_goes 15 = .ok (.iconst 0, 1) := by decide +kernel
theorem dX12_goes_16 : decode cX12_goes 16 = .ok (.istore 4, 2) := by decide +kernel
theorem dX12_goes_18 : decode cX12_goes 18 = .ok (.iload 4, 2) := by decide +kernel
theorem dX12_goes_20 : decode cX12_goes 20 = .ok (.aload_n 0, 1) := by decide +kernel
theorem dX12_goes_21 : decode cX12_goes 21 = .ok (.iload_n 1, 1) := by decide +kernel
theorem dX12_goes_22 : decode cX12_goes 22 = .ok (.invokevirtual 76, 3) := by decide +kernel
theorem dX12_goes_25 : decode cX12_goes 25 = .ok (.if_icmp .ge 54, 3) := by decide +kernel
theorem dX12_goes_28 : decode cX12_goes 28 = .ok (.iload_n 3, 1) := by decide +kernel
theorem dX12_goes_29 : decode cX12_goes 29 = .ok (.ifCond .ne 38, 3) := by decide +kernel
theorem dX12_goes_32 : decode cX12_goes 32 = .ok (.iload 4, 2) := by decide +kernel
theorem dX12_goes_34 : decode cX12_goes 34 = .ok (.iload_n 2, 1) := by decide +kernel
theorem dX12_goes_35 : decode cX12_goes 35 = .ok (.if_icmp .eq 36, 3) := by decide +kernel
theorem dX12_goes_38 : decode cX12_goes 38 = .ok (.aload_n 0, 1) := by decide +kernel
theorem dX12_goes_39 : decode cX12_goes 39 = .ok (.getfield 38, 3) := by decide +kernel
theorem dX12_goes_42 : decode cX12_goes 42 = .ok (.iload 4, 2) := by decide +kernel
theorem dX12_goes_44 : decode cX12_goes 44 = .ok (.baload, 1) := by decide +kernel
theorem dX12_goes_45 : decode cX12_goes 45 = .ok (.ifCond .ne 26, 3) := by decide +kernel
theorem dX12_goes_48 : decode cX12_goes 48 = .ok (.aload_n 0, 1) := by decide +kernel
theorem dX12_goes_49 : decode cX12_goes 49 = .ok (.getfield 35, 3) := by decide +kernel
theorem dX12_goes_52 : decode cX12_goes 52 = .ok (.iload_n 2, 1) := by decide +kernel
theorem dX12_goes_53 : decode cX12_goes 53 = .ok (.iaload, 1) := by decide +kernel
theorem dX12_goes_54 : decode cX12_goes 54 = .ok (.aload_n 0, 1) := by decide +kernel
theorem dX12_goes_55 : decode cX12_goes 55 = .ok (.getfield 35, 3) := by decide +kernel
theorem dX12_goes_58 : decode cX12_goes 58 = .ok (.iload 4, 2) := by decide +kernel
theorem dX12_goes_60 : decode cX12_goes 60 = .ok (.iaload, 1) := by decide +kernel
theorem dX12_goes_61 : decode cX12_goes 61 = .ok (.iconst (-1), 1) := by decide +kernel
theorem dX12_goes_62 : decode cX12_goes 62 = .ok (.ixor, 1) := by decide +kernel
theorem dX12_goes_63 : decode cX12_goes 63 = .ok (.iand, 1) := by decide +kernel
theorem dX12_goes_64 : decode cX12_goes 64 = .ok (.ifCond .ne 7, 3) := by decide +kernel
theorem dX12_goes_67 : decode cX12_goes 67 = .ok (.iconst 1, 1) := by decide +kernel
theorem dX12_goes_68 : decode cX12_goes 68 = .ok (.goto 4, 3) := by decide +kernel
theorem dX12_goes_71 : decode cX12_goes 71 = .ok (.iconst 0, 1) := by decide +kernel
theorem dX12_goes_72 : decode cX12_goes 72 = .ok (.istore_n 3, 1) := by decide +kernel
theorem dX12_goes_73 : decode cX12_goes 73 = .ok (.iinc 4 1, 3) := by decide +kernel
theorem dX12_goes_76 : decode cX12_goes 76 = .ok (.goto (-58), 3) := by decide +kernel
theorem dX12_goes_79 : decode cX12_goes 79 = .ok (.iload_n 3, 1) := by decide +kernel
theorem dX12_goes_80 : decode cX12_goes 80 = .ok (.ireturn, 1) := by decide +kernel
theorem dX12_isTreeOf_0 : decode cX12_isTreeOf 0 = .ok (.iconst 0, 1) := by decide +kernel
theorem dX12_isTreeOf_1 : decode cX12_isTreeOf 1 = .ok (.istore_n 2, 1) := by decide +kernel
theorem dX12_isTreeOf_2 : decode cX12_isTreeOf 2 = .ok (.iload_n 2, 1) := by decide +kernel
theorem dX12_isTreeOf_3 : decode cX12_isTreeOf 3 = .ok (.aload_n 0, 1) := by decide +kernel
theorem dX12_isTreeOf_4 : decode cX12_isTreeOf 4 = .ok (.iload_n 1, 1) := by decide +kernel
theorem dX12_isTreeOf_5 : decode cX12_isTreeOf 5 = .ok (.invokevirtual 76, 3) := by decide +kernel
theorem dX12_isTreeOf_8 : decode cX12_isTreeOf 8 = .ok (.if_icmp .ge 32, 3) := by decide +kernel
theorem dX12_isTreeOf_11 : decode cX12_isTreeOf 11 = .ok (.aload_n 0, 1) := by decide +kernel
theorem dX12_isTreeOf_12 : decode cX12_isTreeOf 12 = .ok (.getfield 35, 3) := by decide +kernel
theorem dX12_isTreeOf_15 : decode cX12_isTreeOf 15 = .ok (.iload_n 2, 1) := by decide +kernel
theorem dX12_isTreeOf_16 : decode cX12_isTreeOf 16 = .ok (.aload_n 0, 1) := by decide +kernel
theorem dX12_isTreeOf_17 : decode cX12_isTreeOf 17 = .ok (.aload_n 0, 1) := by decide +kernel
theorem dX12_isTreeOf_18 : decode cX12_isTreeOf 18 = .ok (.iload_n 1, 1) := by decide +kernel
theorem dX12_isTreeOf_19 : decode cX12_isTreeOf 19 = .ok (.iload_n 2, 1) := by decide +kernel
theorem dX12_isTreeOf_20 : decode cX12_isTreeOf 20 = .ok (.invokevirtual 79, 3) := by decide +kernel
theorem dX12_isTreeOf_23 : decode cX12_isTreeOf 23 = .ok (.invokevirtual 111, 3) := by decide +kernel
theorem dX12_isTreeOf_26 : decode cX12_isTreeOf 26 = .ok (.iastore, 1) := by decide +kernel
theorem dX12_isTreeOf_27 : decode cX12_isTreeOf 27 = .ok (.aload_n 0, 1) := by decide +kernel
theorem dX12_isTreeOf_28 : decode cX12_isTreeOf 28 = .ok (.getfield 38, 3) := by decide +kernel
theorem dX12_isTreeOf_31 : decode cX12_isTreeOf 31 = .ok (.iload_n 2, 1) := by decide +kernel
theorem dX12_isTreeOf_32 : decode cX12_isTreeOf 32 = .ok (.iconst 0, 1) := by decide +kernel
theorem dX12_isTreeOf_33 : decode cX12_isTreeOf 33 = .ok (.bastore, 1) := by decide +kernel
theorem dX12_isTreeOf_34 : decode cX12_isTreeOf 34 = .ok (.iinc 2 1, 3) := by decide +kernel
theorem dX12_isTreeOf_37 : decode cX12_isTreeOf 37 = .ok (.goto (-35), 3) := by decide +kernel
theorem dX12_isTreeOf_40 : decode cX12_isTreeOf 40 = .ok (.iconst 0, 1) := by decide +kernel
theorem dX12_isTreeOf_41 : decode cX12_isTreeOf 41 = .ok (.istore_n 2, 1) := by decide +kernel
theorem dX12_isTreeOf_42 : decode cX12_isTreeOf 42 = .ok (.iload_n 2, 1) := by decide +kernel
theorem dX12_isTreeOf_43 : decode cX12_isTreeOf 43 = .ok (.ifCond .ne 113, 3) := by decide +kernel
theorem dX12_isTreeOf_46 : decode cX12_isTreeOf 46 = .ok (.iconst 1, 1) := by decide +kernel
theorem dX12_isTreeOf_47 : decode cX12_isTreeOf 47 = .ok (.istore_n 2, 1) := by decide +kernel
theorem dX12_isTreeOf_48 : decode cX12_isTreeOf 48 = .ok (.iconst 0, 1) := by decide +kernel
theorem dX12_isTreeOf_49 : decode cX12_isTreeOf 49 = .ok (.istore_n 3, 1) := by decide +kernel
theorem dX12_isTreeOf_50 : decode cX12_isTreeOf 50 = .ok (.iload_n 3, 1) := by decide +kernel
theorem dX12_isTreeOf_51 : decode cX12_isTreeOf 51 = .ok (.aload_n 0, 1) := by decide +kernel
theorem dX12_isTreeOf_52 : decode cX12_isTreeOf 52 = .ok (.iload_n 1, 1) := by decide +kernel
theorem dX12_isTreeOf_53 : decode cX12_isTreeOf 53 = .ok (.invokevirtual 76, 3) := by decide +kernel
theorem dX12_isTreeOf_56 : decode cX12_isTreeOf 56 = .ok (.if_icmp .ge 97, 3) := by decide +kernel
theorem dX12_isTreeOf_59 : decode cX12_isTreeOf 59 = .ok (.aload_n 0, 1) := by decide +kernel
theorem dX12_isTreeOf_60 : decode cX12_isTreeOf 60 = .ok (.getfield 38, 3) := by decide +kernel
theorem dX12_isTreeOf_63 : decode cX12_isTreeOf 63 = .ok (.iload_n 3, 1) := by decide +kernel
theorem dX12_isTreeOf_64 : decode cX12_isTreeOf 64 = .ok (.baload, 1) := by decide +kernel
theorem dX12_isTreeOf_65 : decode cX12_isTreeOf 65 = .ok (.ifCond .eq 6, 3) := by decide +kernel
theorem dX12_isTreeOf_68 : decode cX12_isTreeOf 68 = .ok (.goto 79, 3) := by decide +kernel
theorem dX12_isTreeOf_71 : decode cX12_isTreeOf 71 = .ok (.iconst 1, 1) := by decide +kernel
theorem dX12_isTreeOf_72 : decode cX12_isTreeOf 72 = .ok (.istore 4, 2) := by decide +kernel
theorem dX12_isTreeOf_74 : decode cX12_isTreeOf 74 = .ok (.iload 4, 2) := by decide +kernel
theorem dX12_isTreeOf_76 : decode cX12_isTreeOf 76 = .ok (.bipush 16, 2) := by decide +kernel
theorem dX12_isTreeOf_78 : decode cX12_isTreeOf 78 = .ok (.if_icmp .ge 51, 3) := by decide +kernel
theorem dX12_isTreeOf_81 : decode cX12_isTreeOf 81 = .ok (.aload_n 0, 1) := by decide +kernel
theorem dX12_isTreeOf_82 : decode cX12_isTreeOf 82 = .ok (.getfield 35, 3) := by decide +kernel
theorem dX12_isTreeOf_85 : decode cX12_isTreeOf 85 = .ok (.iload_n 3, 1) := by decide +kernel
theorem dX12_isTreeOf_86 : decode cX12_isTreeOf 86 = .ok (.iaload, 1) := by decide +kernel
theorem dX12_isTreeOf_87 : decode cX12_isTreeOf 87 = .ok (.iload 4, 2) := by decide +kernel
theorem dX12_isTreeOf_89 : decode cX12_isTreeOf 89 = .ok (.iand, 1) := by decide +kernel
theorem dX12_isTreeOf_90 : decode cX12_isTreeOf 90 = .ok (.ifCond .eq 30, 3) := by decide +kernel
theorem dX12_isTreeOf_93 : decode cX12_isTreeOf 93 = .ok (.aload_n 0, 1) := by decide +kernel
theorem dX12_isTreeOf_94 : decode cX12_isTreeOf 94 = .ok (.iload_n 1, 1) := by decide +kernel
theorem dX12_isTreeOf_95 : decode cX12_isTreeOf 95 = .ok (.iload 4, 2) := by decide +kernel
theorem dX12_isTreeOf_97 : decode cX12_isTreeOf 97 = .ok (.invokevirtual 195, 3) := by decide +kernel
theorem dX12_isTreeOf_100 : decode cX12_isTreeOf 100 = .ok (.iconst 1, 1) := by decide +kernel
theorem dX12_isTreeOf_101 : decode cX12_isTreeOf 101 = .ok (.if_icmp .le 6, 3) := by decide +kernel
theorem dX12_isTreeOf_104 : decode cX12_isTreeOf 104 = .ok (.goto 16, 3) := by decide +kernel
theorem dX12_isTreeOf_107 : decode cX12_isTreeOf 107 = .ok (.aload_n 0, 1) := by decide +kernel
theorem dX12_isTreeOf_108 : decode cX12_isTreeOf 108 = .ok (.getfield 35, 3) := by decide +kernel
theorem dX12_isTreeOf_111 : decode cX12_isTreeOf 111 = .ok (.iload_n 3, 1) := by decide +kernel
theorem dX12_isTreeOf_112 : decode cX12_isTreeOf 112 = .ok (.dup2, 1) := by decide +kernel
theorem dX12_isTreeOf_113 : decode cX12_isTreeOf 113 = .ok (.iaload, 1) := by decide +kernel
theorem dX12_isTreeOf_114 : decode cX12_isTreeOf 114 = .ok (.iload 4, 2) := by decide +kernel
theorem dX12_isTreeOf_116 : decode cX12_isTreeOf 116 = .ok (.isub, 1) := by decide +kernel
theorem dX12_isTreeOf_117 : decode cX12_isTreeOf 117 = .ok (.iastore, 1) := by decide +kernel
theorem dX12_isTreeOf_118 : decode cX12_isTreeOf 118 = .ok (.iconst 0, 1) := by decide +kernel
theorem dX12_isTreeOf_119 : decode cX12_isTreeOf 119 = .ok (.istore_n 2, 1) := by decide +kernel
theorem dX12_isTreeOf_120 : decode cX12_isTreeOf 120 = .ok (.iload 4, 2) := by decide +kernel
theorem dX12_isTreeOf_122 : decode cX12_isTreeOf 122 = .ok (.iconst 1, 1) := by decide +kernel
theorem dX12_isTreeOf_123 : decode cX12_isTreeOf 123 = .ok (.ishl, 1) := by decide +kernel
theorem dX12_isTreeOf_124 : decode cX12_isTreeOf 124 = .ok (.istore 4, 2) := by decide +kernel
theorem dX12_isTreeOf_126 : decode cX12_isTreeOf 126 = .ok (.goto (-52), 3) := by decide +kernel
theorem dX12_isTreeOf_129 : decode cX12_isTreeOf 129 = .ok (.aload_n 0, 1) := by decide +kernel
theorem dX12_isTreeOf_130 : decode cX12_isTreeOf 130 = .ok (.iload_n 1, 1) := by decide +kernel
theorem dX12_isTreeOf_131 : decode cX12_isTreeOf 131 = .ok (.iload_n 3, 1) := by decide +kernel
theorem dX12_isTreeOf_132 : decode cX12_isTreeOf 132 = .ok (.invokevirtual 198, 3) := by decide +kernel
theorem dX12_isTreeOf_135 : decode cX12_isTreeOf 135 = .ok (.ifCond .eq 12, 3) := by decide +kernel
theorem dX12_isTreeOf_138 : decode cX12_isTreeOf 138 = .ok (.aload_n 0, 1) := by decide +kernel
theorem dX12_isTreeOf_139 : decode cX12_isTreeOf 139 = .ok (.getfield 38, 3) := by decide +kernel
theorem dX12_isTreeOf_142 : decode cX12_isTreeOf 142 = .ok (.iload_n 3, 1) := by decide +kernel
theorem dX12_isTreeOf_143 : decode cX12_isTreeOf 143 = .ok (.iconst 1, 1) := by decide +kernel
theorem dX12_isTreeOf_144 : decode cX12_isTreeOf 144 = .ok (.bastore, 1) := by decide +kernel
theorem dX12_isTreeOf_145 : decode cX12_isTreeOf 145 = .ok (.iconst 0, 1) := by decide +kernel
theorem dX12_isTreeOf_146 : decode cX12_isTreeOf 146 = .ok (.istore_n 2, 1) := by decide +kernel
theorem dX12_isTreeOf_147 : decode cX12_isTreeOf 147 = .ok (.iinc 3 1, 3) := by decide +kernel
theorem dX12_isTreeOf_150 : decode cX12_isTreeOf 150 = .ok (.goto (-100), 3) := by decide +kernel
theorem dX12_isTreeOf_153 : decode cX12_isTreeOf 153 = .ok (.goto (-111), 3) := by decide +kernel
theorem dX12_isTreeOf_156 : decode cX12_isTreeOf 156 = .ok (.iconst 1, 1) := by decide +kernel
theorem dX12_isTreeOf_157 : decode cX12_isTreeOf 157 = .ok (.istore_n 3, 1) := by decide +kernel
theorem dX12_isTreeOf_158 : decode cX12_isTreeOf 158 = .ok (.iconst 0, 1) := by decide +kernel
theorem dX12_isTreeOf_159 : decode cX12_isTreeOf 159 = .ok (.istore 4, 2) := by decide +kernel
theorem dX12_isTreeOf_161 : decode cX12_isTreeOf 161 = .ok (.iload 4, 2) := by decide +kernel
theorem dX12_isTreeOf_163 : decode cX12_isTreeOf 163 = .ok (.aload_n 0, 1) := by decide +kernel
theorem dX12_isTreeOf_164 : decode cX12_isTreeOf 164 = .ok (.iload_n 1, 1) := by decide +kernel
theorem dX12_isTreeOf_165 : decode cX12_isTreeOf 165 = .ok (.invokevirtual 76, 3) := by decide +kernel
theorem dX12_isTreeOf_168 : decode cX12_isTreeOf 168 = .ok (.if_icmp .ge 29, 3) := by decide +kernel
theorem dX12_isTreeOf_171 : decode cX12_isTreeOf 171 = .ok (.iload_n 3, 1) := by decide +kernel
theorem dX12_isTreeOf_172 : decode cX12_isTreeOf 172 = .ok (.ifCond .eq 17, 3) := by decide +kernel
theorem dX12_isTreeOf_175 : decode cX12_isTreeOf 175 = .ok (.aload_n 0, 1) := by decide +kernel
theorem dX12_isTreeOf_176 : decode cX12_isTreeOf 176 = .ok (.getfield 38, 3) := by decide +kernel
theorem dX12_isTreeOf_179 : decode cX12_isTreeOf 179 = .ok (.iload 4, 2) := by decide +kernel
theorem dX12_isTreeOf_181 : decode cX12_isTreeOf 181 = .ok (.baload, 1) := by decide +kernel
theorem dX12_isTreeOf_182 : decode cX12_isTreeOf 182 = .ok (.ifCond .eq 7, 3) := by decide +kernel
theorem dX12_isTreeOf_185 : decode cX12_isTreeOf 185 = .ok (.iconst 1, 1) := by decide +kernel
theorem dX12_isTreeOf_186 : decode cX12_isTreeOf 186 = .ok (.goto 4, 3) := by decide +kernel
theorem dX12_isTreeOf_189 : decode cX12_isTreeOf 189 = .ok (.iconst 0, 1) := by decide +kernel
theorem dX12_isTreeOf_190 : decode cX12_isTreeOf 190 = .ok (.istore_n 3, 1) := by decide +kernel
theorem dX12_isTreeOf_191 : decode cX12_isTreeOf 191 = .ok (.iinc 4 1, 3) := by decide +kernel
theorem dX12_isTreeOf_194 : decode cX12_isTreeOf 194 = .ok (.goto (-33), 3) := by decide +kernel
theorem dX12_isTreeOf_197 : decode cX12_isTreeOf 197 = .ok (.iload_n 3, 1) := by decide +kernel
theorem dX12_isTreeOf_198 : decode cX12_isTreeOf 198 = .ok (.ireturn, 1) := by decide +kernel
theorem dX12_halves_0 : decode cX12_halves 0 = .ok (.iload_n 0, 1) := by decide +kernel
theorem dX12_halves_1 : decode cX12_halves 1 = .ok (.istore_n 2, 1) := by decide +kernel
theorem dX12_halves_2 : decode cX12_halves 2 = .ok (.iconst 0, 1) := by decide +kernel
theorem dX12_halves_3 : decode cX12_halves 3 = .ok (.istore_n 3, 1) := by decide +kernel
theorem dX12_halves_4 : decode cX12_halves 4 = .ok (.iload_n 3, 1) := by decide +kernel
theorem dX12_halves_5 : decode cX12_halves 5 = .ok (.iload_n 1, 1) := by decide +kernel
theorem dX12_halves_6 : decode cX12_halves 6 = .ok (.if_icmp .ge 13, 3) := by decide +kernel
theorem dX12_halves_9 : decode cX12_halves 9 = .ok (.iload_n 2, 1) := by decide +kernel
theorem dX12_halves_10 : decode cX12_halves 10 = .ok (.iconst 3, 1) := by decide +kernel
theorem dX12_halves_11 : decode cX12_halves 11 = .ok (.idiv, 1) := by decide +kernel
theorem dX12_halves_12 : decode cX12_halves 12 = .ok (.istore_n 2, 1) := by decide +kernel
theorem dX12_halves_13 : decode cX12_halves 13 = .ok (.iinc 3 1, 3) := by decide +kernel
theorem dX12_halves_16 : decode cX12_halves 16 = .ok (.goto (-12), 3) := by decide +kernel
theorem dX12_halves_19 : decode cX12_halves 19 = .ok (.iload_n 2, 1) := by decide +kernel
theorem dX12_halves_20 : decode cX12_halves 20 = .ok (.iconst 3, 1) := by decide +kernel
theorem dX12_halves_21 : decode cX12_halves 21 = .ok (.irem, 1) := by decide +kernel
theorem dX12_halves_22 : decode cX12_halves 22 = .ok (.ireturn, 1) := by decide +kernel
theorem dX12_covers_0 : decode cX12_covers 0 = .ok (.iconst 1, 1) := by decide +kernel
theorem dX12_covers_1 : decode cX12_covers 1 = .ok (.istore_n 3, 1) := by decide +kernel
theorem dX12_covers_2 : decode cX12_covers 2 = .ok (.iconst 0, 1) := by decide +kernel
theorem dX12_covers_3 : decode cX12_covers 3 = .ok (.istore 4, 2) := by decide +kernel
theorem dX12_covers_5 : decode cX12_covers 5 = .ok (.iload 4, 2) := by decide +kernel
theorem dX12_covers_7 : decode cX12_covers 7 = .ok (.iconst 4, 1) := by decide +kernel
theorem dX12_covers_8 : decode cX12_covers 8 = .ok (.if_icmp .ge 92, 3) := by decide +kernel
theorem dX12_covers_11 : decode cX12_covers 11 = .ok (.aload_n 0, 1) := by decide +kernel
theorem dX12_covers_12 : decode cX12_covers 12 = .ok (.iload_n 1, 1) := by decide +kernel
theorem dX12_covers_13 : decode cX12_covers 13 = .ok (.iload 4, 2) := by decide +kernel
theorem dX12_covers_15 : decode cX12_covers 15 = .ok (.invokevirtual 201, 3) := by decide +kernel
theorem dX12_covers_18 : decode cX12_covers 18 = .ok (.ifCond .eq 7, 3) := by decide +kernel
theorem dX12_covers_21 : decode cX12_covers 21 = .ok (.iconst 0, 1) := by decide +kernel
theorem dX12_covers_22 : decode cX12_covers 22 = .ok (.goto 4, 3) := by decide +kernel
theorem dX12_covers_25 : decode cX12_covers 25 = .ok (.iconst 2, 1) := by decide +kernel
theorem dX12_covers_26 : decode cX12_covers 26 = .ok (.istore 5, 2) := by decide +kernel
theorem dX12_covers_28 : decode cX12_covers 28 = .ok (.iconst 0, 1) := by decide +kernel
theorem dX12_covers_29 : decode cX12_covers 29 = .ok (.istore 6, 2) := by decide +kernel
theorem dX12_covers_31 : decode cX12_covers 31 = .ok (.iload 6, 2) := by decide +kernel
theorem dX12_covers_33 : decode cX12_covers 33 = .ok (.aload_n 0, 1) := by decide +kernel
theorem dX12_covers_34 : decode cX12_covers 34 = .ok (.iload_n 1, 1) := by decide +kernel
theorem dX12_covers_35 : decode cX12_covers 35 = .ok (.invokevirtual 76, 3) := by decide +kernel
theorem dX12_covers_38 : decode cX12_covers 38 = .ok (.if_icmp .ge 40, 3) := by decide +kernel
theorem dX12_covers_41 : decode cX12_covers 41 = .ok (.aload_n 0, 1) := by decide +kernel
theorem dX12_covers_42 : decode cX12_covers 42 = .ok (.aload_n 0, 1) := by decide +kernel
theorem dX12_covers_43 : decode cX12_covers 43 = .ok (.iload_n 1, 1) := by decide +kernel
theorem dX12_covers_44 : decode cX12_covers 44 = .ok (.iload 6, 2) := by decide +kernel
theorem dX12_covers_46 : decode cX12_covers 46 = .ok (.invokevirtual 79, 3) := by decide +kernel
theorem dX12_covers_49 : decode cX12_covers 49 = .ok (.invokevirtual 111, 3) := by decide +kernel
theorem dX12_covers_52 : decode cX12_covers 52 = .ok (.iload 4, 2) := by decide +kernel
theorem dX12_covers_54 : decode cX12_covers 54 = .ok (.ishr, 1) := by decide +kernel
theorem dX12_covers_55 : decode cX12_covers 55 = .ok (.iconst 1, 1) := by decide +kernel
theorem dX12_covers_56 : decode cX12_covers 56 = .ok (.iand, 1) := by decide +kernel
theorem dX12_covers_57 : decode cX12_covers 57 = .ok (.iconst 1, 1) := by decide +kernel
theorem dX12_covers_58 : decode cX12_covers 58 = .ok (.if_icmp .ne 14, 3) := by decide +kernel
theorem dX12_covers_61 : decode cX12_covers 61 = .ok (.iload 5, 2) := by decide +kernel
theorem dX12_covers_63 : decode cX12_covers 63 = .ok (.iload_n 2, 1) := by decide +kernel
theorem dX12_covers_64 : decode cX12_covers 64 = .ok (.iload 6, 2) := by decide +kernel
theorem dX12_covers_66 : decode cX12_covers 66 = .ok (.invokestatic 204, 3) := by decide +kernel
theorem dX12_covers_69 : decode cX12_covers 69 = .ok (.iadd, 1) := by decide +kernel
theorem dX12_covers_70 : decode cX12_covers 70 = .ok (.istore 5, 2) := by decide +kernel
theorem dX12_covers_72 : decode cX12_covers 72 = .ok (.iinc 6 1, 3) := by decide +kernel
theorem dX12_covers_75 : decode cX12_covers 75 = .ok (.goto (-44), 3) := by decide +kernel
theorem dX12_covers_78 : decode cX12_covers 78 = .ok (.iload_n 3, 1) := by decide +kernel
theorem dX12_covers_79 : decode cX12_covers 79 = .ok (.ifCond .eq 13, 3) := by decide +kernel
theorem dX12_covers_82 : decode cX12_covers 82 = .ok (.iload 5, 2) := by decide +kernel
theorem dX12_covers_84 : decode cX12_covers 84 = .ok (.iconst 2, 1) := by decide +kernel
theorem dX12_covers_85 : decode cX12_covers 85 = .ok (.if_icmp .lt 7, 3) := by decide +kernel
theorem dX12_covers_88 : decode cX12_covers 88 = .ok (.iconst 1, 1) := by decide +kernel
theorem dX12_covers_89 : decode cX12_covers 89 = .ok (.goto 4, 3) := by decide +kernel
theorem dX12_covers_92 : decode cX12_covers 92 = .ok (.iconst 0, 1) := by decide +kernel
theorem dX12_covers_93 : decode cX12_covers 93 = .ok (.istore_n 3, 1) := by decide +kernel
theorem dX12_covers_94 : decode cX12_covers 94 = .ok (.iinc 4 1, 3) := by decide +kernel
theorem dX12_covers_97 : decode cX12_covers 97 = .ok (.goto (-92), 3) := by decide +kernel
theorem dX12_covers_100 : decode cX12_covers 100 = .ok (.iload_n 3, 1) := by decide +kernel
theorem dX12_covers_101 : decode cX12_covers 101 = .ok (.ireturn, 1) := by decide +kernel
theorem dX12_allHalves_0 : decode cX12_allHalves 0 = .ok (.iconst 1, 1) := by decide +kernel
theorem dX12_allHalves_1 : decode cX12_allHalves 1 = .ok (.istore_n 2, 1) := by decide +kernel
theorem dX12_allHalves_2 : decode cX12_allHalves 2 = .ok (.iconst 0, 1) := by decide +kernel
theorem dX12_allHalves_3 : decode cX12_allHalves 3 = .ok (.istore_n 3, 1) := by decide +kernel
theorem dX12_allHalves_4 : decode cX12_allHalves 4 = .ok (.iload_n 3, 1) := by decide +kernel
theorem dX12_allHalves_5 : decode cX12_allHalves 5 = .ok (.aload_n 0, 1) := by decide +kernel
theorem dX12_allHalves_6 : decode cX12_allHalves 6 = .ok (.iload_n 1, 1) := by decide +kernel
theorem dX12_allHalves_7 : decode cX12_allHalves 7 = .ok (.invokevirtual 76, 3) := by decide +kernel
theorem dX12_allHalves_10 : decode cX12_allHalves 10 = .ok (.if_icmp .ge 13, 3) := by decide +kernel
theorem dX12_allHalves_13 : decode cX12_allHalves 13 = .ok (.iload_n 2, 1) := by decide +kernel
theorem dX12_allHalves_14 : decode cX12_allHalves 14 = .ok (.iconst 3, 1) := by decide +kernel
theorem dX12_allHalves_15 : decode cX12_allHalves 15 = .ok (.imul, 1) := by decide +kernel
theorem dX12_allHalves_16 : decode cX12_allHalves 16 = .ok (.istore_n 2, 1) := by decide +kernel
theorem dX12_allHalves_17 : decode cX12_allHalves 17 = .ok (.iinc 3 1, 3) := by decide +kernel
theorem dX12_allHalves_20 : decode cX12_allHalves 20 = .ok (.goto (-16), 3) := by decide +kernel
theorem dX12_allHalves_23 : decode cX12_allHalves 23 = .ok (.iload_n 2, 1) := by decide +kernel
theorem dX12_allHalves_24 : decode cX12_allHalves 24 = .ok (.ireturn, 1) := by decide +kernel
theorem dX12_sizeOf_0 : decode cX12_sizeOf 0 = .ok (.iconst 0, 1) := by decide +kernel
theorem dX12_sizeOf_1 : decode cX12_sizeOf 1 = .ok (.istore_n 2, 1) := by decide +kernel
theorem dX12_sizeOf_2 : decode cX12_sizeOf 2 = .ok (.iconst 0, 1) := by decide +kernel
theorem dX12_sizeOf_3 : decode cX12_sizeOf 3 = .ok (.istore_n 3, 1) := by decide +kernel
theorem dX12_sizeOf_4 : decode cX12_sizeOf 4 = .ok (.iload_n 3, 1) := by decide +kernel
theorem dX12_sizeOf_5 : decode cX12_sizeOf 5 = .ok (.sipush 512, 3) := by decide +kernel
theorem dX12_sizeOf_8 : decode cX12_sizeOf 8 = .ok (.if_icmp .ge 47, 3) := by decide +kernel
theorem dX12_sizeOf_11 : decode cX12_sizeOf 11 = .ok (.iload_n 2, 1) := by decide +kernel
theorem dX12_sizeOf_12 : decode cX12_sizeOf 12 = .ok (.aload_n 0, 1) := by decide +kernel
theorem dX12_sizeOf_13 : decode cX12_sizeOf 13 = .ok (.getfield 16, 3) := by decide +kernel
theorem dX12_sizeOf_16 : decode cX12_sizeOf 16 = .ok (.sipush 512, 3) := by decide +kernel
theorem dX12_sizeOf_19 : decode cX12_sizeOf 19 = .ok (.aload_n 0, 1) := by decide +kernel
theorem dX12_sizeOf_20 : decode cX12_sizeOf 20 = .ok (.getfield 9, 3) := by decide +kernel
theorem dX12_sizeOf_23 : decode cX12_sizeOf 23 = .ok (.iload_n 1, 1) := by decide +kernel
theorem dX12_sizeOf_24 : decode cX12_sizeOf 24 = .ok (.iaload, 1) := by decide +kernel
theorem dX12_sizeOf_25 : decode cX12_sizeOf 25 = .ok (.imul, 1) := by decide +kernel
theorem dX12_sizeOf_26 : decode cX12_sizeOf 26 = .ok (.iload_n 3, 1) := by decide +kernel
theorem dX12_sizeOf_27 : decode cX12_sizeOf 27 = .ok (.iadd, 1) := by decide +kernel
theorem dX12_sizeOf_28 : decode cX12_sizeOf 28 = .ok (.baload, 1) := by decide +kernel
theorem dX12_sizeOf_29 : decode cX12_sizeOf 29 = .ok (.ifCond .eq 17, 3) := by decide +kernel
theorem dX12_sizeOf_32 : decode cX12_sizeOf 32 = .ok (.aload_n 0, 1) := by decide +kernel
theorem dX12_sizeOf_33 : decode cX12_sizeOf 33 = .ok (.iload_n 1, 1) := by decide +kernel
theorem dX12_sizeOf_34 : decode cX12_sizeOf 34 = .ok (.iload_n 3, 1) := by decide +kernel
theorem dX12_sizeOf_35 : decode cX12_sizeOf 35 = .ok (.iconst 0, 1) := by decide +kernel
theorem dX12_sizeOf_36 : decode cX12_sizeOf 36 = .ok (.invokevirtual 175, 3) := by decide +kernel
theorem dX12_sizeOf_39 : decode cX12_sizeOf 39 = .ok (.ifCond .eq 7, 3) := by decide +kernel
theorem dX12_sizeOf_42 : decode cX12_sizeOf 42 = .ok (.iconst 1, 1) := by decide +kernel
theorem dX12_sizeOf_43 : decode cX12_sizeOf 43 = .ok (.goto 4, 3) := by decide +kernel
theorem dX12_sizeOf_46 : decode cX12_sizeOf 46 = .ok (.iconst 0, 1) := by decide +kernel
theorem dX12_sizeOf_47 : decode cX12_sizeOf 47 = .ok (.iadd, 1) := by decide +kernel
theorem dX12_sizeOf_48 : decode cX12_sizeOf 48 = .ok (.istore_n 2, 1) := by decide +kernel
theorem dX12_sizeOf_49 : decode cX12_sizeOf 49 = .ok (.iinc 3 1, 3) := by decide +kernel
theorem dX12_sizeOf_52 : decode cX12_sizeOf 52 = .ok (.goto (-48), 3) := by decide +kernel
theorem dX12_sizeOf_55 : decode cX12_sizeOf 55 = .ok (.iload_n 2, 1) := by decide +kernel
theorem dX12_sizeOf_56 : decode cX12_sizeOf 56 = .ok (.ireturn, 1) := by decide +kernel
theorem dX12_product_0 : decode cX12_product 0 = .ok (.lconst 1, 1) := by decide +kernel
theorem dX12_product_1 : decode cX12_product 1 = .ok (.lstore_n 3, 1) := by decide +kernel
theorem dX12_product_2 : decode cX12_product 2 = .ok (.iconst 0, 1) := by decide +kernel
theorem dX12_product_3 : decode cX12_product 3 = .ok (.istore 5, 2) := by decide +kernel
theorem dX12_product_5 : decode cX12_product 5 = .ok (.iload 5, 2) := by decide +kernel
theorem dX12_product_7 : decode cX12_product 7 = .ok (.aload_n 0, 1) := by decide +kernel
theorem dX12_product_8 : decode cX12_product 8 = .ok (.iload_n 1, 1) := by decide +kernel
theorem dX12_product_9 : decode cX12_product 9 = .ok (.invokevirtual 76, 3) := by decide +kernel
theorem dX12_product_12 : decode cX12_product 12 = .ok (.if_icmp .ge 89, 3) := by decide +kernel
theorem dX12_product_15 : decode cX12_product 15 = .ok (.aload_n 0, 1) := by decide +kernel
theorem dX12_product_16 : decode cX12_product 16 = .ok (.aload_n 0, 1) := by decide +kernel
theorem dX12_product_17 : decode cX12_product 17 = .ok (.iload_n 1, 1) := by decide +kernel
theorem dX12_product_18 : decode cX12_product 18 = .ok (.iload 5, 2) := by decide +kernel
theorem dX12_product_20 : decode cX12_product 20 = .ok (.invokevirtual 79, 3) := by decide +kernel
theorem dX12_product_23 : decode cX12_product 23 = .ok (.invokevirtual 207, 3) := by decide +kernel
theorem dX12_product_26 : decode cX12_product 26 = .ok (.i2l, 1) := by decide +kernel
theorem dX12_product_27 : decode cX12_product 27 = .ok (.lstore 6, 2) := by decide +kernel
theorem dX12_product_29 : decode cX12_product 29 = .ok (.iload_n 2, 1) := by decide +kernel
theorem dX12_product_30 : decode cX12_product 30 = .ok (.iload 5, 2) := by decide +kernel
theorem dX12_product_32 : decode cX12_product 32 = .ok (.invokestatic 204, 3) := by decide +kernel
theorem dX12_product_35 : decode cX12_product 35 = .ok (.istore 8, 2) := by decide +kernel
theorem dX12_product_37 : decode cX12_product 37 = .ok (.iload 8, 2) := by decide +kernel
theorem dX12_product_39 : decode cX12_product 39 = .ok (.ifCond .le 38, 3) := by decide +kernel
theorem dX12_product_42 : decode cX12_product 42 = .ok (.lload 6, 2) := by decide +kernel
theorem dX12_product_44 : decode cX12_product 44 = .ok (.lconst 0, 1) := by decide +kernel
theorem dX12_product_45 : decode cX12_product 45 = .ok (.lcmp, 1) := by decide +kernel
theorem dX12_product_46 : decode cX12_product 46 = .ok (.ifCond .le 20, 3) := by decide +kernel
theorem dX12_product_49 : decode cX12_product 49 = .ok (.lload_n 3, 1) := by decide +kernel
theorem dX12_product_50 : decode cX12_product 50 = .ok (.ldc2_w 212, 3) := by decide +kernel
theorem dX12_product_53 : decode cX12_product 53 = .ok (.lload 6, 2) := by decide +kernel
theorem dX12_product_55 : decode cX12_product 55 = .ok (.ldiv, 1) := by decide +kernel
theorem dX12_product_56 : decode cX12_product 56 = .ok (.lcmp, 1) := by decide +kernel
theorem dX12_product_57 : decode cX12_product 57 = .ok (.ifCond .le 9, 3) := by decide +kernel
theorem dX12_product_60 : decode cX12_product 60 = .ok (.ldc2_w 212, 3) := by decide +kernel
