theorem dX11_init_0 : decode cX11_init 0 = .ok (.aload_n 0, 1) := by decide +kernel
theorem dX11_init_1 : decode cX11_init 1 = .ok (.invokespecial 1, 3) := by decide +kernel
theorem dX11_init_4 : decode cX11_init 4 = .ok (.aload_n 0, 1) := by decide +kernel
theorem dX11_init_5 : decode cX11_init 5 = .ok (.new 7, 3) := by decide +kernel
theorem dX11_init_8 : decode cX11_init 8 = .ok (.dup, 1) := by decide +kernel
theorem dX11_init_9 : decode cX11_init 9 = .ok (.invokespecial 9, 3) := by decide +kernel
theorem dX11_init_12 : decode cX11_init 12 = .ok (.putfield 10, 3) := by decide +kernel
theorem dX11_init_15 : decode cX11_init 15 = .ok (.aload_n 0, 1) := by decide +kernel
theorem dX11_init_16 : decode cX11_init 16 = .ok (.new 16, 3) := by decide +kernel
theorem dX11_init_19 : decode cX11_init 19 = .ok (.dup, 1) := by decide +kernel
theorem dX11_init_20 : decode cX11_init 20 = .ok (.invokespecial 18, 3) := by decide +kernel
theorem dX11_init_23 : decode cX11_init 23 = .ok (.putfield 19, 3) := by decide +kernel
theorem dX11_init_26 : decode cX11_init 26 = .ok (.aload_n 0, 1) := by decide +kernel
theorem dX11_init_27 : decode cX11_init 27 = .ok (.new 23, 3) := by decide +kernel
theorem dX11_init_30 : decode cX11_init 30 = .ok (.dup, 1) := by decide +kernel
theorem dX11_init_31 : decode cX11_init 31 = .ok (.invokespecial 25, 3) := by decide +kernel
theorem dX11_init_34 : decode cX11_init 34 = .ok (.putfield 26, 3) := by decide +kernel
theorem dX11_init_37 : decode cX11_init 37 = .ok (.aload_n 0, 1) := by decide +kernel
theorem dX11_init_38 : decode cX11_init 38 = .ok (.new 30, 3) := by decide +kernel
theorem dX11_init_41 : decode cX11_init 41 = .ok (.dup, 1) := by decide +kernel
theorem dX11_init_42 : decode cX11_init 42 = .ok (.invokespecial 32, 3) := by decide +kernel
theorem dX11_init_45 : decode cX11_init 45 = .ok (.putfield 33, 3) := by decide +kernel
theorem dX11_init_48 : decode cX11_init 48 = .ok (.aload_n 0, 1) := by decide +kernel
theorem dX11_init_49 : decode cX11_init 49 = .ok (.new 37, 3) := by decide +kernel
theorem dX11_init_52 : decode cX11_init 52 = .ok (.dup, 1) := by decide +kernel
theorem dX11_init_53 : decode cX11_init 53 = .ok (.invokespecial 39, 3) := by decide +kernel
theorem dX11_init_56 : decode cX11_init 56 = .ok (.putfield 40, 3) := by decide +kernel
theorem dX11_init_59 : decode cX11_init 59 = .ok (.aload_n 0, 1) := by decide +kernel
theorem dX11_init_60 : decode cX11_init 60 = .ok (.new 44, 3) := by decide +kernel
theorem dX11_init_63 : decode cX11_init 63 = .ok (.dup, 1) := by decide +kernel
theorem dX11_init_64 : decode cX11_init 64 = .ok (.invokespecial 46, 3) := by decide +kernel
theorem dX11_init_67 : decode cX11_init 67 = .ok (.putfield 47, 3) := by decide +kernel
theorem dX11_init_70 : decode cX11_init 70 = .ok (.aload_n 0, 1) := by decide +kernel
theorem dX11_init_71 : decode cX11_init 71 = .ok (.new 51, 3) := by decide +kernel
theorem dX11_init_74 : decode cX11_init 74 = .ok (.dup, 1) := by decide +kernel
theorem dX11_init_75 : decode cX11_init 75 = .ok (.invokespecial 53, 3) := by decide +kernel
theorem dX11_init_78 : decode cX11_init 78 = .ok (.putfield 54, 3) := by decide +kernel
theorem dX11_init_81 : decode cX11_init 81 = .ok (.aload_n 0, 1) := by decide +kernel
theorem dX11_init_82 : decode cX11_init 82 = .ok (.iconst (-1), 1) := by decide +kernel
theorem dX11_init_83 : decode cX11_init 83 = .ok (.putfield 58, 3) := by decide +kernel
theorem dX11_init_86 : decode cX11_init 86 = .ok (.aload_n 0, 1) := by decide +kernel
theorem dX11_init_87 : decode cX11_init 87 = .ok (.getfield 10, 3) := by decide +kernel
theorem dX11_init_90 : decode cX11_init 90 = .ok (.iconst 2, 1) := by decide +kernel
theorem dX11_init_91 : decode cX11_init 91 = .ok (.invokevirtual 62, 3) := by decide +kernel
theorem dX11_init_94 : decode cX11_init 94 = .ok (.aload_n 0, 1) := by decide +kernel
theorem dX11_init_95 : decode cX11_init 95 = .ok (.getfield 10, 3) := by decide +kernel
theorem dX11_init_98 : decode cX11_init 98 = .ok (.iconst 2, 1) := by decide +kernel
theorem dX11_init_99 : decode cX11_init 99 = .ok (.invokevirtual 62, 3) := by decide +kernel
theorem dX11_init_102 : decode cX11_init 102 = .ok (.aload_n 0, 1) := by decide +kernel
theorem dX11_init_103 : decode cX11_init 103 = .ok (.getfield 10, 3) := by decide +kernel
theorem dX11_init_106 : decode cX11_init 106 = .ok (.iconst 1, 1) := by decide +kernel
theorem dX11_init_107 : decode cX11_init 107 = .ok (.invokevirtual 62, 3) := by decide +kernel
theorem dX11_init_110 : decode cX11_init 110 = .ok (.aload_n 0, 1) := by decide +kernel
theorem dX11_init_111 : decode cX11_init 111 = .ok (.getfield 10, 3) := by decide +kernel
theorem dX11_init_114 : decode cX11_init 114 = .ok (.getfield 66, 3) := by decide +kernel
theorem dX11_init_117 : decode cX11_init 117 = .ok (.iconst 0, 1) := by decide +kernel
theorem dX11_init_118 : decode cX11_init 118 = .ok (.iconst 0, 1) := by decide +kernel
theorem dX11_init_119 : decode cX11_init 119 = .ok (.iconst 1, 1) := by decide +kernel
theorem dX11_init_120 : decode cX11_init 120 = .ok (.iconst 0, 1) := by decide +kernel
theorem dX11_init_121 : decode cX11_init 121 = .ok (.invokestatic 69, 3) := by decide +kernel
theorem dX11_init_124 : decode cX11_init 124 = .ok (.invokevirtual 73, 3) := by decide +kernel
theorem dX11_init_127 : decode cX11_init 127 = .ok (.aload_n 0, 1) := by decide +kernel
theorem dX11_init_128 : decode cX11_init 128 = .ok (.getfield 10, 3) := by decide +kernel
theorem dX11_init_131 : decode cX11_init 131 = .ok (.getfield 66, 3) := by decide +kernel
theorem dX11_init_134 : decode cX11_init 134 = .ok (.iconst 0, 1) := by decide +kernel
theorem dX11_init_135 : decode cX11_init 135 = .ok (.iconst 0, 1) := by decide +kernel
theorem dX11_init_136 : decode cX11_init 136 = .ok (.iconst 2, 1) := by decide +kernel
theorem dX11_init_137 : decode cX11_init 137 = .ok (.iconst 0, 1) := by decide +kernel
theorem dX11_init_138 : decode cX11_init 138 = .ok (.invokestatic 69, 3) := by decide +kernel
theorem dX11_init_141 : decode cX11_init 141 = .ok (.invokevirtual 73, 3) := by decide +kernel
theorem dX11_init_144 : decode cX11_init 144 = .ok (.aload_n 0, 1) := by decide +kernel
theorem dX11_init_145 : decode cX11_init 145 = .ok (.getfield 10, 3) := by decide +kernel
theorem dX11_init_148 : decode cX11_init 148 = .ok (.getfield 66, 3) := by decide +kernel
theorem dX11_init_151 : decode cX11_init 151 = .ok (.iconst 0, 1) := by decide +kernel
theorem dX11_init_152 : decode cX11_init 152 = .ok (.iconst 1, 1) := by decide +kernel
theorem dX11_init_153 : decode cX11_init 153 = .ok (.iconst 2, 1) := by decide +kernel
theorem dX11_init_154 : decode cX11_init 154 = .ok (.iconst 0, 1) := by decide +kernel
theorem dX11_init_155 : decode cX11_init 155 = .ok (.invokestatic 69, 3) := by decide +kernel
theorem dX11_init_158 : decode cX11_init 158 = .ok (.invokevirtual 73, 3) := by decide +kernel
theorem dX11_init_161 : decode cX11_init 161 = .ok (.aload_n 0, 1) := by decide +kernel
theorem dX11_init_162 : decode cX11_init 162 = .ok (.getfield 10, 3) := by decide +kernel
theorem dX11_init_165 : decode cX11_init 165 = .ok (.getfield 66, 3) := by decide +kernel
theorem dX11_init_168 : decode cX11_init 168 = .ok (.iconst 0, 1) := by decide +kernel
theorem dX11_init_169 : decode cX11_init 169 = .ok (.iconst 2, 1) := by decide +kernel
theorem dX11_init_170 : decode cX11_init 170 = .ok (.iconst 0, 1) := by decide +kernel
theorem dX11_init_171 : decode cX11_init 171 = .ok (.iconst 0, 1) := by decide +kernel
theorem dX11_init_172 : decode cX11_init 172 = .ok (.invokestatic 69, 3) := by decide +kernel
theorem dX11_init_175 : decode cX11_init 175 = .ok (.invokevirtual 73, 3) := by decide +kernel
theorem dX11_init_178 : decode cX11_init 178 = .ok (.aload_n 0, 1) := by decide +kernel
theorem dX11_init_179 : decode cX11_init 179 = .ok (.getfield 10, 3) := by decide +kernel
theorem dX11_init_182 : decode cX11_init 182 = .ok (.getfield 66, 3) := by decide +kernel
theorem dX11_init_185 : decode cX11_init 185 = .ok (.iconst 0, 1) := by decide +kernel
theorem dX11_init_186 : decode cX11_init 186 = .ok (.iconst 2, 1) := by decide +kernel
theorem dX11_init_187 : decode cX11_init 187 = .ok (.iconst 3, 1) := by decide +kernel
theorem dX11_init_188 : decode cX11_init 188 = .ok (.iconst 0, 1) := by decide +kernel
theorem dX11_init_189 : decode cX11_init 189 = .ok (.invokestatic 69, 3) := by decide +kernel
theorem dX11_init_192 : decode cX11_init 192 = .ok (.invokevirtual 73, 3) := by decide +kernel
theorem dX11_init_195 : decode cX11_init 195 = .ok (.aload_n 0, 1) := by decide +kernel
theorem dX11_init_196 : decode cX11_init 196 = .ok (.getfield 10, 3) := by decide +kernel
theorem dX11_init_199 : decode cX11_init 199 = .ok (.getfield 66, 3) := by decide +kernel
theorem dX11_init_202 : decode cX11_init 202 = .ok (.iconst 0, 1) := by decide +kernel
theorem dX11_init_203 : decode cX11_init 203 = .ok (.iconst 3, 1) := by decide +kernel
theorem dX11_init_204 : decode cX11_init 204 = .ok (.iconst 4, 1) := by decide +kernel
theorem dX11_init_205 : decode cX11_init 205 = .ok (.iconst 0, 1) := by decide +kernel
theorem dX11_init_206 : decode cX11_init 206 = .ok (.invokestatic 69, 3) := by decide +kernel
theorem dX11_init_209 : decode cX11_init 209 = .ok (.invokevirtual 73, 3) := by decide +kernel
theorem dX11_init_212 : decode cX11_init 212 = .ok (.aload_n 0, 1) := by decide +kernel
theorem dX11_init_213 : decode cX11_init 213 = .ok (.getfield 10, 3) := by decide +kernel
theorem dX11_init_216 : decode cX11_init 216 = .ok (.getfield 66, 3) := by decide +kernel
theorem dX11_init_219 : decode cX11_init 219 = .ok (.iconst 2, 1) := by decide +kernel
theorem dX11_init_220 : decode cX11_init 220 = .ok (.iconst 3, 1) := by decide +kernel
theorem dX11_init_221 : decode cX11_init 221 = .ok (.iconst 0, 1) := by decide +kernel
theorem dX11_init_222 : decode cX11_init 222 = .ok (.iconst 0, 1) := by decide +kernel
theorem dX11_init_223 : decode cX11_init 223 = .ok (.invokestatic 69, 3) := by decide +kernel
theorem dX11_init_226 : decode cX11_init 226 = .ok (.invokevirtual 73, 3) := by decide +kernel
theorem dX11_init_229 : decode cX11_init 229 = .ok (.aload_n 0, 1) := by decide +kernel
theorem dX11_init_230 : decode cX11_init 230 = .ok (.getfield 10, 3) := by decide +kernel
theorem dX11_init_233 : decode cX11_init 233 = .ok (.iconst 1, 1) := by decide +kernel
theorem dX11_init_234 : decode cX11_init 234 = .ok (.iconst 2, 1) := by decide +kernel
theorem dX11_init_235 : decode cX11_init 235 = .ok (.iconst 0, 1) := by decide +kernel
theorem dX11_init_236 : decode cX11_init 236 = .ok (.iconst 1, 1) := by decide +kernel
theorem dX11_init_237 : decode cX11_init 237 = .ok (.iconst 0, 1) := by decide +kernel
theorem dX11_init_238 : decode cX11_init 238 = .ok (.invokestatic 77, 3) := by decide +kernel
theorem dX11_init_241 : decode cX11_init 241 = .ok (.invokevirtual 83, 3) := by decide +kernel
theorem dX11_init_244 : decode cX11_init 244 = .ok (.aload_n 0, 1) := by decide +kernel
theorem dX11_init_245 : decode cX11_init 245 = .ok (.getfield 10, 3) := by decide +kernel
theorem dX11_init_248 : decode cX11_init 248 = .ok (.iconst 0, 1) := by decide +kernel
theorem dX11_init_249 : decode cX11_init 249 = .ok (.invokevirtual 86, 3) := by decide +kernel
theorem dX11_init_252 : decode cX11_init 252 = .ok (.iconst 0, 1) := by decide +kernel
theorem dX11_init_253 : decode cX11_init 253 = .ok (.iconst 2, 1) := by decide +kernel
theorem dX11_init_254 : decode cX11_init 254 = .ok (.iconst 0, 1) := by decide +kernel
theorem dX11_init_255 : decode cX11_init 255 = .ok (.iconst 1, 1) := by decide +kernel
theorem dX11_init_256 : decode cX11_init 256 = .ok (.iconst 0, 1) := by decide +kernel
theorem dX11_init_257 : decode cX11_init 257 = .ok (.invokestatic 77, 3) := by decide +kernel
theorem dX11_init_260 : decode cX11_init 260 = .ok (.invokevirtual 90, 3) := by decide +kernel
theorem dX11_init_263 : decode cX11_init 263 = .ok (.aload_n 0, 1) := by decide +kernel
theorem dX11_init_264 : decode cX11_init 264 = .ok (.getfield 10, 3) := by decide +kernel
theorem dX11_init_267 : decode cX11_init 267 = .ok (.iconst 1, 1) := by decide +kernel
theorem dX11_init_268 : decode cX11_init 268 = .ok (.iconst 2, 1) := by decide +kernel
theorem dX11_init_269 : decode cX11_init 269 = .ok (.iconst 0, 1) := by decide +kernel
theorem dX11_init_270 : decode cX11_init 270 = .ok (.iconst 2, 1) := by decide +kernel
theorem dX11_init_271 : decode cX11_init 271 = .ok (.iconst 0, 1) := by decide +kernel
theorem dX11_init_272 : decode cX11_init 272 = .ok (.invokestatic 77, 3) := by decide +kernel
theorem dX11_init_275 : decode cX11_init 275 = .ok (.invokevirtual 83, 3) := by decide +kernel
theorem dX11_init_278 : decode cX11_init 278 = .ok (.aload_n 0, 1) := by decide +kernel
theorem dX11_init_279 : decode cX11_init 279 = .ok (.getfield 10, 3) := by decide +kernel
theorem dX11_init_282 : decode cX11_init 282 = .ok (.iconst 1, 1) := by decide +kernel
theorem dX11_init_283 : decode cX11_init 283 = .ok (.invokevirtual 86, 3) := by decide +kernel
theorem dX11_init_286 : decode cX11_init 286 = .ok (.iconst 1, 1) := by decide +kernel
theorem dX11_init_287 : decode cX11_init 287 = .ok (.iconst 2, 1) := by decide +kernel
theorem dX11_init_288 : decode cX11_init 288 = .ok (.iconst 0, 1) := by decide +kernel
theorem dX11_init_289 : decode cX11_init 289 = .ok (.iconst 1, 1) := by decide +kernel
theorem dX11_init_290 : decode cX11_init 290 = .ok (.iconst 0, 1) := by decide +kernel
theorem dX11_init_291 : decode cX11_init 291 = .ok (.invokestatic 77, 3) := by decide +kernel
theorem dX11_init_294 : decode cX11_init 294 = .ok (.invokevirtual 90, 3) := by decide +kernel
theorem dX11_init_297 : decode cX11_init 297 = .ok (.aload_n 0, 1) := by decide +kernel
theorem dX11_init_298 : decode cX11_init 298 = .ok (.getfield 10, 3) := by decide +kernel
theorem dX11_init_301 : decode cX11_init 301 = .ok (.iconst 1, 1) := by decide +kernel
theorem dX11_init_302 : decode cX11_init 302 = .ok (.invokevirtual 86, 3) := by decide +kernel
theorem dX11_init_305 : decode cX11_init 305 = .ok (.iconst 0, 1) := by decide +kernel
theorem dX11_init_306 : decode cX11_init 306 = .ok (.iconst 2, 1) := by decide +kernel
theorem dX11_init_307 : decode cX11_init 307 = .ok (.iconst 1, 1) := by decide +kernel
theorem dX11_init_308 : decode cX11_init 308 = .ok (.iconst 2, 1) := by decide +kernel
theorem dX11_init_309 : decode cX11_init 309 = .ok (.iconst 0, 1) := by decide +kernel
theorem dX11_init_310 : decode cX11_init 310 = .ok (.invokestatic 77, 3) := by decide +kernel
theorem dX11_init_313 : decode cX11_init 313 = .ok (.invokevirtual 90, 3) := by decide +kernel
theorem dX11_init_316 : decode cX11_init 316 = .ok (.aload_n 0, 1) := by decide +kernel
theorem dX11_init_317 : decode cX11_init 317 = .ok (.getfield 10, 3) := by decide +kernel
theorem dX11_init_320 : decode cX11_init 320 = .ok (.iconst 0, 1) := by decide +kernel
theorem dX11_init_321 : decode cX11_init 321 = .ok (.invokevirtual 94, 3) := by decide +kernel
theorem dX11_init_324 : decode cX11_init 324 = .ok (.iconst 0, 1) := by decide +kernel
theorem dX11_init_325 : decode cX11_init 325 = .ok (.iconst 2, 1) := by decide +kernel
theorem dX11_init_326 : decode cX11_init 326 = .ok (.iconst 0, 1) := by decide +kernel
theorem dX11_init_327 : decode cX11_init 327 = .ok (.iconst 1, 1) := by decide +kernel
theorem dX11_init_328 : decode cX11_init 328 = .ok (.iconst 0, 1) := by decide +kernel
theorem dX11_init_329 : decode cX11_init 329 = .ok (.invokestatic 77, 3) := by decide +kernel
theorem dX11_init_332 : decode cX11_init 332 = .ok (.invokevirtual 90, 3) := by decide +kernel
theorem dX11_init_335 : decode cX11_init 335 = .ok (.aload_n 0, 1) := by decide +kernel
theorem dX11_init_336 : decode cX11_init 336 = .ok (.getfield 10, 3) := by decide +kernel
theorem dX11_init_339 : decode cX11_init 339 = .ok (.iconst 0, 1) := by decide +kernel
theorem dX11_init_340 : decode cX11_init 340 = .ok (.invokevirtual 94, 3) := by decide +kernel
theorem dX11_init_343 : decode cX11_init 343 = .ok (.iconst 0, 1) := by decide +kernel
theorem dX11_init_344 : decode cX11_init 344 = .ok (.iconst 2, 1) := by decide +kernel
theorem dX11_init_345 : decode cX11_init 345 = .ok (.iconst 1, 1) := by decide +kernel
theorem dX11_init_346 : decode cX11_init 346 = .ok (.iconst 2, 1) := by decide +kernel
theorem dX11_init_347 : decode cX11_init 347 = .ok (.iconst 0, 1) := by decide +kernel
theorem dX11_init_348 : decode cX11_init 348 = .ok (.invokestatic 77, 3) := by decide +kernel
theorem dX11_init_351 : decode cX11_init 351 = .ok (.invokevirtual 90, 3) := by decide +kernel
theorem dX11_init_354 : decode cX11_init 354 = .ok (.aload_n 0, 1) := by decide +kernel
theorem dX11_init_355 : decode cX11_init 355 = .ok (.getfield 10, 3) := by decide +kernel
theorem dX11_init_358 : decode cX11_init 358 = .ok (.iconst 0, 1) := by decide +kernel
theorem dX11_init_359 : decode cX11_init 359 = .ok (.invokevirtual 94, 3) := by decide +kernel
theorem dX11_init_362 : decode cX11_init 362 = .ok (.iconst 0, 1) := by decide +kernel
theorem dX11_init_363 : decode cX11_init 363 = .ok (.iconst 2, 1) := by decide +kernel
theorem dX11_init_364 : decode cX11_init 364 = .ok (.iconst 2, 1) := by decide +kernel
theorem dX11_init_365 : decode cX11_init 365 = .ok (.iconst 0, 1) := by decide +kernel
theorem dX11_init_366 : decode cX11_init 366 = .ok (.iconst 0, 1) := by decide +kernel
theorem dX11_init_367 : decode cX11_init 367 = .ok (.invokestatic 77, 3) := by decide +kernel
theorem dX11_init_370 : decode cX11_init 370 = .ok (.invokevirtual 90, 3) := by decide +kernel
theorem dX11_init_373 : decode cX11_init 373 = .ok (.aload_n 0, 1) := by decide +kernel
theorem dX11_init_374 : decode cX11_init 374 = .ok (.getfield 10, 3) := by decide +kernel
theorem dX11_init_377 : decode cX11_init 377 = .ok (.iconst 1, 1) := by decide +kernel
theorem dX11_init_378 : decode cX11_init 378 = .ok (.invokevirtual 94, 3) := by decide +kernel
theorem dX11_init_381 : decode cX11_init 381 = .ok (.iconst 1, 1) := by decide +kernel
theorem dX11_init_382 : decode cX11_init 382 = .ok (.iconst 2, 1) := by decide +kernel
theorem dX11_init_383 : decode cX11_init 383 = .ok (.iconst 0, 1) := by decide +kernel
theorem dX11_init_384 : decode cX11_init 384 = .ok (.iconst 1, 1) := by decide +kernel
theorem dX11_init_385 : decode cX11_init 385 = .ok (.iconst 0, 1) := by decide +kernel
theorem dX11_init_386 : decode cX11_init 386 = .ok (.invokestatic 77, 3) := by decide +kernel
theorem dX11_init_389 : decode cX11_init 389 = .ok (.invokevirtual 90, 3) := by decide +kernel
theorem dX11_init_392 : decode cX11_init 392 = .ok (.aload_n 0, 1) := by decide +kernel
theorem dX11_init_393 : decode cX11_init 393 = .ok (.getfield 10, 3) := by decide +kernel
theorem dX11_init_396 : decode cX11_init 396 = .ok (.iconst 1, 1) := by decide +kernel
theorem dX11_init_397 : decode cX11_init 397 = .ok (.invokevirtual 94, 3) := by decide +kernel
theorem dX11_init_400 : decode cX11_init 400 = .ok (.iconst 2, 1) := by decide +kernel
theorem dX11_init_401 : decode cX11_init 401 = .ok (.iconst 1, 1) := by decide +kernel
theorem dX11_init_402 : decode cX11_init 402 = .ok (.iconst 1, 1) := by decide +kernel
theorem dX11_init_403 : decode cX11_init 403 = .ok (.iconst 0, 1) := by decide +kernel
theorem dX11_init_404 : decode cX11_init 404 = .ok (.iconst 0, 1) := by decide +kernel
theorem dX11_init_405 : decode cX11_init 405 = .ok (.invokestatic 77, 3) := by decide +kernel
theorem dX11_init_408 : decode cX11_init 408 = .ok (.invokevirtual 90, 3) := by decide +kernel
theorem dX11_init_411 : decode cX11_init 411 = .ok (.return_, 1) := by decide +kernel
theorem dX11_addTable_0 : decode cX11_addTable 0 = .ok (.iload_n 1, 1) := by decide +kernel
theorem dX11_addTable_1 : decode cX11_addTable 1 = .ok (.iconst 1, 1) := by decide +kernel
theorem dX11_addTable_2 : decode cX11_addTable 2 = .ok (.if_icmp .lt 8, 3) := by decide +kernel
theorem dX11_addTable_5 : decode cX11_addTable 5 = .ok (.iload_n 1, 1) := by decide +kernel
theorem dX11_addTable_6 : decode cX11_addTable 6 = .ok (.iconst 3, 1) := by decide +kernel
theorem dX11_addTable_7 : decode cX11_addTable 7 = .ok (.if_icmp .le 13, 3) := by decide +kernel
theorem dX11_addTable_10 : decode cX11_addTable 10 = .ok (.new 97, 3) := by decide +kernel
theorem dX11_addTable_13 : decode cX11_addTable 13 = .ok (.dup, 1) := by decide +kernel
theorem dX11_addTable_14 : decode cX11_addTable 14 = .ok (.ldc 99, 2) := by decide +kernel
theorem dX11_addTable_16 : decode cX11_addTable 16 = .ok (.invokespecial 101, 3) := by decide +kernel
theorem dX11_addTable_19 : decode cX11_addTable 19 = .ok (.athrow, 1) := by decide +kernel
theorem dX11_addTable_20 : decode cX11_addTable 20 = .ok (.aload_n 0, 1) := by decide +kernel
theorem dX11_addTable_21 : decode cX11_addTable 21 = .ok (.getfield 10, 3) := by decide +kernel
theorem dX11_addTable_24 : decode cX11_addTable 24 = .ok (.getfield 104, 3) := by decide +kernel
theorem dX11_addTable_27 : decode cX11_addTable 27 = .ok (.iconst 5, 1) := by decide +kernel
theorem dX11_addTable_28 : decode cX11_addTable 28 = .ok (.if_icmp .lt 13, 3) := by decide +kernel
theorem dX11_addTable_31 : decode cX11_addTable 31 = .ok (.new 107, 3) := by decide +kernel
theorem dX11_addTable_34 : decode cX11_addTable 34 = .ok (.dup, 1) := by decide +kernel
theorem dX11_addTable_35 : decode cX11_addTable 35 = .ok (.ldc 109, 2) := by decide +kernel
theorem dX11_addTable_37 : decode cX11_addTable 37 = .ok (.invokespecial 111, 3) := by decide +kernel
theorem dX11_addTable_40 : decode cX11_addTable 40 = .ok (.athrow, 1) := by decide +kernel
theorem dX11_addTable_41 : decode cX11_addTable 41 = .ok (.aload_n 0, 1) := by decide +kernel
theorem dX11_addTable_42 : decode cX11_addTable 42 = .ok (.invokevirtual 112, 3) := by decide +kernel
theorem dX11_addTable_45 : decode cX11_addTable 45 = .ok (.aload_n 0, 1) := by decide +kernel
theorem dX11_addTable_46 : decode cX11_addTable 46 = .ok (.getfield 26, 3) := by decide +kernel
theorem dX11_addTable_49 : decode cX11_addTable 49 = .ok (.invokevirtual 115, 3) := by decide +kernel
theorem dX11_addTable_52 : decode cX11_addTable 52 = .ok (.aload_n 0, 1) := by decide +kernel
theorem dX11_addTable_53 : decode cX11_addTable 53 = .ok (.getfield 10, 3) := by decide +kernel
theorem dX11_addTable_56 : decode cX11_addTable 56 = .ok (.iload_n 1, 1) := by decide +kernel
theorem dX11_addTable_57 : decode cX11_addTable 57 = .ok (.invokevirtual 62, 3) := by decide +kernel
theorem dX11_addTable_60 : decode cX11_addTable 60 = .ok (.aload_n 0, 1) := by decide +kernel
theorem dX11_addTable_61 : decode cX11_addTable 61 = .ok (.getfield 10, 3) := by decide +kernel
theorem dX11_addTable_64 : decode cX11_addTable 64 = .ok (.getfield 104, 3) := by decide +kernel
theorem dX11_addTable_67 : decode cX11_addTable 67 = .ok (.iconst 1, 1) := by decide +kernel
theorem dX11_addTable_68 : decode cX11_addTable 68 = .ok (.isub, 1) := by decide +kernel
theorem dX11_addTable_69 : decode cX11_addTable 69 = .ok (.ireturn, 1) := by decide +kernel
theorem dX11_addFact_0 : decode cX11_addFact 0 = .ok (.aload_n 0, 1) := by decide +kernel
theorem dX11_addFact_1 : decode cX11_addFact 1 = .ok (.iload_n 1, 1) := by decide +kernel
theorem dX11_addFact_2 : decode cX11_addFact 2 = .ok (.invokevirtual 118, 3) := by decide +kernel
theorem dX11_addFact_5 : decode cX11_addFact 5 = .ok (.aload_n 0, 1) := by decide +kernel
theorem dX11_addFact_6 : decode cX11_addFact 6 = .ok (.iload_n 1, 1) := by decide +kernel
theorem dX11_addFact_7 : decode cX11_addFact 7 = .ok (.iload_n 2, 1) := by decide +kernel
theorem dX11_addFact_8 : decode cX11_addFact 8 = .ok (.iload_n 3, 1) := by decide +kernel
theorem dX11_addFact_9 : decode cX11_addFact 9 = .ok (.iload 4, 2) := by decide +kernel
theorem dX11_addFact_11 : decode cX11_addFact 11 = .ok (.invokevirtual 121, 3) := by decide +kernel
theorem dX11_addFact_14 : decode cX11_addFact 14 = .ok (.iload_n 2, 1) := by decide +kernel
theorem dX11_addFact_15 : decode cX11_addFact 15 = .ok (.iload_n 3, 1) := by decide +kernel
theorem dX11_addFact_16 : decode cX11_addFact 16 = .ok (.iload 4, 2) := by decide +kernel
theorem dX11_addFact_18 : decode cX11_addFact 18 = .ok (.invokestatic 69, 3) := by decide +kernel
theorem dX11_addFact_21 : decode cX11_addFact 21 = .ok (.istore 5, 2) := by decide +kernel
theorem dX11_addFact_23 : decode cX11_addFact 23 = .ok (.aload_n 0, 1) := by decide +kernel
theorem dX11_addFact_24 : decode cX11_addFact 24 = .ok (.getfield 10, 3) := by decide +kernel
theorem dX11_addFact_27 : decode cX11_addFact 27 = .ok (.getfield 66, 3) := by decide +kernel
theorem dX11_addFact_30 : decode cX11_addFact 30 = .ok (.iload_n 1, 1) := by decide +kernel
theorem dX11_addFact_31 : decode cX11_addFact 31 = .ok (.iload 5, 2) := by decide +kernel
theorem dX11_addFact_33 : decode cX11_addFact 33 = .ok (.invokevirtual 125, 3) := by decide +kernel
theorem dX11_addFact_36 : decode cX11_addFact 36 = .ok (.ifCond .eq 13, 3) := by decide +kernel
theorem dX11_addFact_39 : decode cX11_addFact 39 = .ok (.new 107, 3) := by decide +kernel
theorem dX11_addFact_42 : decode cX11_addFact 42 = .ok (.dup, 1) := by decide +kernel
theorem dX11_addFact_43 : decode cX11_addFact 43 = .ok (.ldc 129, 2) := by decide +kernel
theorem dX11_addFact_45 : decode cX11_addFact 45 = .ok (.invokespecial 111, 3) := by decide +kernel
theorem dX11_addFact_48 : decode cX11_addFact 48 = .ok (.athrow, 1) := by decide +kernel
theorem dX11_addFact_49 : decode cX11_addFact 49 = .ok (.aload_n 0, 1) := by decide +kernel
theorem dX11_addFact_50 : decode cX11_addFact 50 = .ok (.getfield 10, 3) := by decide +kernel
theorem dX11_addFact_53 : decode cX11_addFact 53 = .ok (.getfield 66, 3) := by decide +kernel
theorem dX11_addFact_56 : decode cX11_addFact 56 = .ok (.iload_n 1, 1) := by decide +kernel
theorem dX11_addFact_57 : decode cX11_addFact 57 = .ok (.invokevirtual 131, 3) := by decide +kernel
theorem dX11_addFact_60 : decode cX11_addFact 60 = .ok (.bipush 60, 2) := by decide +kernel
theorem dX11_addFact_62 : decode cX11_addFact 62 = .ok (.if_icmp .lt 13, 3) := by decide +kernel
theorem dX11_addFact_65 : decode cX11_addFact 65 = .ok (.new 107, 3) := by decide +kernel
theorem dX11_addFact_68 : decode cX11_addFact 68 = .ok (.dup, 1) := by decide +kernel
theorem dX11_addFact_69 : decode cX11_addFact 69 = .ok (.ldc 135, 2) := by decide +kernel
theorem dX11_addFact_71 : decode cX11_addFact 71 = .ok (.invokespecial 111, 3) := by decide +kernel
theorem dX11_addFact_74 : decode cX11_addFact 74 = .ok (.athrow, 1) := by decide +kernel
theorem dX11_addFact_75 : decode cX11_addFact 75 = .ok (.aload_n 0, 1) := by decide +kernel
theorem dX11_addFact_76 : decode cX11_addFact 76 = .ok (.invokevirtual 112, 3) := by decide +kernel
theorem dX11_addFact_79 : decode cX11_addFact 79 = .ok (.aload_n 0, 1) := by decide +kernel
theorem dX11_addFact_80 : decode cX11_addFact 80 = .ok (.getfield 26, 3) := by decide +kernel
theorem dX11_addFact_83 : decode cX11_addFact 83 = .ok (.invokevirtual 115, 3) := by decide +kernel
theorem dX11_addFact_86 : decode cX11_addFact 86 = .ok (.aload_n 0, 1) := by decide +kernel
theorem dX11_addFact_87 : decode cX11_addFact 87 = .ok (.getfield 10, 3) := by decide +kernel
theorem dX11_addFact_90 : decode cX11_addFact 90 = .ok (.getfield 66, 3) := by decide +kernel
theorem dX11_addFact_93 : decode cX11_addFact 93 = .ok (.iload_n 1, 1) := by decide +kernel
theorem dX11_addFact_94 : decode cX11_addFact 94 = .ok (.iload 5, 2) := by decide +kernel
theorem dX11_addFact_96 : decode cX11_addFact 96 = .ok (.invokevirtual 73, 3) := by decide +kernel
theorem dX11_addFact_99 : decode cX11_addFact 99 = .ok (.aload_n 0, 1) := by decide +kernel
theorem dX11_addFact_100 : decode cX11_addFact 100 = .ok (.getfield 10, 3) := by decide +kernel
theorem dX11_addFact_103 : decode cX11_addFact 103 = .ok (.getfield 66, 3) := by decide +kernel
theorem dX11_addFact_106 : decode cX11_addFact 106 = .ok (.iload_n 1, 1) := by decide +kernel
theorem dX11_addFact_107 : decode cX11_addFact 107 = .ok (.invokevirtual 131, 3) := by decide +kernel
theorem dX11_addFact_110 : decode cX11_addFact 110 = .ok (.ireturn, 1) := by decide +kernel
theorem dX11_removeFact_0 : decode cX11_removeFact 0 = .ok (.aload_n 0, 1) := by decide +kernel
theorem dX11_removeFact_1 : decode cX11_removeFact 1 = .ok (.iload_n 1, 1) := by decide +kernel
theorem dX11_removeFact_2 : decode cX11_removeFact 2 = .ok (.invokevirtual 118, 3) := by decide +kernel
theorem dX11_removeFact_5 : decode cX11_removeFact 5 = .ok (.aload_n 0, 1) := by decide +kernel
theorem dX11_removeFact_6 : decode cX11_removeFact 6 = .ok (.iload_n 1, 1) := by decide +kernel
theorem dX11_removeFact_7 : decode cX11_removeFact 7 = .ok (.iload_n 2, 1) := by decide +kernel
theorem dX11_removeFact_8 : decode cX11_removeFact 8 = .ok (.iload_n 3, 1) := by decide +kernel
theorem dX11_removeFact_9 : decode cX11_removeFact 9 = .ok (.iload 4, 2) := by decide +kernel
theorem dX11_removeFact_11 : decode cX11_removeFact 11 = .ok (.invokevirtual 121, 3) := by decide +kernel
theorem dX11_removeFact_14 : decode cX11_removeFact 14 = .ok (.iload_n 2, 1) := by decide +kernel
theorem dX11_removeFact_15 : decode cX11_removeFact 15 = .ok (.iload_n 3, 1) := by decide +kernel
theorem dX11_removeFact_16 : decode cX11_removeFact 16 = .ok (.iload 4, 2) := by decide +kernel
theorem dX11_removeFact_18 : decode cX11_removeFact 18 = .ok (.invokestatic 69, 3) := by decide +kernel
theorem dX11_removeFact_21 : decode cX11_removeFact 21 = .ok (.istore 5, 2) := by decide +kernel
theorem dX11_removeFact_23 : decode cX11_removeFact 23 = .ok (.aload_n 0, 1) := by decide +kernel
theorem dX11_removeFact_24 : decode cX11_removeFact 24 = .ok (.getfield 10, 3) := by decide +kernel
theorem dX11_removeFact_27 : decode cX11_removeFact 27 = .ok (.getfield 66, 3) := by decide +kernel
theorem dX11_removeFact_30 : decode cX11_removeFact 30 = .ok (.iload_n 1, 1) := by decide +kernel
theorem dX11_removeFact_31 : decode cX11_removeFact 31 = .ok (.iload 5, 2) := by decide +kernel
theorem dX11_removeFact_33 : decode cX11_removeFact 33 = .ok (.invokevirtual 125, 3) := by decide +kernel
theorem dX11_removeFact_36 : decode cX11_removeFact 36 = .ok (.ifCond .ne 13, 3) := by decide +kernel
theorem dX11_removeFact_39 : decode cX11_removeFact 39 = .ok (.new 137, 3) := by decide +kernel
theorem dX11_removeFact_42 : decode cX11_removeFact 42 = .ok (.dup, 1) := by decide +kernel
theorem dX11_removeFact_43 : decode cX11_removeFact 43 = .ok (.ldc 139, 2) := by decide +kernel
theorem dX11_removeFact_45 : decode cX11_removeFact 45 = .ok (.invokespecial 141, 3) := by decide +kernel
theorem dX11_removeFact_48 : decode cX11_removeFact 48 = .ok (.athrow, 1) := by decide +kernel
theorem dX11_removeFact_49 : decode cX11_removeFact 49 = .ok (.aload_n 0, 1) := by decide +kernel
theorem dX11_removeFact_50 : decode cX11_removeFact 50 = .ok (.invokevirtual 112, 3) := by decide +kernel
theorem dX11_removeFact_53 : decode cX11_removeFact 53 = .ok (.aload_n 0, 1) := by decide +kernel
theorem dX11_removeFact_54 : decode cX11_removeFact 54 = .ok (.getfield 26, 3) := by decide +kernel
theorem dX11_removeFact_57 : decode cX11_removeFact 57 = .ok (.invokevirtual 115, 3) := by decide +kernel
theorem dX11_removeFact_60 : decode cX11_removeFact 60 = .ok (.aload_n 0, 1) := by decide +kernel
theorem dX11_removeFact_61 : decode cX11_removeFact 61 = .ok (.getfield 10, 3) := by decide +kernel
theorem dX11_removeFact_64 : decode cX11_removeFact 64 = .ok (.getfield 66, 3) := by decide +kernel
theorem dX11_removeFact_67 : decode cX11_removeFact 67 = .ok (.iload_n 1, 1) := by decide +kernel
theorem dX11_removeFact_68 : decode cX11_removeFact 68 = .ok (.iload 5, 2) := by decide +kernel
theorem dX11_removeFact_70 : decode cX11_removeFact 70 = .ok (.invokevirtual 142, 3) := by decide +kernel
theorem dX11_removeFact_73 : decode cX11_removeFact 73 = .ok (.aload_n 0, 1) := by decide +kernel
theorem dX11_removeFact_74 : decode cX11_removeFact 74 = .ok (.getfield 10, 3) := by decide +kernel
theorem dX11_removeFact_77 : decode cX11_removeFact 77 = .ok (.getfield 66, 3) := by decide +kernel
theorem dX11_removeFact_80 : decode cX11_removeFact 80 = .ok (.iload_n 1, 1) := by decide +kernel
theorem dX11_removeFact_81 : decode cX11_removeFact 81 = .ok (.invokevirtual 131, 3) := by decide +kernel
theorem dX11_removeFact_84 : decode cX11_removeFact 84 = .ok (.ireturn, 1) := by decide +kernel
theorem dX11_addAtom_0 : decode cX11_addAtom 0 = .ok (.aload_n 0, 1) := by decide +kernel
theorem dX11_addAtom_1 : decode cX11_addAtom 1 = .ok (.iload_n 1, 1) := by decide +kernel
theorem dX11_addAtom_2 : decode cX11_addAtom 2 = .ok (.invokevirtual 145, 3) := by decide +kernel
theorem dX11_addAtom_5 : decode cX11_addAtom 5 = .ok (.aload_n 0, 1) := by decide +kernel
theorem dX11_addAtom_6 : decode cX11_addAtom 6 = .ok (.iload_n 2, 1) := by decide +kernel
theorem dX11_addAtom_7 : decode cX11_addAtom 7 = .ok (.invokevirtual 118, 3) := by decide +kernel
theorem dX11_addAtom_10 : decode cX11_addAtom 10 = .ok (.aload_n 0, 1) := by decide +kernel
theorem dX11_addAtom_11 : decode cX11_addAtom 11 = .ok (.iload_n 2, 1) := by decide +kernel
theorem dX11_addAtom_12 : decode cX11_addAtom 12 = .ok (.iload_n 3, 1) := by decide +kernel
theorem dX11_addAtom_13 : decode cX11_addAtom 13 = .ok (.iload 4, 2) := by decide +kernel
theorem dX11_addAtom_15 : decode cX11_addAtom 15 = .ok (.iload 5, 2) := by decide +kernel
theorem dX11_addAtom_17 : decode cX11_addAtom 17 = .ok (.invokevirtual 148, 3) := by decide +kernel
theorem dX11_addAtom_20 : decode cX11_addAtom 20 = .ok (.aload_n 0, 1) := by decide +kernel
theorem dX11_addAtom_21 : decode cX11_addAtom 21 = .ok (.getfield 10, 3) := by decide +kernel
theorem dX11_addAtom_24 : decode cX11_addAtom 24 = .ok (.iload_n 1, 1) := by decide +kernel
theorem dX11_addAtom_25 : decode cX11_addAtom 25 = .ok (.invokevirtual 94, 3) := by decide +kernel
theorem dX11_addAtom_28 : decode cX11_addAtom 28 = .ok (.astore 6, 2) := by decide +kernel
theorem dX11_addAtom_30 : decode cX11_addAtom 30 = .ok (.aload 6, 2) := by decide +kernel
theorem dX11_addAtom_32 : decode cX11_addAtom 32 = .ok (.getfield 151, 3) := by decide +kernel
theorem dX11_addAtom_35 : decode cX11_addAtom 35 = .ok (.iconst 5, 1) := by decide +kernel
theorem dX11_addAtom_36 : decode cX11_addAtom 36 = .ok (.if_icmp .lt 13, 3) := by decide +kernel
theorem dX11_addAtom_39 : decode cX11_addAtom 39 = .ok (.new 107, 3) := by decide +kernel
theorem dX11_addAtom_42 : decode cX11_addAtom 42 = .ok (.dup, 1) := by decide +kernel
theorem dX11_addAtom_43 : decode cX11_addAtom 43 = .ok (.ldc 153, 2) := by decide +kernel
theorem dX11_addAtom_45 : decode cX11_addAtom 45 = .ok (.invokespecial 111, 3) := by decide +kernel
theorem dX11_addAtom_48 : decode cX11_addAtom 48 = .ok (.athrow, 1) := by decide +kernel
theorem dX11_addAtom_49 : decode cX11_addAtom 49 = .ok (.aload_n 0, 1) := by decide +kernel
theorem dX11_addAtom_50 : decode cX11_addAtom 50 = .ok (.invokevirtual 112, 3) := by decide +kernel
theorem dX11_addAtom_53 : decode cX11_addAtom 53 = .ok (.aload 6, 2) := by decide +kernel
theorem dX11_addAtom_55 : decode cX11_addAtom 55 = .ok (.iload_n 2, 1) := by decide +kernel
theorem dX11_addAtom_56 : decode cX11_addAtom 56 = .ok (.aload_n 0, 1) := by decide +kernel
theorem dX11_addAtom_57 : decode cX11_addAtom 57 = .ok (.getfield 10, 3) := by decide +kernel
theorem dX11_addAtom_60 : decode cX11_addAtom 60 = .ok (.getfield 155, 3) := by decide +kernel
theorem dX11_addAtom_63 : decode cX11_addAtom 63 = .ok (.iload_n 2, 1) := by decide +kernel
theorem dX11_addAtom_64 : decode cX11_addAtom 64 = .ok (.invokevirtual 159, 3) := by decide +kernel
theorem dX11_addAtom_67 : decode cX11_addAtom 67 = .ok (.iload_n 3, 1) := by decide +kernel
theorem dX11_addAtom_68 : decode cX11_addAtom 68 = .ok (.iload 4, 2) := by decide +kernel
theorem dX11_addAtom_70 : decode cX11_addAtom 70 = .ok (.iload 5, 2) := by decide +kernel
theorem dX11_addAtom_72 : decode cX11_addAtom 72 = .ok (.invokestatic 77, 3) := by decide +kernel
theorem dX11_addAtom_75 : decode cX11_addAtom 75 = .ok (.invokevirtual 90, 3) := by decide +kernel
theorem dX11_addAtom_78 : decode cX11_addAtom 78 = .ok (.aload 6, 2) := by decide +kernel
theorem dX11_addAtom_80 : decode cX11_addAtom 80 = .ok (.getfield 151, 3) := by decide +kernel
theorem dX11_addAtom_83 : decode cX11_addAtom 83 = .ok (.iconst 1, 1) := by decide +kernel
theorem dX11_addAtom_84 : decode cX11_addAtom 84 = .ok (.isub, 1) := by decide +kernel
theorem dX11_addAtom_85 : decode cX11_addAtom 85 = .ok (.ireturn, 1) := by decide +kernel
theorem dX11_clearQuery_0 : decode cX11_clearQuery 0 = .ok (.aload_n 0, 1) := by decide +kernel
theorem dX11_clearQuery_1 : decode cX11_clearQuery 1 = .ok (.iload_n 1, 1) := by decide +kernel
theorem dX11_clearQuery_2 : decode cX11_clearQuery 2 = .ok (.invokevirtual 145, 3) := by decide +kernel
theorem dX11_clearQuery_5 : decode cX11_clearQuery 5 = .ok (.aload_n 0, 1) := by decide +kernel
theorem dX11_clearQuery_6 : decode cX11_clearQuery 6 = .ok (.getfield 10, 3) := by decide +kernel
theorem dX11_clearQuery_9 : decode cX11_clearQuery 9 = .ok (.iload_n 1, 1) := by decide +kernel
theorem dX11_clearQuery_10 : decode cX11_clearQuery 10 = .ok (.invokevirtual 94, 3) := by decide +kernel
theorem dX11_clearQuery_13 : decode cX11_clearQuery 13 = .ok (.astore_n 2, 1) := by decide +kernel
theorem dX11_clearQuery_14 : decode cX11_clearQuery 14 = .ok (.aload_n 2, 1) := by decide +kernel
theorem dX11_clearQuery_15 : decode cX11_clearQuery 15 = .ok (.getfield 151, 3) := by decide +kernel
theorem dX11_clearQuery_18 : decode cX11_clearQuery 18 = .ok (.istore_n 3, 1) := by decide +kernel
theorem dX11_clearQuery_19 : decode cX11_clearQuery 19 = .ok (.aload_n 0, 1) := by decide +kernel
theorem dX11_clearQuery_20 : decode cX11_clearQuery 20 = .ok (.invokevirtual 112, 3) := by decide +kernel
theorem dX11_clearQuery_23 : decode cX11_clearQuery 23 = .ok (.aload_n 2, 1) := by decide +kernel
theorem dX11_clearQuery_24 : decode cX11_clearQuery 24 = .ok (.invokevirtual 164, 3) := by decide +kernel
theorem dX11_clearQuery_27 : decode cX11_clearQuery 27 = .ok (.iload_n 3, 1) := by decide +kernel
theorem dX11_clearQuery_28 : decode cX11_clearQuery 28 = .ok (.ireturn, 1) := by decide +kernel
theorem dX11_setOrder_0 : decode cX11_setOrder 0 = .ok (.aload_n 0, 1) := by decide +kernel
theorem dX11_setOrder_1 : decode cX11_setOrder 1 = .ok (.iload_n 1, 1) := by decide +kernel
theorem dX11_setOrder_2 : decode cX11_setOrder 2 = .ok (.invokevirtual 145, 3) := by decide +kernel
theorem dX11_setOrder_5 : decode cX11_setOrder 5 = .ok (.iload_n 2, 1) := by decide +kernel
theorem dX11_setOrder_6 : decode cX11_setOrder 6 = .ok (.invokestatic 167, 3) := by decide +kernel
theorem dX11_setOrder_9 : decode cX11_setOrder 9 = .ok (.ifCond .ne 13, 3) := by decide +kernel
theorem dX11_setOrder_12 : decode cX11_setOrder 12 = .ok (.new 97, 3) := by decide +kernel
theorem dX11_setOrder_15 : decode cX11_setOrder 15 = .ok (.dup, 1) := by decide +kernel
theorem dX11_setOrder_16 : decode cX11_setOrder 16 = .ok (.ldc 171, 2) := by decide +kernel
theorem dX11_setOrder_18 : decode cX11_setOrder 18 = .ok (.invokespecial 101, 3) := by decide +kernel
theorem dX11_setOrder_21 : decode cX11_setOrder 21 = .ok (.athrow, 1) := by decide +kernel
theorem dX11_setOrder_22 : decode cX11_setOrder 22 = .ok (.aload_n 0, 1) := by decide +kernel
theorem dX11_setOrder_23 : decode cX11_setOrder 23 = .ok (.getfield 10, 3) := by decide +kernel
theorem dX11_setOrder_26 : decode cX11_setOrder 26 = .ok (.getfield 173, 3) := by decide +kernel
theorem dX11_setOrder_29 : decode cX11_setOrder 29 = .ok (.iload_n 1, 1) := by decide +kernel
theorem dX11_setOrder_30 : decode cX11_setOrder 30 = .ok (.invokevirtual 159, 3) := by decide +kernel
theorem dX11_setOrder_33 : decode cX11_setOrder 33 = .ok (.istore_n 3, 1) := by decide +kernel
theorem dX11_setOrder_34 : decode cX11_setOrder 34 = .ok (.aload_n 0, 1) := by decide +kernel
theorem dX11_setOrder_35 : decode cX11_setOrder 35 = .ok (.invokevirtual 112, 3) := by decide +kernel
theorem dX11_setOrder_38 : decode cX11_setOrder 38 = .ok (.aload_n 0, 1) := by decide +kernel
theorem dX11_setOrder_39 : decode cX11_setOrder 39 = .ok (.getfield 10, 3) := by decide +kernel
theorem dX11_setOrder_42 : decode cX11_setOrder 42 = .ok (.getfield 173, 3) := by decide +kernel
theorem dX11_setOrder_45 : decode cX11_setOrder 45 = .ok (.iload_n 1, 1) := by decide +kernel
theorem dX11_setOrder_46 : decode cX11_setOrder 46 = .ok (.iload_n 2, 1) := by decide +kernel
theorem dX11_setOrder_47 : decode cX11_setOrder 47 = .ok (.invokevirtual 176, 3) := by decide +kernel
theorem dX11_setOrder_50 : decode cX11_setOrder 50 = .ok (.iload_n 3, 1) := by decide +kernel
theorem dX11_setOrder_51 : decode cX11_setOrder 51 = .ok (.ireturn, 1) := by decide +kernel
theorem dX11_clearIdle_0 : decode cX11_clearIdle 0 = .ok (.aload_n 0, 1) := by decide +kernel
theorem dX11_clearIdle_1 : decode cX11_clearIdle 1 = .ok (.iload_n 1, 1) := by decide +kernel
theorem dX11_clearIdle_2 : decode cX11_clearIdle 2 = .ok (.invokevirtual 145, 3) := by decide +kernel
theorem dX11_clearIdle_5 : decode cX11_clearIdle 5 = .ok (.aload_n 0, 1) := by decide +kernel
theorem dX11_clearIdle_6 : decode cX11_clearIdle 6 = .ok (.iload_n 1, 1) := by decide +kernel
theorem dX11_clearIdle_7 : decode cX11_clearIdle 7 = .ok (.iload_n 2, 1) := by decide +kernel
theorem dX11_clearIdle_8 : decode cX11_clearIdle 8 = .ok (.invokevirtual 179, 3) := by decide +kernel
theorem dX11_clearIdle_11 : decode cX11_clearIdle 11 = .ok (.aload_n 0, 1) := by decide +kernel
theorem dX11_clearIdle_12 : decode cX11_clearIdle 12 = .ok (.getfield 26, 3) := by decide +kernel
theorem dX11_clearIdle_15 : decode cX11_clearIdle 15 = .ok (.aload_n 0, 1) := by decide +kernel
theorem dX11_clearIdle_16 : decode cX11_clearIdle 16 = .ok (.getfield 10, 3) := by decide +kernel
theorem dX11_clearIdle_19 : decode cX11_clearIdle 19 = .ok (.invokevirtual 182, 3) := by decide +kernel
theorem dX11_clearIdle_22 : decode cX11_clearIdle 22 = .ok (.aload_n 0, 1) := by decide +kernel
theorem dX11_clearIdle_23 : decode cX11_clearIdle 23 = .ok (.iload_n 1, 1) := by decide +kernel
theorem dX11_clearIdle_24 : decode cX11_clearIdle 24 = .ok (.invokevirtual 186, 3) := by decide +kernel
theorem dX11_clearIdle_27 : decode cX11_clearIdle 27 = .ok (.aload_n 0, 1) := by decide +kernel
theorem dX11_clearIdle_28 : decode cX11_clearIdle 28 = .ok (.getfield 10, 3) := by decide +kernel
theorem dX11_clearIdle_31 : decode cX11_clearIdle 31 = .ok (.iload_n 1, 1) := by decide +kernel
theorem dX11_clearIdle_32 : decode cX11_clearIdle 32 = .ok (.invokevirtual 94, 3) := by decide +kernel
theorem dX11_clearIdle_35 : decode cX11_clearIdle 35 = .ok (.iload_n 2, 1) := by decide +kernel
theorem dX11_clearIdle_36 : decode cX11_clearIdle 36 = .ok (.invokevirtual 189, 3) := by decide +kernel
theorem dX11_clearIdle_39 : decode cX11_clearIdle 39 = .ok (.istore_n 3, 1) := by decide +kernel
theorem dX11_clearIdle_40 : decode cX11_clearIdle 40 = .ok (.aload_n 0, 1) := by decide +kernel
theorem dX11_clearIdle_41 : decode cX11_clearIdle 41 = .ok (.iload_n 3, 1) := by decide +kernel
theorem dX11_clearIdle_42 : decode cX11_clearIdle 42 = .ok (.invokevirtual 190, 3) := by decide +kernel
theorem dX11_clearIdle_45 : decode cX11_clearIdle 45 = .ok (.aload_n 0, 1) := by decide +kernel
theorem dX11_clearIdle_46 : decode cX11_clearIdle 46 = .ok (.invokevirtual 112, 3) := by decide +kernel
theorem dX11_clearIdle_49 : decode cX11_clearIdle 49 = .ok (.aload_n 0, 1) := by decide +kernel
theorem dX11_clearIdle_50 : decode cX11_clearIdle 50 = .ok (.getfield 26, 3) := by decide +kernel
theorem dX11_clearIdle_53 : decode cX11_clearIdle 53 = .ok (.invokevirtual 115, 3) := by decide +kernel
theorem dX11_clearIdle_56 : decode cX11_clearIdle 56 = .ok (.iload_n 3, 1) := by decide +kernel
theorem dX11_clearIdle_57 : decode cX11_clearIdle 57 = .ok (.invokestatic 193, 3) := by decide +kernel
theorem dX11_clearIdle_60 : decode cX11_clearIdle 60 = .ok (.istore 4, 2) := by decide +kernel
theorem dX11_clearIdle_62 : decode cX11_clearIdle 62 = .ok (.aload_n 0, 1) := by decide +kernel
theorem dX11_clearIdle_63 : decode cX11_clearIdle 63 = .ok (.getfield 10, 3) := by decide +kernel
theorem dX11_clearIdle_66 : decode cX11_clearIdle 66 = .ok (.getfield 66, 3) := by decide +kernel
theorem dX11_clearIdle_69 : decode cX11_clearIdle 69 = .ok (.iload 4, 2) := by decide +kernel
theorem dX11_clearIdle_71 : decode cX11_clearIdle 71 = .ok (.invokevirtual 131, 3) := by decide +kernel
theorem dX11_clearIdle_74 : decode cX11_clearIdle 74 = .ok (.istore 5, 2) := by decide +kernel
theorem dX11_clearIdle_76 : decode cX11_clearIdle 76 = .ok (.aload_n 0, 1) := by decide +kernel
theorem dX11_clearIdle_77 : decode cX11_clearIdle 77 = .ok (.getfield 10, 3) := by decide +kernel
theorem dX11_clearIdle_80 : decode cX11_clearIdle 80 = .ok (.getfield 66, 3) := by decide +kernel
theorem dX11_clearIdle_83 : decode cX11_clearIdle 83 = .ok (.iload 4, 2) := by decide +kernel
theorem dX11_clearIdle_85 : decode cX11_clearIdle 85 = .ok (.aload_n 0, 1) := by decide +kernel
theorem dX11_clearIdle_86 : decode cX11_clearIdle 86 = .ok (.getfield 54, 3) := by decide +kernel
theorem dX11_clearIdle_89 : decode cX11_clearIdle 89 = .ok (.invokevirtual 196, 3) := by decide +kernel
theorem dX11_clearIdle_92 : decode cX11_clearIdle 92 = .ok (.iload 5, 2) := by decide +kernel
theorem dX11_clearIdle_94 : decode cX11_clearIdle 94 = .ok (.aload_n 0, 1) := by decide +kernel
theorem dX11_clearIdle_95 : decode cX11_clearIdle 95 = .ok (.getfield 10, 3) := by decide +kernel
theorem dX11_clearIdle_98 : decode cX11_clearIdle 98 = .ok (.getfield 66, 3) := by decide +kernel
theorem dX11_clearIdle_101 : decode cX11_clearIdle 101 = .ok (.iload 4, 2) := by decide +kernel
theorem dX11_clearIdle_103 : decode cX11_clearIdle 103 = .ok (.invokevirtual 131, 3) := by decide +kernel
theorem dX11_clearIdle_106 : decode cX11_clearIdle 106 = .ok (.isub, 1) := by decide +kernel
theorem dX11_clearIdle_107 : decode cX11_clearIdle 107 = .ok (.ireturn, 1) := by decide +kernel
theorem dX11_addRule_0 : decode cX11_addRule 0 = .ok (.aload_n 0, 1) := by decide +kernel
theorem dX11_addRule_1 : decode cX11_addRule 1 = .ok (.iload_n 1, 1) := by decide +kernel
theorem dX11_addRule_2 : decode cX11_addRule 2 = .ok (.invokevirtual 118, 3) := by decide +kernel
theorem dX11_addRule_5 : decode cX11_addRule 5 = .ok (.aload_n 0, 1) := by decide +kernel
theorem dX11_addRule_6 : decode cX11_addRule 6 = .ok (.iload_n 1, 1) := by decide +kernel
theorem dX11_addRule_7 : decode cX11_addRule 7 = .ok (.iload_n 2, 1) := by decide +kernel
theorem dX11_addRule_8 : decode cX11_addRule 8 = .ok (.iload_n 3, 1) := by decide +kernel
theorem dX11_addRule_9 : decode cX11_addRule 9 = .ok (.iload 4, 2) := by decide +kernel
theorem dX11_addRule_11 : decode cX11_addRule 11 = .ok (.invokevirtual 148, 3) := by decide +kernel
theorem dX11_addRule_14 : decode cX11_addRule 14 = .ok (.aload_n 0, 1) := by decide +kernel
theorem dX11_addRule_15 : decode cX11_addRule 15 = .ok (.getfield 10, 3) := by decide +kernel
theorem dX11_addRule_18 : decode cX11_addRule 18 = .ok (.getfield 200, 3) := by decide +kernel
theorem dX11_addRule_21 : decode cX11_addRule 21 = .ok (.iconst 5, 1) := by decide +kernel
theorem dX11_addRule_22 : decode cX11_addRule 22 = .ok (.if_icmp .lt 13, 3) := by decide +kernel
theorem dX11_addRule_25 : decode cX11_addRule 25 = .ok (.new 107, 3) := by decide +kernel
theorem dX11_addRule_28 : decode cX11_addRule 28 = .ok (.dup, 1) := by decide +kernel
theorem dX11_addRule_29 : decode cX11_addRule 29 = .ok (.ldc 203, 2) := by decide +kernel
theorem dX11_addRule_31 : decode cX11_addRule 31 = .ok (.invokespecial 111, 3) := by decide +kernel
theorem dX11_addRule_34 : decode cX11_addRule 34 = .ok (.athrow, 1) := by decide +kernel
theorem dX11_addRule_35 : decode cX11_addRule 35 = .ok (.aload_n 0, 1) := by decide +kernel
theorem dX11_addRule_36 : decode cX11_addRule 36 = .ok (.invokevirtual 112, 3) := by decide +kernel
theorem dX11_addRule_39 : decode cX11_addRule 39 = .ok (.aload_n 0, 1) := by decide +kernel
theorem dX11_addRule_40 : decode cX11_addRule 40 = .ok (.getfield 26, 3) := by decide +kernel
theorem dX11_addRule_43 : decode cX11_addRule 43 = .ok (.invokevirtual 115, 3) := by decide +kernel
theorem dX11_addRule_46 : decode cX11_addRule 46 = .ok (.aload_n 0, 1) := by decide +kernel
theorem dX11_addRule_47 : decode cX11_addRule 47 = .ok (.getfield 10, 3) := by decide +kernel
theorem dX11_addRule_50 : decode cX11_addRule 50 = .ok (.iload_n 1, 1) := by decide +kernel
theorem dX11_addRule_51 : decode cX11_addRule 51 = .ok (.aload_n 0, 1) := by decide +kernel
theorem dX11_addRule_52 : decode cX11_addRule 52 = .ok (.getfield 10, 3) := by decide +kernel
theorem dX11_addRule_55 : decode cX11_addRule 55 = .ok (.getfield 155, 3) := by decide +kernel
theorem dX11_addRule_58 : decode cX11_addRule 58 = .ok (.iload_n 1, 1) := by decide +kernel
theorem dX11_addRule_59 : decode cX11_addRule 59 = .ok (.invokevirtual 159, 3) := by decide +kernel
theorem dX11_addRule_62 : decode cX11_addRule 62 = .ok (.iload_n 2, 1) := by decide +kernel
theorem dX11_addRule_63 : decode cX11_addRule 63 = .ok (.iload_n 3, 1) := by decide +kernel
theorem dX11_addRule_64 : decode cX11_addRule 64 = .ok (.iload 4, 2) := by decide +kernel
theorem dX11_addRule_66 : decode cX11_addRule 66 = .ok (.invokestatic 77, 3) := by decide +kernel
theorem dX11_addRule_69 : decode cX11_addRule 69 = .ok (.invokevirtual 83, 3) := by decide +kernel
theorem dX11_addRule_72 : decode cX11_addRule 72 = .ok (.aload_n 0, 1) := by decide +kernel
theorem dX11_addRule_73 : decode cX11_addRule 73 = .ok (.getfield 10, 3) := by decide +kernel
theorem dX11_addRule_76 : decode cX11_addRule 76 = .ok (.getfield 200, 3) := by decide +kernel
theorem dX11_addRule_79 : decode cX11_addRule 79 = .ok (.iconst 1, 1) := by decide +kernel
theorem dX11_addRule_80 : decode cX11_addRule 80 = .ok (.isub, 1) := by decide +kernel
theorem dX11_addRule_81 : decode cX11_addRule 81 = .ok (.ireturn, 1) := by decide +kernel
theorem dX11_addRuleAtom_0 : decode cX11_addRuleAtom 0 = .ok (.aload_n 0, 1) := by decide +kernel
theorem dX11_addRuleAtom_1 : decode cX11_addRuleAtom 1 = .ok (.iload_n 1, 1) := by decide +kernel
theorem dX11_addRuleAtom_2 : decode cX11_addRuleAtom 2 = .ok (.invokevirtual 205, 3) := by decide +kernel
theorem dX11_addRuleAtom_5 : decode cX11_addRuleAtom 5 = .ok (.aload_n 0, 1) := by decide +kernel
theorem dX11_addRuleAtom_6 : decode cX11_addRuleAtom 6 = .ok (.iload_n 2, 1) := by decide +kernel
theorem dX11_addRuleAtom_7 : decode cX11_addRuleAtom 7 = .ok (.invokevirtual 118, 3) := by decide +kernel
theorem dX11_addRuleAtom_10 : decode cX11_addRuleAtom 10 = .ok (.aload_n 0, 1) := by decide +kernel
theorem dX11_addRuleAtom_11 : decode cX11_addRuleAtom 11 = .ok (.iload_n 2, 1) := by decide +kernel
theorem dX11_addRuleAtom_12 : decode cX11_addRuleAtom 12 = .ok (.iload_n 3, 1) := by decide +kernel
theorem dX11_addRuleAtom_13 : decode cX11_addRuleAtom 13 = .ok (.iload 4, 2) := by decide +kernel
theorem dX11_addRuleAtom_15 : decode cX11_addRuleAtom 15 = .ok (.iload 5, 2) := by decide +kernel
theorem dX11_addRuleAtom_17 : decode cX11_addRuleAtom 17 = .ok (.invokevirtual 148, 3) := by decide +kernel
theorem dX11_addRuleAtom_20 : decode cX11_addRuleAtom 20 = .ok (.aload_n 0, 1) := by decide +kernel
theorem dX11_addRuleAtom_21 : decode cX11_addRuleAtom 21 = .ok (.getfield 10, 3) := by decide +kernel
theorem dX11_addRuleAtom_24 : decode cX11_addRuleAtom 24 = .ok (.iload_n 1, 1) := by decide +kernel
theorem dX11_addRuleAtom_25 : decode cX11_addRuleAtom 25 = .ok (.invokevirtual 86, 3) := by decide +kernel
theorem dX11_addRuleAtom_28 : decode cX11_addRuleAtom 28 = .ok (.astore 7, 2) := by decide +kernel
theorem dX11_addRuleAtom_30 : decode cX11_addRuleAtom 30 = .ok (.aload 7, 2) := by decide +kernel
theorem dX11_addRuleAtom_32 : decode cX11_addRuleAtom 32 = .ok (.getfield 151, 3) := by decide +kernel
theorem dX11_addRuleAtom_35 : decode cX11_addRuleAtom 35 = .ok (.iconst 4, 1) := by decide +kernel
theorem dX11_addRuleAtom_36 : decode cX11_addRuleAtom 36 = .ok (.if_icmp .lt 13, 3) := by decide +kernel
theorem dX11_addRuleAtom_39 : decode cX11_addRuleAtom 39 = .ok (.new 107, 3) := by decide +kernel
theorem dX11_addRuleAtom_42 : decode cX11_addRuleAtom 42 = .ok (.dup, 1) := by decide +kernel
theorem dX11_addRuleAtom_43 : decode cX11_addRuleAtom 43 = .ok (.ldc 208, 2) := by decide +kernel
theorem dX11_addRuleAtom_45 : decode cX11_addRuleAtom 45 = .ok (.invokespecial 111, 3) := by decide +kernel
theorem dX11_addRuleAtom_48 : decode cX11_addRuleAtom 48 = .ok (.athrow, 1) := by decide +kernel
theorem dX11_addRuleAtom_49 : decode cX11_addRuleAtom 49 = .ok (.iload_n 2, 1) := by decide +kernel
theorem dX11_addRuleAtom_50 : decode cX11_addRuleAtom 50 = .ok (.aload_n 0, 1) := by decide +kernel
theorem dX11_addRuleAtom_51 : decode cX11_addRuleAtom 51 = .ok (.getfield 10, 3) := by decide +kernel
theorem dX11_addRuleAtom_54 : decode cX11_addRuleAtom 54 = .ok (.getfield 155, 3) := by decide +kernel
theorem dX11_addRuleAtom_57 : decode cX11_addRuleAtom 57 = .ok (.iload_n 2, 1) := by decide +kernel
theorem dX11_addRuleAtom_58 : decode cX11_addRuleAtom 58 = .ok (.invokevirtual 159, 3) := by decide +kernel
theorem dX11_addRuleAtom_61 : decode cX11_addRuleAtom 61 = .ok (.iload_n 3, 1) := by decide +kernel
theorem dX11_addRuleAtom_62 : decode cX11_addRuleAtom 62 = .ok (.iload 4, 2) := by decide +kernel
theorem dX11_addRuleAtom_64 : decode cX11_addRuleAtom 64 = .ok (.iload 5, 2) := by decide +kernel
theorem dX11_addRuleAtom_66 : decode cX11_addRuleAtom 66 = .ok (.invokestatic 77, 3) := by decide +kernel
theorem dX11_addRuleAtom_69 : decode cX11_addRuleAtom 69 = .ok (.istore 8, 2) := by decide +kernel
theorem dX11_addRuleAtom_71 : decode cX11_addRuleAtom 71 = .ok (.iload 6, 2) := by decide +kernel
theorem dX11_addRuleAtom_73 : decode cX11_addRuleAtom 73 = .ok (.ifCond .eq 11, 3) := by decide +kernel
theorem dX11_addRuleAtom_76 : decode cX11_addRuleAtom 76 = .ok (.iload 8, 2) := by decide +kernel
theorem dX11_addRuleAtom_78 : decode cX11_addRuleAtom 78 = .ok (.invokestatic 210, 3) := by decide +kernel
theorem dX11_addRuleAtom_81 : decode cX11_addRuleAtom 81 = .ok (.goto 5, 3) := by decide +kernel
theorem dX11_addRuleAtom_84 : decode cX11_addRuleAtom 84 = .ok (.iload 8, 2) := by decide +kernel
theorem dX11_addRuleAtom_86 : decode cX11_addRuleAtom 86 = .ok (.istore 9, 2) := by decide +kernel
theorem dX11_addRuleAtom_88 : decode cX11_addRuleAtom 88 = .ok (.aload_n 0, 1) := by decide +kernel
theorem dX11_addRuleAtom_89 : decode cX11_addRuleAtom 89 = .ok (.getfield 26, 3) := by decide +kernel
theorem dX11_addRuleAtom_92 : decode cX11_addRuleAtom 92 = .ok (.aload_n 0, 1) := by decide +kernel
theorem dX11_addRuleAtom_93 : decode cX11_addRuleAtom 93 = .ok (.getfield 10, 3) := by decide +kernel
theorem dX11_addRuleAtom_96 : decode cX11_addRuleAtom 96 = .ok (.iload_n 1, 1) := by decide +kernel
theorem dX11_addRuleAtom_97 : decode cX11_addRuleAtom 97 = .ok (.iload 9, 2) := by decide +kernel
theorem dX11_addRuleAtom_99 : decode cX11_addRuleAtom 99 = .ok (.invokevirtual 213, 3) := by decide +kernel
theorem dX11_addRuleAtom_102 : decode cX11_addRuleAtom 102 = .ok (.ifCond .ne 13, 3) := by decide +kernel
theorem dX11_addRuleAtom_105 : decode cX11_addRuleAtom 105 = .ok (.new 107, 3) := by decide +kernel
theorem dX11_addRuleAtom_108 : decode cX11_addRuleAtom 108 = .ok (.dup, 1) := by decide +kernel
theorem dX11_addRuleAtom_109 : decode cX11_addRuleAtom 109 = .ok (.ldc 217, 2) := by decide +kernel
theorem dX11_addRuleAtom_111 : decode cX11_addRuleAtom 111 = .ok (.invokespecial 111, 3) := by decide +kernel
theorem dX11_addRuleAtom_114 : decode cX11_addRuleAtom 114 = .ok (.athrow, 1) := by decide +kernel
theorem dX11_addRuleAtom_115 : decode cX11_addRuleAtom 115 = .ok (.aload_n 0, 1) := by decide +kernel
theorem dX11_addRuleAtom_116 : decode cX11_addRuleAtom 116 = .ok (.invokevirtual 112, 3) := by decide +kernel
theorem dX11_addRuleAtom_119 : decode cX11_addRuleAtom 119 = .ok (.aload_n 0, 1) := by decide +kernel
theorem dX11_addRuleAtom_120 : decode cX11_addRuleAtom 120 = .ok (.getfield 26, 3) := by decide +kernel
theorem dX11_addRuleAtom_123 : decode cX11_addRuleAtom 123 = .ok (.invokevirtual 115, 3) := by decide +kernel
theorem dX11_addRuleAtom_126 : decode cX11_addRuleAtom 126 = .ok (.aload 7, 2) := by decide +kernel
theorem dX11_addRuleAtom_128 : decode cX11_addRuleAtom 128 = .ok (.iload 9, 2) := by decide +kernel
theorem dX11_addRuleAtom_130 : decode cX11_addRuleAtom 130 = .ok (.invokevirtual 90, 3) := by decide +kernel
theorem dX11_addRuleAtom_133 : decode cX11_addRuleAtom 133 = .ok (.aload 7, 2) := by decide +kernel
theorem dX11_addRuleAtom_135 : decode cX11_addRuleAtom 135 = .ok (.getfield 151, 3) := by decide +kernel
theorem dX11_addRuleAtom_138 : decode cX11_addRuleAtom 138 = .ok (.ireturn, 1) := by decide +kernel
theorem dX11_dropRule_0 : decode cX11_dropRule 0 = .ok (.aload_n 0, 1) := by decide +kernel
theorem dX11_dropRule_1 : decode cX11_dropRule 1 = .ok (.iload_n 1, 1) := by decide +kernel
theorem dX11_dropRule_2 : decode cX11_dropRule 2 = .ok (.invokevirtual 205, 3) := by decide +kernel
theorem dX11_dropRule_5 : decode cX11_dropRule 5 = .ok (.aload_n 0, 1) := by decide +kernel
theorem dX11_dropRule_6 : decode cX11_dropRule 6 = .ok (.invokevirtual 112, 3) := by decide +kernel
theorem dX11_dropRule_9 : decode cX11_dropRule 9 = .ok (.aload_n 0, 1) := by decide +kernel
theorem dX11_dropRule_10 : decode cX11_dropRule 10 = .ok (.getfield 26, 3) := by decide +kernel
theorem dX11_dropRule_13 : decode cX11_dropRule 13 = .ok (.invokevirtual 115, 3) := by decide +kernel
theorem dX11_dropRule_16 : decode cX11_dropRule 16 = .ok (.aload_n 0, 1) := by decide +kernel
theorem dX11_dropRule_17 : decode cX11_dropRule 17 = .ok (.getfield 10, 3) := by decide +kernel
theorem dX11_dropRule_20 : decode cX11_dropRule 20 = .ok (.iload_n 1, 1) := by decide +kernel
theorem dX11_dropRule_21 : decode cX11_dropRule 21 = .ok (.invokevirtual 219, 3) := by decide +kernel
theorem dX11_dropRule_24 : decode cX11_dropRule 24 = .ok (.aload_n 0, 1) := by decide +kernel
theorem dX11_dropRule_25 : decode cX11_dropRule 25 = .ok (.getfield 10, 3) := by decide +kernel
theorem dX11_dropRule_28 : decode cX11_dropRule 28 = .ok (.getfield 200, 3) := by decide +kernel
theorem dX11_dropRule_31 : decode cX11_dropRule 31 = .ok (.ireturn, 1) := by decide +kernel
theorem dX11_undo_0 : decode cX11_undo 0 = .ok (.aload_n 0, 1) := by decide +kernel
theorem dX11_undo_1 : decode cX11_undo 1 = .ok (.getfield 19, 3) := by decide +kernel
theorem dX11_undo_4 : decode cX11_undo 4 = .ok (.getfield 222, 3) := by decide +kernel
theorem dX11_undo_7 : decode cX11_undo 7 = .ok (.ifCond .ne 5, 3) := by decide +kernel
theorem dX11_undo_10 : decode cX11_undo 10 = .ok (.iconst (-1), 1) := by decide +kernel
theorem dX11_undo_11 : decode cX11_undo 11 = .ok (.ireturn, 1) := by decide +kernel
theorem dX11_undo_12 : decode cX11_undo 12 = .ok (.aload_n 0, 1) := by decide +kernel
theorem dX11_undo_13 : decode cX11_undo 13 = .ok (.getfield 19, 3) := by decide +kernel
theorem dX11_undo_16 : decode cX11_undo 16 = .ok (.aload_n 0, 1) := by decide +kernel
theorem dX11_undo_17 : decode cX11_undo 17 = .ok (.getfield 10, 3) := by decide +kernel
theorem dX11_undo_20 : decode cX11_undo 20 = .ok (.invokevirtual 225, 3) := by decide +kernel
theorem dX11_undo_23 : decode cX11_undo 23 = .ok (.aload_n 0, 1) := by decide +kernel
theorem dX11_undo_24 : decode cX11_undo 24 = .ok (.getfield 26, 3) := by decide +kernel
theorem dX11_undo_27 : decode cX11_undo 27 = .ok (.invokevirtual 115, 3) := by decide +kernel
theorem dX11_undo_30 : decode cX11_undo 30 = .ok (.aload_n 0, 1) := by decide +kernel
theorem dX11_undo_31 : decode cX11_undo 31 = .ok (.iconst (-1), 1) := by decide +kernel
theorem dX11_undo_32 : decode cX11_undo 32 = .ok (.putfield 58, 3) := by decide +kernel
theorem dX11_undo_35 : decode cX11_undo 35 = .ok (.aload_n 0, 1) := by decide +kernel
theorem dX11_undo_36 : decode cX11_undo 36 = .ok (.getfield 19, 3) := by decide +kernel
theorem dX11_undo_39 : decode cX11_undo 39 = .ok (.getfield 222, 3) := by decide +kernel
theorem dX11_undo_42 : decode cX11_undo 42 = .ok (.ireturn, 1) := by decide +kernel
theorem dX11_tableCount_0 : decode cX11_tableCount 0 = .ok (.aload_n 0, 1) := by decide +kernel
theorem dX11_tableCount_1 : decode cX11_tableCount 1 = .ok (.getfield 10, 3) := by decide +kernel
theorem dX11_tableCount_4 : decode cX11_tableCount 4 = .ok (.getfield 104, 3) := by decide +kernel
theorem dX11_tableCount_7 : decode cX11_tableCount 7 = .ok (.ireturn, 1) := by decide +kernel
theorem dX11_columns_0 : decode cX11_columns 0 = .ok (.aload_n 0, 1) := by decide +kernel
theorem dX11_columns_1 : decode cX11_columns 1 = .ok (.iload_n 1, 1) := by decide +kernel
theorem dX11_columns_2 : decode cX11_columns 2 = .ok (.invokevirtual 118, 3) := by decide +kernel
theorem dX11_columns_5 : decode cX11_columns 5 = .ok (.aload_n 0, 1) := by decide +kernel
theorem dX11_columns_6 : decode cX11_columns 6 = .ok (.getfield 10, 3) := by decide +kernel
theorem dX11_columns_9 : decode cX11_columns 9 = .ok (.getfield 155, 3) := by decide +kernel
theorem dX11_columns_12 : decode cX11_columns 12 = .ok (.iload_n 1, 1) := by decide +kernel
theorem dX11_columns_13 : decode cX11_columns 13 = .ok (.invokevirtual 159, 3) := by decide +kernel
theorem dX11_columns_16 : decode cX11_columns 16 = .ok (.ireturn, 1) := by decide +kernel
theorem dX11_factCount_0 : decode cX11_factCount 0 = .ok (.aload_n 0, 1) := by decide +kernel
theorem dX11_factCount_1 : decode cX11_factCount 1 = .ok (.iload_n 1, 1) := by decide +kernel
theorem dX11_factCount_2 : decode cX11_factCount 2 = .ok (.invokevirtual 118, 3) := by decide +kernel
theorem dX11_factCount_5 : decode cX11_factCount 5 = .ok (.aload_n 0, 1) := by decide +kernel
theorem dX11_factCount_6 : decode cX11_factCount 6 = .ok (.getfield 10, 3) := by decide +kernel
theorem dX11_factCount_9 : decode cX11_factCount 9 = .ok (.getfield 66, 3) := by decide +kernel
theorem dX11_factCount_12 : decode cX11_factCount 12 = .ok (.iload_n 1, 1) := by decide +kernel
theorem dX11_factCount_13 : decode cX11_factCount 13 = .ok (.invokevirtual 131, 3) := by decide +kernel
theorem dX11_factCount_16 : decode cX11_factCount 16 = .ok (.ireturn, 1) := by decide +kernel
theorem dX11_rowCount_0 : decode cX11_rowCount 0 = .ok (.aload_n 0, 1) := by decide +kernel
theorem dX11_rowCount_1 : decode cX11_rowCount 1 = .ok (.iload_n 1, 1) := by decide +kernel
theorem dX11_rowCount_2 : decode cX11_rowCount 2 = .ok (.invokevirtual 118, 3) := by decide +kernel
theorem dX11_rowCount_5 : decode cX11_rowCount 5 = .ok (.aload_n 0, 1) := by decide +kernel
theorem dX11_rowCount_6 : decode cX11_rowCount 6 = .ok (.getfield 26, 3) := by decide +kernel
theorem dX11_rowCount_9 : decode cX11_rowCount 9 = .ok (.aload_n 0, 1) := by decide +kernel
theorem dX11_rowCount_10 : decode cX11_rowCount 10 = .ok (.getfield 10, 3) := by decide +kernel
theorem dX11_rowCount_13 : decode cX11_rowCount 13 = .ok (.invokevirtual 182, 3) := by decide +kernel
theorem dX11_rowCount_16 : decode cX11_rowCount 16 = .ok (.aload_n 0, 1) := by decide +kernel
theorem dX11_rowCount_17 : decode cX11_rowCount 17 = .ok (.getfield 26, 3) := by decide +kernel
theorem dX11_rowCount_20 : decode cX11_rowCount 20 = .ok (.getfield 228, 3) := by decide +kernel
theorem dX11_rowCount_23 : decode cX11_rowCount 23 = .ok (.iload_n 1, 1) := by decide +kernel
theorem dX11_rowCount_24 : decode cX11_rowCount 24 = .ok (.invokevirtual 131, 3) := by decide +kernel
theorem dX11_rowCount_27 : decode cX11_rowCount 27 = .ok (.ireturn, 1) := by decide +kernel
theorem dX11_isFact_0 : decode cX11_isFact 0 = .ok (.aload_n 0, 1) := by decide +kernel
theorem dX11_isFact_1 : decode cX11_isFact 1 = .ok (.iload_n 1, 1) := by decide +kernel
theorem dX11_isFact_2 : decode cX11_isFact 2 = .ok (.invokevirtual 118, 3) := by decide +kernel
theorem dX11_isFact_5 : decode cX11_isFact 5 = .ok (.aload_n 0, 1) := by decide +kernel
theorem dX11_isFact_6 : decode cX11_isFact 6 = .ok (.iload_n 1, 1) := by decide +kernel
theorem dX11_isFact_7 : decode cX11_isFact 7 = .ok (.iload_n 2, 1) := by decide +kernel
theorem dX11_isFact_8 : decode cX11_isFact 8 = .ok (.iload_n 3, 1) := by decide +kernel
theorem dX11_isFact_9 : decode cX11_isFact 9 = .ok (.iload 4, 2) := by decide +kernel
theorem dX11_isFact_11 : decode cX11_isFact 11 = .ok (.invokevirtual 121, 3) := by decide +kernel
theorem dX11_isFact_14 : decode cX11_isFact 14 = .ok (.aload_n 0, 1) := by decide +kernel
theorem dX11_isFact_15 : decode cX11_isFact 15 = .ok (.getfield 10, 3) := by decide +kernel
theorem dX11_isFact_18 : decode cX11_isFact 18 = .ok (.getfield 66, 3) := by decide +kernel
theorem dX11_isFact_21 : decode cX11_isFact 21 = .ok (.iload_n 1, 1) := by decide +kernel
theorem dX11_isFact_22 : decode cX11_isFact 22 = .ok (.iload_n 2, 1) := by decide +kernel
theorem dX11_isFact_23 : decode cX11_isFact 23 = .ok (.iload_n 3, 1) := by decide +kernel
theorem dX11_isFact_24 : decode cX11_isFact 24 = .ok (.iload 4, 2) := by decide +kernel
theorem dX11_isFact_26 : decode cX11_isFact 26 = .ok (.invokestatic 69, 3) := by decide +kernel
theorem dX11_isFact_29 : decode cX11_isFact 29 = .ok (.invokevirtual 125, 3) := by decide +kernel
theorem dX11_isFact_32 : decode cX11_isFact 32 = .ok (.ireturn, 1) := by decide +kernel
theorem dX11_reasons_0 : decode cX11_reasons 0 = .ok (.aload_n 0, 1) := by decide +kernel
theorem dX11_reasons_1 : decode cX11_reasons 1 = .ok (.iload_n 1, 1) := by decide +kernel
theorem dX11_reasons_2 : decode cX11_reasons 2 = .ok (.invokevirtual 118, 3) := by decide +kernel
theorem dX11_reasons_5 : decode cX11_reasons 5 = .ok (.aload_n 0, 1) := by decide +kernel
theorem dX11_reasons_6 : decode cX11_reasons 6 = .ok (.iload_n 1, 1) := by decide +kernel
theorem dX11_reasons_7 : decode cX11_reasons 7 = .ok (.iload_n 2, 1) := by decide +kernel
theorem dX11_reasons_8 : decode cX11_reasons 8 = .ok (.iload_n 3, 1) := by decide +kernel
theorem dX11_reasons_9 : decode cX11_reasons 9 = .ok (.iload 4, 2) := by decide +kernel
theorem dX11_reasons_11 : decode cX11_reasons 11 = .ok (.invokevirtual 121, 3) := by decide +kernel
theorem dX11_reasons_14 : decode cX11_reasons 14 = .ok (.aload_n 0, 1) := by decide +kernel
theorem dX11_reasons_15 : decode cX11_reasons 15 = .ok (.getfield 26, 3) := by decide +kernel
theorem dX11_reasons_18 : decode cX11_reasons 18 = .ok (.aload_n 0, 1) := by decide +kernel
theorem dX11_reasons_19 : decode cX11_reasons 19 = .ok (.getfield 10, 3) := by decide +kernel
theorem dX11_reasons_22 : decode cX11_reasons 22 = .ok (.invokevirtual 182, 3) := by decide +kernel
theorem dX11_reasons_25 : decode cX11_reasons 25 = .ok (.aload_n 0, 1) := by decide +kernel
theorem dX11_reasons_26 : decode cX11_reasons 26 = .ok (.getfield 26, 3) := by decide +kernel
theorem dX11_reasons_29 : decode cX11_reasons 29 = .ok (.aload_n 0, 1) := by decide +kernel
theorem dX11_reasons_30 : decode cX11_reasons 30 = .ok (.getfield 10, 3) := by decide +kernel
theorem dX11_reasons_33 : decode cX11_reasons 33 = .ok (.iload_n 1, 1) := by decide +kernel
theorem dX11_reasons_34 : decode cX11_reasons 34 = .ok (.iload_n 2, 1) := by decide +kernel
theorem dX11_reasons_35 : decode cX11_reasons 35 = .ok (.iload_n 3, 1) := by decide +kernel
theorem dX11_reasons_36 : decode cX11_reasons 36 = .ok (.iload 4, 2) := by decide +kernel
theorem dX11_reasons_38 : decode cX11_reasons 38 = .ok (.invokestatic 69, 3) := by decide +kernel
theorem dX11_reasons_41 : decode cX11_reasons 41 = .ok (.invokevirtual 231, 3) := by decide +kernel
theorem dX11_reasons_44 : decode cX11_reasons 44 = .ok (.ireturn, 1) := by decide +kernel
theorem dX11_rowAt_0 : decode cX11_rowAt 0 = .ok (.aload_n 0, 1) := by decide +kernel
theorem dX11_rowAt_1 : decode cX11_rowAt 1 = .ok (.iload_n 1, 1) := by decide +kernel
theorem dX11_rowAt_2 : decode cX11_rowAt 2 = .ok (.invokevirtual 118, 3) := by decide +kernel
theorem dX11_rowAt_5 : decode cX11_rowAt 5 = .ok (.aload_n 0, 1) := by decide +kernel
theorem dX11_rowAt_6 : decode cX11_rowAt 6 = .ok (.iload_n 1, 1) := by decide +kernel
theorem dX11_rowAt_7 : decode cX11_rowAt 7 = .ok (.iload_n 3, 1) := by decide +kernel
theorem dX11_rowAt_8 : decode cX11_rowAt 8 = .ok (.invokevirtual 235, 3) := by decide +kernel
theorem dX11_rowAt_11 : decode cX11_rowAt 11 = .ok (.aload_n 0, 1) := by decide +kernel
theorem dX11_rowAt_12 : decode cX11_rowAt 12 = .ok (.getfield 26, 3) := by decide +kernel
theorem dX11_rowAt_15 : decode cX11_rowAt 15 = .ok (.aload_n 0, 1) := by decide +kernel
theorem dX11_rowAt_16 : decode cX11_rowAt 16 = .ok (.getfield 10, 3) := by decide +kernel
theorem dX11_rowAt_19 : decode cX11_rowAt 19 = .ok (.invokevirtual 182, 3) := by decide +kernel
theorem dX11_rowAt_22 : decode cX11_rowAt 22 = .ok (.iload_n 2, 1) := by decide +kernel
theorem dX11_rowAt_23 : decode cX11_rowAt 23 = .ok (.ifCond .lt 18, 3) := by decide +kernel
theorem dX11_rowAt_26 : decode cX11_rowAt 26 = .ok (.iload_n 2, 1) := by decide +kernel
theorem dX11_rowAt_27 : decode cX11_rowAt 27 = .ok (.aload_n 0, 1) := by decide +kernel
theorem dX11_rowAt_28 : decode cX11_rowAt 28 = .ok (.getfield 26, 3) := by decide +kernel
theorem dX11_rowAt_31 : decode cX11_rowAt 31 = .ok (.getfield 228, 3) := by decide +kernel
theorem dX11_rowAt_34 : decode cX11_rowAt 34 = .ok (.iload_n 1, 1) := by decide +kernel
theorem dX11_rowAt_35 : decode cX11_rowAt 35 = .ok (.invokevirtual 131, 3) := by decide +kernel
theorem dX11_rowAt_38 : decode cX11_rowAt 38 = .ok (.if_icmp .lt 13, 3) := by decide +kernel
theorem dX11_rowAt_41 : decode cX11_rowAt 41 = .ok (.new 238, 3) := by decide +kernel
theorem dX11_rowAt_44 : decode cX11_rowAt 44 = .ok (.dup, 1) := by decide +kernel
theorem dX11_rowAt_45 : decode cX11_rowAt 45 = .ok (.ldc 240, 2) := by decide +kernel
theorem dX11_rowAt_47 : decode cX11_rowAt 47 = .ok (.invokespecial 242, 3) := by decide +kernel
theorem dX11_rowAt_50 : decode cX11_rowAt 50 = .ok (.athrow, 1) := by decide +kernel
theorem dX11_rowAt_51 : decode cX11_rowAt 51 = .ok (.aload_n 0, 1) := by decide +kernel
theorem dX11_rowAt_52 : decode cX11_rowAt 52 = .ok (.getfield 26, 3) := by decide +kernel
theorem dX11_rowAt_55 : decode cX11_rowAt 55 = .ok (.getfield 228, 3) := by decide +kernel
theorem dX11_rowAt_58 : decode cX11_rowAt 58 = .ok (.iload_n 1, 1) := by decide +kernel
theorem dX11_rowAt_59 : decode cX11_rowAt 59 = .ok (.iload_n 2, 1) := by decide +kernel
theorem dX11_rowAt_60 : decode cX11_rowAt 60 = .ok (.invokevirtual 243, 3) := by decide +kernel
theorem dX11_rowAt_63 : decode cX11_rowAt 63 = .ok (.iload_n 3, 1) := by decide +kernel
theorem dX11_rowAt_64 : decode cX11_rowAt 64 = .ok (.invokestatic 247, 3) := by decide +kernel
theorem dX11_rowAt_67 : decode cX11_rowAt 67 = .ok (.ireturn, 1) := by decide +kernel
theorem dX11_firstFrom_0 : decode cX11_firstFrom 0 = .ok (.aload_n 0, 1) := by decide +kernel
theorem dX11_firstFrom_1 : decode cX11_firstFrom 1 = .ok (.iload_n 1, 1) := by decide +kernel
theorem dX11_firstFrom_2 : decode cX11_firstFrom 2 = .ok (.invokevirtual 118, 3) := by decide +kernel
theorem dX11_firstFrom_5 : decode cX11_firstFrom 5 = .ok (.aload_n 0, 1) := by decide +kernel
theorem dX11_firstFrom_6 : decode cX11_firstFrom 6 = .ok (.iload_n 1, 1) := by decide +kernel
theorem dX11_firstFrom_7 : decode cX11_firstFrom 7 = .ok (.iload_n 2, 1) := by decide +kernel
theorem dX11_firstFrom_8 : decode cX11_firstFrom 8 = .ok (.iload_n 3, 1) := by decide +kernel
theorem dX11_firstFrom_9 : decode cX11_firstFrom 9 = .ok (.iload 4, 2) := by decide +kernel
theorem dX11_firstFrom_11 : decode cX11_firstFrom 11 = .ok (.invokevirtual 121, 3) := by decide +kernel
theorem dX11_firstFrom_14 : decode cX11_firstFrom 14 = .ok (.aload_n 0, 1) := by decide +kernel
theorem dX11_firstFrom_15 : decode cX11_firstFrom 15 = .ok (.getfield 26, 3) := by decide +kernel
theorem dX11_firstFrom_18 : decode cX11_firstFrom 18 = .ok (.aload_n 0, 1) := by decide +kernel
theorem dX11_firstFrom_19 : decode cX11_firstFrom 19 = .ok (.getfield 10, 3) := by decide +kernel
theorem dX11_firstFrom_22 : decode cX11_firstFrom 22 = .ok (.invokevirtual 182, 3) := by decide +kernel
theorem dX11_firstFrom_25 : decode cX11_firstFrom 25 = .ok (.aload_n 0, 1) := by decide +kernel
theorem dX11_firstFrom_26 : decode cX11_firstFrom 26 = .ok (.getfield 26, 3) := by decide +kernel
theorem dX11_firstFrom_29 : decode cX11_firstFrom 29 = .ok (.getfield 228, 3) := by decide +kernel
theorem dX11_firstFrom_32 : decode cX11_firstFrom 32 = .ok (.iload_n 1, 1) := by decide +kernel
theorem dX11_firstFrom_33 : decode cX11_firstFrom 33 = .ok (.iload_n 2, 1) := by decide +kernel
theorem dX11_firstFrom_34 : decode cX11_firstFrom 34 = .ok (.iload_n 3, 1) := by decide +kernel
theorem dX11_firstFrom_35 : decode cX11_firstFrom 35 = .ok (.iload 4, 2) := by decide +kernel
theorem dX11_firstFrom_37 : decode cX11_firstFrom 37 = .ok (.invokestatic 69, 3) := by decide +kernel
theorem dX11_firstFrom_40 : decode cX11_firstFrom 40 = .ok (.invokevirtual 250, 3) := by decide +kernel
theorem dX11_firstFrom_43 : decode cX11_firstFrom 43 = .ok (.istore 5, 2) := by decide +kernel
theorem dX11_firstFrom_45 : decode cX11_firstFrom 45 = .ok (.iload 5, 2) := by decide +kernel
theorem dX11_firstFrom_47 : decode cX11_firstFrom 47 = .ok (.aload_n 0, 1) := by decide +kernel
theorem dX11_firstFrom_48 : decode cX11_firstFrom 48 = .ok (.getfield 26, 3) := by decide +kernel
theorem dX11_firstFrom_51 : decode cX11_firstFrom 51 = .ok (.getfield 228, 3) := by decide +kernel
theorem dX11_firstFrom_54 : decode cX11_firstFrom 54 = .ok (.iload_n 1, 1) := by decide +kernel
theorem dX11_firstFrom_55 : decode cX11_firstFrom 55 = .ok (.invokevirtual 131, 3) := by decide +kernel
theorem dX11_firstFrom_58 : decode cX11_firstFrom 58 = .ok (.if_icmp .lt 13, 3) := by decide +kernel
theorem dX11_firstFrom_61 : decode cX11_firstFrom 61 = .ok (.new 137, 3) := by decide +kernel
theorem dX11_firstFrom_64 : decode cX11_firstFrom 64 = .ok (.dup, 1) := by decide +kernel
theorem dX11_firstFrom_65 : decode cX11_firstFrom 65 = .ok (.ldc 253, 2) := by decide +kernel
theorem dX11_firstFrom_67 : decode cX11_firstFrom 67 = .ok (.invokespecial 141, 3) := by decide +kernel
theorem dX11_firstFrom_70 : decode cX11_firstFrom 70 = .ok (.athrow, 1) := by decide +kernel
theorem dX11_firstFrom_71 : decode cX11_firstFrom 71 = .ok (.iload 5, 2) := by decide +kernel
theorem dX11_firstFrom_73 : decode cX11_firstFrom 73 = .ok (.ireturn, 1) := by decide +kernel
theorem dX11_values_0 : decode cX11_values 0 = .ok (.aload_n 0, 1) := by decide +kernel
theorem dX11_values_1 : decode cX11_values 1 = .ok (.iload_n 1, 1) := by decide +kernel
theorem dX11_values_2 : decode cX11_values 2 = .ok (.invokevirtual 118, 3) := by decide +kernel
theorem dX11_values_5 : decode cX11_values 5 = .ok (.aload_n 0, 1) := by decide +kernel
theorem dX11_values_6 : decode cX11_values 6 = .ok (.iload_n 1, 1) := by decide +kernel
theorem dX11_values_7 : decode cX11_values 7 = .ok (.iload_n 2, 1) := by decide +kernel
theorem dX11_values_8 : decode cX11_values 8 = .ok (.invokevirtual 235, 3) := by decide +kernel
theorem dX11_values_11 : decode cX11_values 11 = .ok (.aload_n 0, 1) := by decide +kernel
theorem dX11_values_12 : decode cX11_values 12 = .ok (.getfield 26, 3) := by decide +kernel
theorem dX11_values_15 : decode cX11_values 15 = .ok (.aload_n 0, 1) := by decide +kernel
theorem dX11_values_16 : decode cX11_values 16 = .ok (.getfield 10, 3) := by decide +kernel
theorem dX11_values_19 : decode cX11_values 19 = .ok (.invokevirtual 182, 3) := by decide +kernel
theorem dX11_values_22 : decode cX11_values 22 = .ok (.iconst 0, 1) := by decide +kernel
theorem dX11_values_23 : decode cX11_values 23 = .ok (.istore_n 3, 1) := by decide +kernel
theorem dX11_values_24 : decode cX11_values 24 = .ok (.iconst 0, 1) := by decide +kernel
theorem dX11_values_25 : decode cX11_values 25 = .ok (.istore 4, 2) := by decide +kernel
theorem dX11_values_27 : decode cX11_values 27 = .ok (.iload 4, 2) := by decide +kernel
theorem dX11_values_29 : decode cX11_values 29 = .ok (.sipush 512, 3) := by decide +kernel
theorem dX11_values_32 : decode cX11_values 32 = .ok (.if_icmp .ge 36, 3) := by decide +kernel
theorem dX11_values_35 : decode cX11_values 35 = .ok (.aload_n 0, 1) := by decide +kernel
theorem dX11_values_36 : decode cX11_values 36 = .ok (.getfield 26, 3) := by decide +kernel
theorem dX11_values_39 : decode cX11_values 39 = .ok (.getfield 228, 3) := by decide +kernel
theorem dX11_values_42 : decode cX11_values 42 = .ok (.iload_n 1, 1) := by decide +kernel
theorem dX11_values_43 : decode cX11_values 43 = .ok (.iload 4, 2) := by decide +kernel
theorem dX11_values_45 : decode cX11_values 45 = .ok (.invokevirtual 125, 3) := by decide +kernel
theorem dX11_values_48 : decode cX11_values 48 = .ok (.ifCond .eq 14, 3) := by decide +kernel
theorem dX11_values_51 : decode cX11_values 51 = .ok (.iload_n 3, 1) := by decide +kernel
theorem dX11_values_52 : decode cX11_values 52 = .ok (.iconst 1, 1) := by decide +kernel
theorem dX11_values_53 : decode cX11_values 53 = .ok (.iload 4, 2) := by decide +kernel
theorem dX11_values_55 : decode cX11_values 55 = .ok (.iload_n 2, 1) := by decide +kernel
theorem dX11_values_56 : decode cX11_values 56 = .ok (.invokestatic 247, 3) := by decide +kernel
theorem dX11_values_59 : decode cX11_values 59 = .ok (.ishl, 1) := by decide +kernel
theorem dX11_values_60 : decode cX11_values 60 = .ok (.ior, 1) := by decide +kernel
theorem dX11_values_61 : decode cX11_values 61 = .ok (.istore_n 3, 1) := by decide +kernel
theorem dX11_values_62 : decode cX11_values 62 = .ok (.iinc 4 1, 3) := by decide +kernel
theorem dX11_values_65 : decode cX11_values 65 = .ok (.goto (-38), 3) := by decide +kernel
theorem dX11_values_68 : decode cX11_values 68 = .ok (.iload_n 3, 1) := by decide +kernel
theorem dX11_values_69 : decode cX11_values 69 = .ok (.invokestatic 255, 3) := by decide +kernel
theorem dX11_values_72 : decode cX11_values 72 = .ok (.ireturn, 1) := by decide +kernel
theorem dX11_lower_0 : decode cX11_lower 0 = .ok (.aload_n 0, 1) := by decide +kernel
theorem dX11_lower_1 : decode cX11_lower 1 = .ok (.iload_n 1, 1) := by decide +kernel
theorem dX11_lower_2 : decode cX11_lower 2 = .ok (.invokevirtual 118, 3) := by decide +kernel
theorem dX11_lower_5 : decode cX11_lower 5 = .ok (.iload_n 2, 1) := by decide +kernel
theorem dX11_lower_6 : decode cX11_lower 6 = .ok (.ifCond .lt 9, 3) := by decide +kernel
theorem dX11_lower_9 : decode cX11_lower 9 = .ok (.iload_n 2, 1) := by decide +kernel
theorem dX11_lower_10 : decode cX11_lower 10 = .ok (.bipush 8, 2) := by decide +kernel
theorem dX11_lower_12 : decode cX11_lower 12 = .ok (.if_icmp .le 14, 3) := by decide +kernel
theorem dX11_lower_15 : decode cX11_lower 15 = .ok (.new 97, 3) := by decide +kernel
theorem dX11_lower_18 : decode cX11_lower 18 = .ok (.dup, 1) := by decide +kernel
theorem dX11_lower_19 : decode cX11_lower 19 = .ok (.ldc_w 260, 3) := by decide +kernel
theorem dX11_lower_22 : decode cX11_lower 22 = .ok (.invokespecial 101, 3) := by decide +kernel
theorem dX11_lower_25 : decode cX11_lower 25 = .ok (.athrow, 1) := by decide +kernel
theorem dX11_lower_26 : decode cX11_lower 26 = .ok (.aload_n 0, 1) := by decide +kernel
theorem dX11_lower_27 : decode cX11_lower 27 = .ok (.getfield 26, 3) := by decide +kernel
theorem dX11_lower_30 : decode cX11_lower 30 = .ok (.aload_n 0, 1) := by decide +kernel
theorem dX11_lower_31 : decode cX11_lower 31 = .ok (.getfield 10, 3) := by decide +kernel
theorem dX11_lower_34 : decode cX11_lower 34 = .ok (.invokevirtual 182, 3) := by decide +kernel
theorem dX11_lower_37 : decode cX11_lower 37 = .ok (.iload_n 2, 1) := by decide +kernel
theorem dX11_lower_38 : decode cX11_lower 38 = .ok (.iconst 1, 1) := by decide +kernel
theorem dX11_lower_39 : decode cX11_lower 39 = .ok (.isub, 1) := by decide +kernel
theorem dX11_lower_40 : decode cX11_lower 40 = .ok (.istore_n 3, 1) := by decide +kernel
theorem dX11_lower_41 : decode cX11_lower 41 = .ok (.iload_n 3, 1) := by decide +kernel
theorem dX11_lower_42 : decode cX11_lower 42 = .ok (.ifCond .lt 28, 3) := by decide +kernel
theorem dX11_lower_45 : decode cX11_lower 45 = .ok (.aload_n 0, 1) := by decide +kernel
theorem dX11_lower_46 : decode cX11_lower 46 = .ok (.getfield 26, 3) := by decide +kernel
theorem dX11_lower_49 : decode cX11_lower 49 = .ok (.getfield 228, 3) := by decide +kernel
theorem dX11_lower_52 : decode cX11_lower 52 = .ok (.iload_n 1, 1) := by decide +kernel
theorem dX11_lower_53 : decode cX11_lower 53 = .ok (.iload_n 3, 1) := by decide +kernel
theorem dX11_lower_54 : decode cX11_lower 54 = .ok (.invokevirtual 262, 3) := by decide +kernel
theorem dX11_lower_57 : decode cX11_lower 57 = .ok (.lconst 0, 1) := by decide +kernel
theorem dX11_lower_58 : decode cX11_lower 58 = .ok (.lcmp, 1) := by decide +kernel
theorem dX11_lower_59 : decode cX11_lower 59 = .ok (.ifCond .eq 5, 3) := by decide +kernel
theorem dX11_lower_62 : decode cX11_lower 62 = .ok (.iload_n 3, 1) := by decide +kernel
theorem dX11_lower_63 : decode cX11_lower 63 = .ok (.ireturn, 1) := by decide +kernel
theorem dX11_lower_64 : decode cX11_lower 64 = .ok (.iinc 3 (-1), 3) := by decide +kernel
theorem dX11_lower_67 : decode cX11_lower 67 = .ok (.goto (-26), 3) := by decide +kernel
theorem dX11_lower_70 : decode cX11_lower 70 = .ok (.new 137, 3) := by decide +kernel
theorem dX11_lower_73 : decode cX11_lower 73 = .ok (.dup, 1) := by decide +kernel
theorem dX11_lower_74 : decode cX11_lower 74 = .ok (.ldc_w 266, 3) := by decide +kernel
theorem dX11_lower_77 : decode cX11_lower 77 = .ok (.invokespecial 141, 3) := by decide +kernel
theorem dX11_lower_80 : decode cX11_lower 80 = .ok (.athrow, 1) := by decide +kernel
theorem dX11_atomCount_0 : decode cX11_atomCount 0 = .ok (.aload_n 0, 1) := by decide +kernel
theorem dX11_atomCount_1 : decode cX11_atomCount 1 = .ok (.iload_n 1, 1) := by decide +kernel
theorem dX11_atomCount_2 : decode cX11_atomCount 2 = .ok (.invokevirtual 145, 3) := by decide +kernel
theorem dX11_atomCount_5 : decode cX11_atomCount 5 = .ok (.aload_n 0, 1) := by decide +kernel
theorem dX11_atomCount_6 : decode cX11_atomCount 6 = .ok (.getfield 10, 3) := by decide +kernel
theorem dX11_atomCount_9 : decode cX11_atomCount 9 = .ok (.iload_n 1, 1) := by decide +kernel
theorem dX11_atomCount_10 : decode cX11_atomCount 10 = .ok (.invokevirtual 94, 3) := by decide +kernel
theorem dX11_atomCount_13 : decode cX11_atomCount 13 = .ok (.getfield 151, 3) := by decide +kernel
theorem dX11_atomCount_16 : decode cX11_atomCount 16 = .ok (.ireturn, 1) := by decide +kernel
theorem dX11_answers_0 : decode cX11_answers 0 = .ok (.aload_n 0, 1) := by decide +kernel
theorem dX11_answers_1 : decode cX11_answers 1 = .ok (.iload_n 1, 1) := by decide +kernel
theorem dX11_answers_2 : decode cX11_answers 2 = .ok (.invokevirtual 145, 3) := by decide +kernel
theorem dX11_answers_5 : decode cX11_answers 5 = .ok (.aload_n 0, 1) := by decide +kernel
theorem dX11_answers_6 : decode cX11_answers 6 = .ok (.getfield 26, 3) := by decide +kernel
theorem dX11_answers_9 : decode cX11_answers 9 = .ok (.aload_n 0, 1) := by decide +kernel
theorem dX11_answers_10 : decode cX11_answers 10 = .ok (.getfield 10, 3) := by decide +kernel
theorem dX11_answers_13 : decode cX11_answers 13 = .ok (.invokevirtual 182, 3) := by decide +kernel
theorem dX11_answers_16 : decode cX11_answers 16 = .ok (.aload_n 0, 1) := by decide +kernel
theorem dX11_answers_17 : decode cX11_answers 17 = .ok (.iload_n 1, 1) := by decide +kernel
theorem dX11_answers_18 : decode cX11_answers 18 = .ok (.invokevirtual 186, 3) := by decide +kernel
theorem dX11_answers_21 : decode cX11_answers 21 = .ok (.aload_n 0, 1) := by decide +kernel
theorem dX11_answers_22 : decode cX11_answers 22 = .ok (.getfield 33, 3) := by decide +kernel
theorem dX11_answers_25 : decode cX11_answers 25 = .ok (.getfield 268, 3) := by decide +kernel
theorem dX11_answers_28 : decode cX11_answers 28 = .ok (.ireturn, 1) := by decide +kernel
theorem dX11_answerAt_0 : decode cX11_answerAt 0 = .ok (.aload_n 0, 1) := by decide +kernel
theorem dX11_answerAt_1 : decode cX11_answerAt 1 = .ok (.iload_n 1, 1) := by decide +kernel
theorem dX11_answerAt_2 : decode cX11_answerAt 2 = .ok (.invokevirtual 145, 3) := by decide +kernel
theorem dX11_answerAt_5 : decode cX11_answerAt 5 = .ok (.aload_n 0, 1) := by decide +kernel
theorem dX11_answerAt_6 : decode cX11_answerAt 6 = .ok (.iload_n 1, 1) := by decide +kernel
theorem dX11_answerAt_7 : decode cX11_answerAt 7 = .ok (.iload_n 3, 1) := by decide +kernel
theorem dX11_answerAt_8 : decode cX11_answerAt 8 = .ok (.invokevirtual 271, 3) := by decide +kernel
theorem dX11_answerAt_11 : decode cX11_answerAt 11 = .ok (.aload_n 0, 1) := by decide +kernel
theorem dX11_answerAt_12 : decode cX11_answerAt 12 = .ok (.getfield 26, 3) := by decide +kernel
theorem dX11_answerAt_15 : decode cX11_answerAt 15 = .ok (.aload_n 0, 1) := by decide +kernel
theorem dX11_answerAt_16 : decode cX11_answerAt 16 = .ok (.getfield 10, 3) := by decide +kernel
theorem dX11_answerAt_19 : decode cX11_answerAt 19 = .ok (.invokevirtual 182, 3) := by decide +kernel
theorem dX11_answerAt_22 : decode cX11_answerAt 22 = .ok (.aload_n 0, 1) := by decide +kernel
theorem dX11_answerAt_23 : decode cX11_answerAt 23 = .ok (.iload_n 1, 1) := by decide +kernel
theorem dX11_answerAt_24 : decode cX11_answerAt 24 = .ok (.invokevirtual 186, 3) := by decide +kernel
theorem dX11_answerAt_27 : decode cX11_answerAt 27 = .ok (.iload_n 2, 1) := by decide +kernel
theorem dX11_answerAt_28 : decode cX11_answerAt 28 = .ok (.ifCond .lt 14, 3) := by decide +kernel
theorem dX11_answerAt_31 : decode cX11_answerAt 31 = .ok (.iload_n 2, 1) := by decide +kernel
theorem dX11_answerAt_32 : decode cX11_answerAt 32 = .ok (.aload_n 0, 1) := by decide +kernel
theorem dX11_answerAt_33 : decode cX11_answerAt 33 = .ok (.getfield 33, 3) := by decide +kernel
theorem dX11_answerAt_36 : decode cX11_answerAt 36 = .ok (.getfield 268, 3) := by decide +kernel
theorem dX11_answerAt_39 : decode cX11_answerAt 39 = .ok (.if_icmp .lt 14, 3) := by decide +kernel
theorem dX11_answerAt_42 : decode cX11_answerAt 42 = .ok (.new 238, 3) := by decide +kernel
theorem dX11_answerAt_45 : decode cX11_answerAt 45 = .ok (.dup, 1) := by decide +kernel
theorem dX11_answerAt_46 : decode cX11_answerAt 46 = .ok (.ldc_w 274, 3) := by decide +kernel
theorem dX11_answerAt_49 : decode cX11_answerAt 49 = .ok (.invokespecial 242, 3) := by decide +kernel
theorem dX11_answerAt_52 : decode cX11_answerAt 52 = .ok (.athrow, 1) := by decide +kernel
theorem dX11_answerAt_53 : decode cX11_answerAt 53 = .ok (.iconst (-1), 1) := by decide +kernel
theorem dX11_answerAt_54 : decode cX11_answerAt 54 = .ok (.istore 4, 2) := by decide +kernel
theorem dX11_answerAt_56 : decode cX11_answerAt 56 = .ok (.iconst 0, 1) := by decide +kernel
theorem dX11_answerAt_57 : decode cX11_answerAt 57 = .ok (.istore 5, 2) := by decide +kernel
theorem dX11_answerAt_59 : decode cX11_answerAt 59 = .ok (.iload 5, 2) := by decide +kernel
theorem dX11_answerAt_61 : decode cX11_answerAt 61 = .ok (.iload_n 2, 1) := by decide +kernel
theorem dX11_answerAt_62 : decode cX11_answerAt 62 = .ok (.if_icmp .ge 20, 3) := by decide +kernel
theorem dX11_answerAt_65 : decode cX11_answerAt 65 = .ok (.aload_n 0, 1) := by decide +kernel
theorem dX11_answerAt_66 : decode cX11_answerAt 66 = .ok (.getfield 33, 3) := by decide +kernel
theorem dX11_answerAt_69 : decode cX11_answerAt 69 = .ok (.iload 4, 2) := by decide +kernel
theorem dX11_answerAt_71 : decode cX11_answerAt 71 = .ok (.invokevirtual 276, 3) := by decide +kernel
theorem dX11_answerAt_74 : decode cX11_answerAt 74 = .ok (.istore 4, 2) := by decide +kernel
theorem dX11_answerAt_76 : decode cX11_answerAt 76 = .ok (.iinc 5 1, 3) := by decide +kernel
theorem dX11_answerAt_79 : decode cX11_answerAt 79 = .ok (.goto (-20), 3) := by decide +kernel
theorem dX11_answerAt_82 : decode cX11_answerAt 82 = .ok (.aload_n 0, 1) := by decide +kernel
theorem dX11_answerAt_83 : decode cX11_answerAt 83 = .ok (.getfield 33, 3) := by decide +kernel
theorem dX11_answerAt_86 : decode cX11_answerAt 86 = .ok (.iload 4, 2) := by decide +kernel
theorem dX11_answerAt_88 : decode cX11_answerAt 88 = .ok (.invokevirtual 279, 3) := by decide +kernel
theorem dX11_answerAt_91 : decode cX11_answerAt 91 = .ok (.pop, 1) := by decide +kernel
theorem dX11_answerAt_92 : decode cX11_answerAt 92 = .ok (.iload_n 3, 1) := by decide +kernel
theorem dX11_answerAt_93 : decode cX11_answerAt 93 = .ok (.aload_n 0, 1) := by decide +kernel
theorem dX11_answerAt_94 : decode cX11_answerAt 94 = .ok (.getfield 33, 3) := by decide +kernel
theorem dX11_answerAt_97 : decode cX11_answerAt 97 = .ok (.getfield 282, 3) := by decide +kernel
theorem dX11_answerAt_100 : decode cX11_answerAt 100 = .ok (.invokestatic 285, 3) := by decide +kernel
theorem dX11_answerAt_103 : decode cX11_answerAt 103 = .ok (.ireturn, 1) := by decide +kernel
theorem dX11_seek_0 : decode cX11_seek 0 = .ok (.aload_n 0, 1) := by decide +kernel
theorem dX11_seek_1 : decode cX11_seek 1 = .ok (.iload_n 1, 1) := by decide +kernel
theorem dX11_seek_2 : decode cX11_seek 2 = .ok (.invokevirtual 145, 3) := by decide +kernel
theorem dX11_seek_5 : decode cX11_seek 5 = .ok (.iload_n 2, 1) := by decide +kernel
theorem dX11_seek_6 : decode cX11_seek 6 = .ok (.invokestatic 288, 3) := by decide +kernel
theorem dX11_seek_9 : decode cX11_seek 9 = .ok (.ifCond .eq 26, 3) := by decide +kernel
theorem dX11_seek_12 : decode cX11_seek 12 = .ok (.iload_n 3, 1) := by decide +kernel
theorem dX11_seek_13 : decode cX11_seek 13 = .ok (.invokestatic 288, 3) := by decide +kernel
theorem dX11_seek_16 : decode cX11_seek 16 = .ok (.ifCond .eq 19, 3) := by decide +kernel
theorem dX11_seek_19 : decode cX11_seek 19 = .ok (.iload 4, 2) := by decide +kernel
theorem dX11_seek_21 : decode cX11_seek 21 = .ok (.invokestatic 288, 3) := by decide +kernel
theorem dX11_seek_24 : decode cX11_seek 24 = .ok (.ifCond .eq 11, 3) := by decide +kernel
theorem dX11_seek_27 : decode cX11_seek 27 = .ok (.iload 5, 2) := by decide +kernel
theorem dX11_seek_29 : decode cX11_seek 29 = .ok (.invokestatic 288, 3) := by decide +kernel
theorem dX11_seek_32 : decode cX11_seek 32 = .ok (.ifCond .ne 14, 3) := by decide +kernel
theorem dX11_seek_35 : decode cX11_seek 35 = .ok (.new 97, 3) := by decide +kernel
theorem dX11_seek_38 : decode cX11_seek 38 = .ok (.dup, 1) := by decide +kernel
theorem dX11_seek_39 : decode cX11_seek 39 = .ok (.ldc_w 291, 3) := by decide +kernel
theorem dX11_seek_42 : decode cX11_seek 42 = .ok (.invokespecial 101, 3) := by decide +kernel
theorem dX11_seek_45 : decode cX11_seek 45 = .ok (.athrow, 1) := by decide +kernel
theorem dX11_seek_46 : decode cX11_seek 46 = .ok (.aload_n 0, 1) := by decide +kernel
theorem dX11_seek_47 : decode cX11_seek 47 = .ok (.getfield 26, 3) := by decide +kernel
theorem dX11_seek_50 : decode cX11_seek 50 = .ok (.aload_n 0, 1) := by decide +kernel
theorem dX11_seek_51 : decode cX11_seek 51 = .ok (.getfield 10, 3) := by decide +kernel
theorem dX11_seek_54 : decode cX11_seek 54 = .ok (.invokevirtual 182, 3) := by decide +kernel
theorem dX11_seek_57 : decode cX11_seek 57 = .ok (.aload_n 0, 1) := by decide +kernel
theorem dX11_seek_58 : decode cX11_seek 58 = .ok (.iload_n 1, 1) := by decide +kernel
theorem dX11_seek_59 : decode cX11_seek 59 = .ok (.invokevirtual 186, 3) := by decide +kernel
theorem dX11_seek_62 : decode cX11_seek 62 = .ok (.aload_n 0, 1) := by decide +kernel
theorem dX11_seek_63 : decode cX11_seek 63 = .ok (.getfield 33, 3) := by decide +kernel
theorem dX11_seek_66 : decode cX11_seek 66 = .ok (.iload_n 2, 1) := by decide +kernel
theorem dX11_seek_67 : decode cX11_seek 67 = .ok (.iload_n 3, 1) := by decide +kernel
theorem dX11_seek_68 : decode cX11_seek 68 = .ok (.iload 4, 2) := by decide +kernel
theorem dX11_seek_70 : decode cX11_seek 70 = .ok (.iload 5, 2) := by decide +kernel
theorem dX11_seek_72 : decode cX11_seek 72 = .ok (.invokevirtual 293, 3) := by decide +kernel
theorem dX11_seek_75 : decode cX11_seek 75 = .ok (.istore 6, 2) := by decide +kernel
theorem dX11_seek_77 : decode cX11_seek 77 = .ok (.aload_n 0, 1) := by decide +kernel
theorem dX11_seek_78 : decode cX11_seek 78 = .ok (.getfield 33, 3) := by decide +kernel
theorem dX11_seek_81 : decode cX11_seek 81 = .ok (.iload 6, 2) := by decide +kernel
theorem dX11_seek_83 : decode cX11_seek 83 = .ok (.invokevirtual 297, 3) := by decide +kernel
theorem dX11_seek_86 : decode cX11_seek 86 = .ok (.istore 7, 2) := by decide +kernel
theorem dX11_seek_88 : decode cX11_seek 88 = .ok (.iload 7, 2) := by decide +kernel
theorem dX11_seek_90 : decode cX11_seek 90 = .ok (.aload_n 0, 1) := by decide +kernel
theorem dX11_seek_91 : decode cX11_seek 91 = .ok (.getfield 33, 3) := by decide +kernel
theorem dX11_seek_94 : decode cX11_seek 94 = .ok (.getfield 268, 3) := by decide +kernel
theorem dX11_seek_97 : decode cX11_seek 97 = .ok (.if_icmp .lt 14, 3) := by decide +kernel
theorem dX11_seek_100 : decode cX11_seek 100 = .ok (.new 137, 3) := by decide +kernel
theorem dX11_seek_103 : decode cX11_seek 103 = .ok (.dup, 1) := by decide +kernel
theorem dX11_seek_104 : decode cX11_seek 104 = .ok (.ldc_w 299, 3) := by decide +kernel
theorem dX11_seek_107 : decode cX11_seek 107 = .ok (.invokespecial 141, 3) := by decide +kernel
theorem dX11_seek_110 : decode cX11_seek 110 = .ok (.athrow, 1) := by decide +kernel
theorem dX11_seek_111 : decode cX11_seek 111 = .ok (.iload 7, 2) := by decide +kernel
theorem dX11_seek_113 : decode cX11_seek 113 = .ok (.ireturn, 1) := by decide +kernel
theorem dX11_leaps_0 : decode cX11_leaps 0 = .ok (.aload_n 0, 1) := by decide +kernel
theorem dX11_leaps_1 : decode cX11_leaps 1 = .ok (.iload_n 1, 1) := by decide +kernel
theorem dX11_leaps_2 : decode cX11_leaps 2 = .ok (.invokevirtual 145, 3) := by decide +kernel
theorem dX11_leaps_5 : decode cX11_leaps 5 = .ok (.aload_n 0, 1) := by decide +kernel
theorem dX11_leaps_6 : decode cX11_leaps 6 = .ok (.getfield 26, 3) := by decide +kernel
theorem dX11_leaps_9 : decode cX11_leaps 9 = .ok (.aload_n 0, 1) := by decide +kernel
theorem dX11_leaps_10 : decode cX11_leaps 10 = .ok (.getfield 10, 3) := by decide +kernel
theorem dX11_leaps_13 : decode cX11_leaps 13 = .ok (.invokevirtual 182, 3) := by decide +kernel
theorem dX11_leaps_16 : decode cX11_leaps 16 = .ok (.aload_n 0, 1) := by decide +kernel
theorem dX11_leaps_17 : decode cX11_leaps 17 = .ok (.iload_n 1, 1) := by decide +kernel
theorem dX11_leaps_18 : decode cX11_leaps 18 = .ok (.invokevirtual 186, 3) := by decide +kernel
theorem dX11_leaps_21 : decode cX11_leaps 21 = .ok (.aload_n 0, 1) := by decide +kernel
theorem dX11_leaps_22 : decode cX11_leaps 22 = .ok (.getfield 33, 3) := by decide +kernel
theorem dX11_leaps_25 : decode cX11_leaps 25 = .ok (.getfield 301, 3) := by decide +kernel
theorem dX11_leaps_28 : decode cX11_leaps 28 = .ok (.getfield 305, 3) := by decide +kernel
theorem dX11_leaps_31 : decode cX11_leaps 31 = .ok (.ireturn, 1) := by decide +kernel
theorem dX11_groups_0 : decode cX11_groups 0 = .ok (.aload_n 0, 1) := by decide +kernel
theorem dX11_groups_1 : decode cX11_groups 1 = .ok (.iload_n 1, 1) := by decide +kernel
theorem dX11_groups_2 : decode cX11_groups 2 = .ok (.invokevirtual 145, 3) := by decide +kernel
theorem dX11_groups_5 : decode cX11_groups 5 = .ok (.aload_n 0, 1) := by decide +kernel
theorem dX11_groups_6 : decode cX11_groups 6 = .ok (.iload_n 1, 1) := by decide +kernel
theorem dX11_groups_7 : decode cX11_groups 7 = .ok (.iload_n 2, 1) := by decide +kernel
theorem dX11_groups_8 : decode cX11_groups 8 = .ok (.invokevirtual 271, 3) := by decide +kernel
theorem dX11_groups_11 : decode cX11_groups 11 = .ok (.aload_n 0, 1) := by decide +kernel
theorem dX11_groups_12 : decode cX11_groups 12 = .ok (.getfield 26, 3) := by decide +kernel
theorem dX11_groups_15 : decode cX11_groups 15 = .ok (.aload_n 0, 1) := by decide +kernel
theorem dX11_groups_16 : decode cX11_groups 16 = .ok (.getfield 10, 3) := by decide +kernel
theorem dX11_groups_19 : decode cX11_groups 19 = .ok (.invokevirtual 182, 3) := by decide +kernel
theorem dX11_groups_22 : decode cX11_groups 22 = .ok (.aload_n 0, 1) := by decide +kernel
theorem dX11_groups_23 : decode cX11_groups 23 = .ok (.iload_n 1, 1) := by decide +kernel
theorem dX11_groups_24 : decode cX11_groups 24 = .ok (.invokevirtual 186, 3) := by decide +kernel
theorem dX11_groups_27 : decode cX11_groups 27 = .ok (.iconst 0, 1) := by decide +kernel
theorem dX11_groups_28 : decode cX11_groups 28 = .ok (.istore_n 3, 1) := by decide +kernel
theorem dX11_groups_29 : decode cX11_groups 29 = .ok (.iconst 0, 1) := by decide +kernel
theorem dX11_groups_30 : decode cX11_groups 30 = .ok (.istore 4, 2) := by decide +kernel
theorem dX11_groups_32 : decode cX11_groups 32 = .ok (.iload 4, 2) := by decide +kernel
theorem dX11_groups_34 : decode cX11_groups 34 = .ok (.bipush 8, 2) := by decide +kernel
theorem dX11_groups_36 : decode cX11_groups 36 = .ok (.if_icmp .ge 30, 3) := by decide +kernel
theorem dX11_groups_39 : decode cX11_groups 39 = .ok (.iload_n 3, 1) := by decide +kernel
theorem dX11_groups_40 : decode cX11_groups 40 = .ok (.aload_n 0, 1) := by decide +kernel
theorem dX11_groups_41 : decode cX11_groups 41 = .ok (.getfield 33, 3) := by decide +kernel
theorem dX11_groups_44 : decode cX11_groups 44 = .ok (.iload_n 2, 1) := by decide +kernel
theorem dX11_groups_45 : decode cX11_groups 45 = .ok (.iload 4, 2) := by decide +kernel
theorem dX11_groups_47 : decode cX11_groups 47 = .ok (.invokevirtual 310, 3) := by decide +kernel
theorem dX11_groups_50 : decode cX11_groups 50 = .ok (.ifCond .le 7, 3) := by decide +kernel
theorem dX11_groups_53 : decode cX11_groups 53 = .ok (.iconst 1, 1) := by decide +kernel
theorem dX11_groups_54 : decode cX11_groups 54 = .ok (.goto 4, 3) := by decide +kernel
theorem dX11_groups_57 : decode cX11_groups 57 = .ok (.iconst 0, 1) := by decide +kernel
theorem dX11_groups_58 : decode cX11_groups 58 = .ok (.iadd, 1) := by decide +kernel
theorem dX11_groups_59 : decode cX11_groups 59 = .ok (.istore_n 3, 1) := by decide +kernel
theorem dX11_groups_60 : decode cX11_groups 60 = .ok (.iinc 4 1, 3) := by decide +kernel
theorem dX11_groups_63 : decode cX11_groups 63 = .ok (.goto (-31), 3) := by decide +kernel
theorem dX11_groups_66 : decode cX11_groups 66 = .ok (.iload_n 3, 1) := by decide +kernel
theorem dX11_groups_67 : decode cX11_groups 67 = .ok (.ireturn, 1) := by decide +kernel
theorem dX11_groupSize_0 : decode cX11_groupSize 0 = .ok (.aload_n 0, 1) := by decide +kernel
theorem dX11_groupSize_1 : decode cX11_groupSize 1 = .ok (.iload_n 1, 1) := by decide +kernel
theorem dX11_groupSize_2 : decode cX11_groupSize 2 = .ok (.invokevirtual 145, 3) := by decide +kernel
theorem dX11_groupSize_5 : decode cX11_groupSize 5 = .ok (.aload_n 0, 1) := by decide +kernel
theorem dX11_groupSize_6 : decode cX11_groupSize 6 = .ok (.iload_n 1, 1) := by decide +kernel
theorem dX11_groupSize_7 : decode cX11_groupSize 7 = .ok (.iload_n 2, 1) := by decide +kernel
theorem dX11_groupSize_8 : decode cX11_groupSize 8 = .ok (.invokevirtual 271, 3) := by decide +kernel
theorem dX11_groupSize_11 : decode cX11_groupSize 11 = .ok (.iload_n 3, 1) := by decide +kernel
theorem dX11_groupSize_12 : decode cX11_groupSize 12 = .ok (.invokestatic 288, 3) := by decide +kernel
theorem dX11_groupSize_15 : decode cX11_groupSize 15 = .ok (.ifCond .ne 14, 3) := by decide +kernel
theorem dX11_groupSize_18 : decode cX11_groupSize 18 = .ok (.new 97, 3) := by decide +kernel
theorem dX11_groupSize_21 : decode cX11_groupSize 21 = .ok (.dup, 1) := by decide +kernel
theorem dX11_groupSize_22 : decode cX11_groupSize 22 = .ok (.ldc_w 291, 3) := by decide +kernel
theorem dX11_groupSize_25 : decode cX11_groupSize 25 = .ok (.invokespecial 101, 3) := by decide +kernel
theorem dX11_groupSize_28 : decode cX11_groupSize 28 = .ok (.athrow, 1) := by decide +kernel
theorem dX11_groupSize_29 : decode cX11_groupSize 29 = .ok (.aload_n 0, 1) := by decide +kernel
theorem dX11_groupSize_30 : decode cX11_groupSize 30 = .ok (.getfield 26, 3) := by decide +kernel
theorem dX11_groupSize_33 : decode cX11_groupSize 33 = .ok (.aload_n 0, 1) := by decide +kernel
theorem dX11_groupSize_34 : decode cX11_groupSize 34 = .ok (.getfield 10, 3) := by decide +kernel
theorem dX11_groupSize_37 : decode cX11_groupSize 37 = .ok (.invokevirtual 182, 3) := by decide +kernel
theorem dX11_groupSize_40 : decode cX11_groupSize 40 = .ok (.aload_n 0, 1) := by decide +kernel
theorem dX11_groupSize_41 : decode cX11_groupSize 41 = .ok (.iload_n 1, 1) := by decide +kernel
theorem dX11_groupSize_42 : decode cX11_groupSize 42 = .ok (.invokevirtual 186, 3) := by decide +kernel
theorem dX11_groupSize_45 : decode cX11_groupSize 45 = .ok (.aload_n 0, 1) := by decide +kernel
theorem dX11_groupSize_46 : decode cX11_groupSize 46 = .ok (.getfield 33, 3) := by decide +kernel
theorem dX11_groupSize_49 : decode cX11_groupSize 49 = .ok (.iload_n 2, 1) := by decide +kernel
theorem dX11_groupSize_50 : decode cX11_groupSize 50 = .ok (.iload_n 3, 1) := by decide +kernel
theorem dX11_groupSize_51 : decode cX11_groupSize 51 = .ok (.invokevirtual 310, 3) := by decide +kernel
theorem dX11_groupSize_54 : decode cX11_groupSize 54 = .ok (.ireturn, 1) := by decide +kernel
theorem dX11_idleRows_0 : decode cX11_idleRows 0 = .ok (.aload_n 0, 1) := by decide +kernel
theorem dX11_idleRows_1 : decode cX11_idleRows 1 = .ok (.iload_n 1, 1) := by decide +kernel
theorem dX11_idleRows_2 : decode cX11_idleRows 2 = .ok (.invokevirtual 145, 3) := by decide +kernel
theorem dX11_idleRows_5 : decode cX11_idleRows 5 = .ok (.aload_n 0, 1) := by decide +kernel
theorem dX11_idleRows_6 : decode cX11_idleRows 6 = .ok (.iload_n 1, 1) := by decide +kernel
theorem dX11_idleRows_7 : decode cX11_idleRows 7 = .ok (.iload_n 2, 1) := by decide +kernel
theorem dX11_idleRows_8 : decode cX11_idleRows 8 = .ok (.invokevirtual 179, 3) := by decide +kernel
theorem dX11_idleRows_11 : decode cX11_idleRows 11 = .ok (.aload_n 0, 1) := by decide +kernel
theorem dX11_idleRows_12 : decode cX11_idleRows 12 = .ok (.getfield 26, 3) := by decide +kernel
theorem dX11_idleRows_15 : decode cX11_idleRows 15 = .ok (.aload_n 0, 1) := by decide +kernel
theorem dX11_idleRows_16 : decode cX11_idleRows 16 = .ok (.getfield 10, 3) := by decide +kernel
theorem dX11_idleRows_19 : decode cX11_idleRows 19 = .ok (.invokevirtual 182, 3) := by decide +kernel
theorem dX11_idleRows_22 : decode cX11_idleRows 22 = .ok (.aload_n 0, 1) := by decide +kernel
theorem dX11_idleRows_23 : decode cX11_idleRows 23 = .ok (.iload_n 1, 1) := by decide +kernel
theorem dX11_idleRows_24 : decode cX11_idleRows 24 = .ok (.invokevirtual 186, 3) := by decide +kernel
theorem dX11_idleRows_27 : decode cX11_idleRows 27 = .ok (.aload_n 0, 1) := by decide +kernel
theorem dX11_idleRows_28 : decode cX11_idleRows 28 = .ok (.getfield 10, 3) := by decide +kernel
theorem dX11_idleRows_31 : decode cX11_idleRows 31 = .ok (.iload_n 1, 1) := by decide +kernel
theorem dX11_idleRows_32 : decode cX11_idleRows 32 = .ok (.invokevirtual 94, 3) := by decide +kernel
theorem dX11_idleRows_35 : decode cX11_idleRows 35 = .ok (.iload_n 2, 1) := by decide +kernel
theorem dX11_idleRows_36 : decode cX11_idleRows 36 = .ok (.invokevirtual 189, 3) := by decide +kernel
theorem dX11_idleRows_39 : decode cX11_idleRows 39 = .ok (.istore_n 3, 1) := by decide +kernel
theorem dX11_idleRows_40 : decode cX11_idleRows 40 = .ok (.aload_n 0, 1) := by decide +kernel
theorem dX11_idleRows_41 : decode cX11_idleRows 41 = .ok (.iload_n 3, 1) := by decide +kernel
theorem dX11_idleRows_42 : decode cX11_idleRows 42 = .ok (.invokevirtual 190, 3) := by decide +kernel
theorem dX11_idleRows_45 : decode cX11_idleRows 45 = .ok (.iload_n 3, 1) := by decide +kernel
theorem dX11_idleRows_46 : decode cX11_idleRows 46 = .ok (.invokestatic 193, 3) := by decide +kernel
theorem dX11_idleRows_49 : decode cX11_idleRows 49 = .ok (.istore 4, 2) := by decide +kernel
theorem dX11_idleRows_51 : decode cX11_idleRows 51 = .ok (.aload_n 0, 1) := by decide +kernel
theorem dX11_idleRows_52 : decode cX11_idleRows 52 = .ok (.getfield 26, 3) := by decide +kernel
theorem dX11_idleRows_55 : decode cX11_idleRows 55 = .ok (.getfield 228, 3) := by decide +kernel
theorem dX11_idleRows_58 : decode cX11_idleRows 58 = .ok (.iload 4, 2) := by decide +kernel
theorem dX11_idleRows_60 : decode cX11_idleRows 60 = .ok (.invokevirtual 131, 3) := by decide +kernel
theorem dX11_idleRows_63 : decode cX11_idleRows 63 = .ok (.aload_n 0, 1) := by decide +kernel
theorem dX11_idleRows_64 : decode cX11_idleRows 64 = .ok (.getfield 54, 3) := by decide +kernel
theorem dX11_idleRows_67 : decode cX11_idleRows 67 = .ok (.iload 4, 2) := by decide +kernel
theorem dX11_idleRows_69 : decode cX11_idleRows 69 = .ok (.invokevirtual 131, 3) := by decide +kernel
theorem dX11_idleRows_72 : decode cX11_idleRows 72 = .ok (.isub, 1) := by decide +kernel
theorem dX11_idleRows_73 : decode cX11_idleRows 73 = .ok (.ireturn, 1) := by decide +kernel
theorem dX11_isTree_0 : decode cX11_isTree 0 = .ok (.aload_n 0, 1) := by decide +kernel
theorem dX11_isTree_1 : decode cX11_isTree 1 = .ok (.iload_n 1, 1) := by decide +kernel
theorem dX11_isTree_2 : decode cX11_isTree 2 = .ok (.invokevirtual 145, 3) := by decide +kernel
theorem dX11_isTree_5 : decode cX11_isTree 5 = .ok (.aload_n 0, 1) := by decide +kernel
theorem dX11_isTree_6 : decode cX11_isTree 6 = .ok (.getfield 47, 3) := by decide +kernel
theorem dX11_isTree_9 : decode cX11_isTree 9 = .ok (.aload_n 0, 1) := by decide +kernel
theorem dX11_isTree_10 : decode cX11_isTree 10 = .ok (.getfield 10, 3) := by decide +kernel
theorem dX11_isTree_13 : decode cX11_isTree 13 = .ok (.iload_n 1, 1) := by decide +kernel
theorem dX11_isTree_14 : decode cX11_isTree 14 = .ok (.invokevirtual 94, 3) := by decide +kernel
theorem dX11_isTree_17 : decode cX11_isTree 17 = .ok (.invokevirtual 313, 3) := by decide +kernel
theorem dX11_isTree_20 : decode cX11_isTree 20 = .ok (.ireturn, 1) := by decide +kernel
theorem dX11_cover_0 : decode cX11_cover 0 = .ok (.aload_n 0, 1) := by decide +kernel
theorem dX11_cover_1 : decode cX11_cover 1 = .ok (.iload_n 1, 1) := by decide +kernel
theorem dX11_cover_2 : decode cX11_cover 2 = .ok (.invokevirtual 145, 3) := by decide +kernel
theorem dX11_cover_5 : decode cX11_cover 5 = .ok (.aload_n 0, 1) := by decide +kernel
theorem dX11_cover_6 : decode cX11_cover 6 = .ok (.getfield 26, 3) := by decide +kernel
theorem dX11_cover_9 : decode cX11_cover 9 = .ok (.aload_n 0, 1) := by decide +kernel
theorem dX11_cover_10 : decode cX11_cover 10 = .ok (.getfield 10, 3) := by decide +kernel
theorem dX11_cover_13 : decode cX11_cover 13 = .ok (.invokevirtual 182, 3) := by decide +kernel
theorem dX11_cover_16 : decode cX11_cover 16 = .ok (.aload_n 0, 1) := by decide +kernel
theorem dX11_cover_17 : decode cX11_cover 17 = .ok (.getfield 40, 3) := by decide +kernel
theorem dX11_cover_20 : decode cX11_cover 20 = .ok (.aload_n 0, 1) := by decide +kernel
theorem dX11_cover_21 : decode cX11_cover 21 = .ok (.getfield 10, 3) := by decide +kernel
theorem dX11_cover_24 : decode cX11_cover 24 = .ok (.iload_n 1, 1) := by decide +kernel
theorem dX11_cover_25 : decode cX11_cover 25 = .ok (.invokevirtual 94, 3) := by decide +kernel
theorem dX11_cover_28 : decode cX11_cover 28 = .ok (.aload_n 0, 1) := by decide +kernel
theorem dX11_cover_29 : decode cX11_cover 29 = .ok (.getfield 26, 3) := by decide +kernel
theorem dX11_cover_32 : decode cX11_cover 32 = .ok (.getfield 228, 3) := by decide +kernel
theorem dX11_cover_35 : decode cX11_cover 35 = .ok (.invokevirtual 317, 3) := by decide +kernel
theorem dX11_cover_38 : decode cX11_cover 38 = .ok (.aload_n 0, 1) := by decide +kernel
theorem dX11_cover_39 : decode cX11_cover 39 = .ok (.getfield 40, 3) := by decide +kernel
theorem dX11_cover_42 : decode cX11_cover 42 = .ok (.getfield 321, 3) := by decide +kernel
theorem dX11_cover_45 : decode cX11_cover 45 = .ok (.ireturn, 1) := by decide +kernel
theorem dX11_bound_0 : decode cX11_bound 0 = .ok (.aload_n 0, 1) := by decide +kernel
theorem dX11_bound_1 : decode cX11_bound 1 = .ok (.iload_n 1, 1) := by decide +kernel
theorem dX11_bound_2 : decode cX11_bound 2 = .ok (.invokevirtual 145, 3) := by decide +kernel
theorem dX11_bound_5 : decode cX11_bound 5 = .ok (.aload_n 0, 1) := by decide +kernel
theorem dX11_bound_6 : decode cX11_bound 6 = .ok (.getfield 26, 3) := by decide +kernel
theorem dX11_bound_9 : decode cX11_bound 9 = .ok (.aload_n 0, 1) := by decide +kernel
theorem dX11_bound_10 : decode cX11_bound 10 = .ok (.getfield 10, 3) := by decide +kernel
theorem dX11_bound_13 : decode cX11_bound 13 = .ok (.invokevirtual 182, 3) := by decide +kernel
theorem dX11_bound_16 : decode cX11_bound 16 = .ok (.aload_n 0, 1) := by decide +kernel
theorem dX11_bound_17 : decode cX11_bound 17 = .ok (.getfield 40, 3) := by decide +kernel
theorem dX11_bound_20 : decode cX11_bound 20 = .ok (.aload_n 0, 1) := by decide +kernel
theorem dX11_bound_21 : decode cX11_bound 21 = .ok (.getfield 10, 3) := by decide +kernel
theorem dX11_bound_24 : decode cX11_bound 24 = .ok (.iload_n 1, 1) := by decide +kernel
theorem dX11_bound_25 : decode cX11_bound 25 = .ok (.invokevirtual 94, 3) := by decide +kernel
theorem dX11_bound_28 : decode cX11_bound 28 = .ok (.aload_n 0, 1) := by decide +kernel
theorem dX11_bound_29 : decode cX11_bound 29 = .ok (.getfield 26, 3) := by decide +kernel
theorem dX11_bound_32 : decode cX11_bound 32 = .ok (.getfield 228, 3) := by decide +kernel
theorem dX11_bound_35 : decode cX11_bound 35 = .ok (.invokevirtual 317, 3) := by decide +kernel
theorem dX11_bound_38 : decode cX11_bound 38 = .ok (.aload_n 0, 1) := by decide +kernel
theorem dX11_bound_39 : decode cX11_bound 39 = .ok (.getfield 40, 3) := by decide +kernel
theorem dX11_bound_42 : decode cX11_bound 42 = .ok (.getfield 324, 3) := by decide +kernel
theorem dX11_bound_45 : decode cX11_bound 45 = .ok (.lreturn, 1) := by decide +kernel
theorem dX11_ruleCount_0 : decode cX11_ruleCount 0 = .ok (.aload_n 0, 1) := by decide +kernel
theorem dX11_ruleCount_1 : decode cX11_ruleCount 1 = .ok (.getfield 10, 3) := by decide +kernel
theorem dX11_ruleCount_4 : decode cX11_ruleCount 4 = .ok (.getfield 200, 3) := by decide +kernel
theorem dX11_ruleCount_7 : decode cX11_ruleCount 7 = .ok (.ireturn, 1) := by decide +kernel
theorem dX11_isIdle_0 : decode cX11_isIdle 0 = .ok (.aload_n 0, 1) := by decide +kernel
theorem dX11_isIdle_1 : decode cX11_isIdle 1 = .ok (.iload_n 1, 1) := by decide +kernel
theorem dX11_isIdle_2 : decode cX11_isIdle 2 = .ok (.invokevirtual 205, 3) := by decide +kernel
theorem dX11_isIdle_5 : decode cX11_isIdle 5 = .ok (.aload_n 0, 1) := by decide +kernel
theorem dX11_isIdle_6 : decode cX11_isIdle 6 = .ok (.getfield 10, 3) := by decide +kernel
theorem dX11_isIdle_9 : decode cX11_isIdle 9 = .ok (.iload_n 1, 1) := by decide +kernel
theorem dX11_isIdle_10 : decode cX11_isIdle 10 = .ok (.invokevirtual 328, 3) := by decide +kernel
theorem dX11_isIdle_13 : decode cX11_isIdle 13 = .ok (.ireturn, 1) := by decide +kernel
theorem dX11_layerOf_0 : decode cX11_layerOf 0 = .ok (.aload_n 0, 1) := by decide +kernel
theorem dX11_layerOf_1 : decode cX11_layerOf 1 = .ok (.iload_n 1, 1) := by decide +kernel
theorem dX11_layerOf_2 : decode cX11_layerOf 2 = .ok (.invokevirtual 118, 3) := by decide +kernel
theorem dX11_layerOf_5 : decode cX11_layerOf 5 = .ok (.aload_n 0, 1) := by decide +kernel
theorem dX11_layerOf_6 : decode cX11_layerOf 6 = .ok (.getfield 26, 3) := by decide +kernel
theorem dX11_layerOf_9 : decode cX11_layerOf 9 = .ok (.aload_n 0, 1) := by decide +kernel
theorem dX11_layerOf_10 : decode cX11_layerOf 10 = .ok (.getfield 10, 3) := by decide +kernel
theorem dX11_layerOf_13 : decode cX11_layerOf 13 = .ok (.invokevirtual 182, 3) := by decide +kernel
theorem dX11_layerOf_16 : decode cX11_layerOf 16 = .ok (.aload_n 0, 1) := by decide +kernel
theorem dX11_layerOf_17 : decode cX11_layerOf 17 = .ok (.getfield 26, 3) := by decide +kernel
theorem dX11_layerOf_20 : decode cX11_layerOf 20 = .ok (.getfield 331, 3) := by decide +kernel
theorem dX11_layerOf_23 : decode cX11_layerOf 23 = .ok (.iload_n 1, 1) := by decide +kernel
theorem dX11_layerOf_24 : decode cX11_layerOf 24 = .ok (.invokevirtual 159, 3) := by decide +kernel
theorem dX11_layerOf_27 : decode cX11_layerOf 27 = .ok (.ireturn, 1) := by decide +kernel
theorem dX11_rounds_0 : decode cX11_rounds 0 = .ok (.aload_n 0, 1) := by decide +kernel
theorem dX11_rounds_1 : decode cX11_rounds 1 = .ok (.getfield 26, 3) := by decide +kernel
theorem dX11_rounds_4 : decode cX11_rounds 4 = .ok (.aload_n 0, 1) := by decide +kernel
theorem dX11_rounds_5 : decode cX11_rounds 5 = .ok (.getfield 10, 3) := by decide +kernel
theorem dX11_rounds_8 : decode cX11_rounds 8 = .ok (.invokevirtual 182, 3) := by decide +kernel
theorem dX11_rounds_11 : decode cX11_rounds 11 = .ok (.aload_n 0, 1) := by decide +kernel
theorem dX11_rounds_12 : decode cX11_rounds 12 = .ok (.getfield 26, 3) := by decide +kernel
theorem dX11_rounds_15 : decode cX11_rounds 15 = .ok (.getfield 334, 3) := by decide +kernel
theorem dX11_rounds_18 : decode cX11_rounds 18 = .ok (.ireturn, 1) := by decide +kernel
theorem dX11_firings_0 : decode cX11_firings 0 = .ok (.aload_n 0, 1) := by decide +kernel
theorem dX11_firings_1 : decode cX11_firings 1 = .ok (.iload_n 1, 1) := by decide +kernel
theorem dX11_firings_2 : decode cX11_firings 2 = .ok (.invokevirtual 205, 3) := by decide +kernel
theorem dX11_firings_5 : decode cX11_firings 5 = .ok (.aload_n 0, 1) := by decide +kernel
theorem dX11_firings_6 : decode cX11_firings 6 = .ok (.getfield 26, 3) := by decide +kernel
theorem dX11_firings_9 : decode cX11_firings 9 = .ok (.aload_n 0, 1) := by decide +kernel
theorem dX11_firings_10 : decode cX11_firings 10 = .ok (.getfield 10, 3) := by decide +kernel
theorem dX11_firings_13 : decode cX11_firings 13 = .ok (.invokevirtual 182, 3) := by decide +kernel
theorem dX11_firings_16 : decode cX11_firings 16 = .ok (.aload_n 0, 1) := by decide +kernel
theorem dX11_firings_17 : decode cX11_firings 17 = .ok (.getfield 26, 3) := by decide +kernel
theorem dX11_firings_20 : decode cX11_firings 20 = .ok (.getfield 337, 3) := by decide +kernel
theorem dX11_firings_23 : decode cX11_firings 23 = .ok (.iload_n 1, 1) := by decide +kernel
theorem dX11_firings_24 : decode cX11_firings 24 = .ok (.invokevirtual 159, 3) := by decide +kernel
theorem dX11_firings_27 : decode cX11_firings 27 = .ok (.ireturn, 1) := by decide +kernel
theorem dX11_meanReasons_0 : decode cX11_meanReasons 0 = .ok (.aload_n 0, 1) := by decide +kernel
theorem dX11_meanReasons_1 : decode cX11_meanReasons 1 = .ok (.getfield 26, 3) := by decide +kernel
theorem dX11_meanReasons_4 : decode cX11_meanReasons 4 = .ok (.aload_n 0, 1) := by decide +kernel
theorem dX11_meanReasons_5 : decode cX11_meanReasons 5 = .ok (.getfield 10, 3) := by decide +kernel
theorem dX11_meanReasons_8 : decode cX11_meanReasons 8 = .ok (.invokevirtual 182, 3) := by decide +kernel
theorem dX11_meanReasons_11 : decode cX11_meanReasons 11 = .ok (.aload_n 0, 1) := by decide +kernel
theorem dX11_meanReasons_12 : decode cX11_meanReasons 12 = .ok (.invokevirtual 340, 3) := by decide +kernel
theorem dX11_meanReasons_15 : decode cX11_meanReasons 15 = .ok (.istore_n 1, 1) := by decide +kernel
theorem dX11_meanReasons_16 : decode cX11_meanReasons 16 = .ok (.iload_n 1, 1) := by decide +kernel
theorem dX11_meanReasons_17 : decode cX11_meanReasons 17 = .ok (.ifCond .ne 5, 3) := by decide +kernel
theorem dX11_meanReasons_20 : decode cX11_meanReasons 20 = .ok (.dconst 0, 1) := by decide +kernel
theorem dX11_meanReasons_21 : decode cX11_meanReasons 21 = .ok (.dreturn, 1) := by decide +kernel
theorem dX11_meanReasons_22 : decode cX11_meanReasons 22 = .ok (.lconst 0, 1) := by decide +kernel
theorem dX11_meanReasons_23 : decode cX11_meanReasons 23 = .ok (.lstore_n 2, 1) := by decide +kernel
theorem dX11_meanReasons_24 : decode cX11_meanReasons 24 = .ok (.iconst 0, 1) := by decide +kernel
theorem dX11_meanReasons_25 : decode cX11_meanReasons 25 = .ok (.istore 4, 2) := by decide +kernel
theorem dX11_meanReasons_27 : decode cX11_meanReasons 27 = .ok (.iload 4, 2) := by decide +kernel
theorem dX11_meanReasons_29 : decode cX11_meanReasons 29 = .ok (.aload_n 0, 1) := by decide +kernel
theorem dX11_meanReasons_30 : decode cX11_meanReasons 30 = .ok (.getfield 10, 3) := by decide +kernel
theorem dX11_meanReasons_33 : decode cX11_meanReasons 33 = .ok (.getfield 104, 3) := by decide +kernel
theorem dX11_meanReasons_36 : decode cX11_meanReasons 36 = .ok (.if_icmp .ge 45, 3) := by decide +kernel
theorem dX11_meanReasons_39 : decode cX11_meanReasons 39 = .ok (.iconst 0, 1) := by decide +kernel
theorem dX11_meanReasons_40 : decode cX11_meanReasons 40 = .ok (.istore 5, 2) := by decide +kernel
theorem dX11_meanReasons_42 : decode cX11_meanReasons 42 = .ok (.iload 5, 2) := by decide +kernel
theorem dX11_meanReasons_44 : decode cX11_meanReasons 44 = .ok (.sipush 512, 3) := by decide +kernel
theorem dX11_meanReasons_47 : decode cX11_meanReasons 47 = .ok (.if_icmp .ge 28, 3) := by decide +kernel
theorem dX11_meanReasons_50 : decode cX11_meanReasons 50 = .ok (.lload_n 2, 1) := by decide +kernel
theorem dX11_meanReasons_51 : decode cX11_meanReasons 51 = .ok (.aload_n 0, 1) := by decide +kernel
theorem dX11_meanReasons_52 : decode cX11_meanReasons 52 = .ok (.getfield 26, 3) := by decide +kernel
theorem dX11_meanReasons_55 : decode cX11_meanReasons 55 = .ok (.aload_n 0, 1) := by decide +kernel
theorem dX11_meanReasons_56 : decode cX11_meanReasons 56 = .ok (.getfield 10, 3) := by decide +kernel
theorem dX11_meanReasons_59 : decode cX11_meanReasons 59 = .ok (.iload 4, 2) := by decide +kernel
theorem dX11_meanReasons_61 : decode cX11_meanReasons 61 = .ok (.iload 5, 2) := by decide +kernel
theorem dX11_meanReasons_63 : decode cX11_meanReasons 63 = .ok (.invokevirtual 231, 3) := by decide +kernel
theorem dX11_meanReasons_66 : decode cX11_meanReasons 66 = .ok (.i2l, 1) := by decide +kernel
theorem dX11_meanReasons_67 : decode cX11_meanReasons 67 = .ok (.ladd, 1) := by decide +kernel
theorem dX11_meanReasons_68 : decode cX11_meanReasons 68 = .ok (.lstore_n 2, 1) := by decide +kernel
theorem dX11_meanReasons_69 : decode cX11_meanReasons 69 = .ok (.iinc 5 1, 3) := by decide +kernel
theorem dX11_meanReasons_72 : decode cX11_meanReasons 72 = .ok (.goto (-30), 3) := by decide +kernel
theorem dX11_meanReasons_75 : decode cX11_meanReasons 75 = .ok (.iinc 4 1, 3) := by decide +kernel
theorem dX11_meanReasons_78 : decode cX11_meanReasons 78 = .ok (.goto (-51), 3) := by decide +kernel
theorem dX11_meanReasons_81 : decode cX11_meanReasons 81 = .ok (.lload_n 2, 1) := by decide +kernel
theorem dX11_meanReasons_82 : decode cX11_meanReasons 82 = .ok (.l2d, 1) := by decide +kernel
theorem dX11_meanReasons_83 : decode cX11_meanReasons 83 = .ok (.iload_n 1, 1) := by decide +kernel
theorem dX11_meanReasons_84 : decode cX11_meanReasons 84 = .ok (.i2d, 1) := by decide +kernel
theorem dX11_meanReasons_85 : decode cX11_meanReasons 85 = .ok (.ddiv, 1) := by decide +kernel
theorem dX11_meanReasons_86 : decode cX11_meanReasons 86 = .ok (.dreturn, 1) := by decide +kernel
theorem dX11_factShare_0 : decode cX11_factShare 0 = .ok (.aload_n 0, 1) := by decide +kernel
theorem dX11_factShare_1 : decode cX11_factShare 1 = .ok (.getfield 26, 3) := by decide +kernel
theorem dX11_factShare_4 : decode cX11_factShare 4 = .ok (.aload_n 0, 1) := by decide +kernel
theorem dX11_factShare_5 : decode cX11_factShare 5 = .ok (.getfield 10, 3) := by decide +kernel
theorem dX11_factShare_8 : decode cX11_factShare 8 = .ok (.invokevirtual 182, 3) := by decide +kernel
theorem dX11_factShare_11 : decode cX11_factShare 11 = .ok (.aload_n 0, 1) := by decide +kernel
theorem dX11_factShare_12 : decode cX11_factShare 12 = .ok (.invokevirtual 340, 3) := by decide +kernel
theorem dX11_factShare_15 : decode cX11_factShare 15 = .ok (.istore_n 1, 1) := by decide +kernel
theorem dX11_factShare_16 : decode cX11_factShare 16 = .ok (.iload_n 1, 1) := by decide +kernel
theorem dX11_factShare_17 : decode cX11_factShare 17 = .ok (.ifCond .ne 5, 3) := by decide +kernel
theorem dX11_factShare_20 : decode cX11_factShare 20 = .ok (.fconst 0, 1) := by decide +kernel
theorem dX11_factShare_21 : decode cX11_factShare 21 = .ok (.freturn, 1) := by decide +kernel
theorem dX11_factShare_22 : decode cX11_factShare 22 = .ok (.iconst 0, 1) := by decide +kernel
theorem dX11_factShare_23 : decode cX11_factShare 23 = .ok (.istore_n 2, 1) := by decide +kernel
theorem dX11_factShare_24 : decode cX11_factShare 24 = .ok (.iconst 0, 1) := by decide +kernel
theorem dX11_factShare_25 : decode cX11_factShare 25 = .ok (.istore_n 3, 1) := by decide +kernel
theorem dX11_factShare_26 : decode cX11_factShare 26 = .ok (.iload_n 3, 1) := by decide +kernel
theorem dX11_factShare_27 : decode cX11_factShare 27 = .ok (.aload_n 0, 1) := by decide +kernel
theorem dX11_factShare_28 : decode cX11_factShare 28 = .ok (.getfield 10, 3) := by decide +kernel
theorem dX11_factShare_31 : decode cX11_factShare 31 = .ok (.getfield 104, 3) := by decide +kernel
theorem dX11_factShare_34 : decode cX11_factShare 34 = .ok (.if_icmp .ge 23, 3) := by decide +kernel
theorem dX11_factShare_37 : decode cX11_factShare 37 = .ok (.iload_n 2, 1) := by decide +kernel
theorem dX11_factShare_38 : decode cX11_factShare 38 = .ok (.aload_n 0, 1) := by decide +kernel
theorem dX11_factShare_39 : decode cX11_factShare 39 = .ok (.getfield 10, 3) := by decide +kernel
theorem dX11_factShare_42 : decode cX11_factShare 42 = .ok (.getfield 66, 3) := by decide +kernel
theorem dX11_factShare_45 : decode cX11_factShare 45 = .ok (.iload_n 3, 1) := by decide +kernel
theorem dX11_factShare_46 : decode cX11_factShare 46 = .ok (.invokevirtual 131, 3) := by decide +kernel
theorem dX11_factShare_49 : decode cX11_factShare 49 = .ok (.iadd, 1) := by decide +kernel
theorem dX11_factShare_50 : decode cX11_factShare 50 = .ok (.istore_n 2, 1) := by decide +kernel
theorem dX11_factShare_51 : decode cX11_factShare 51 = .ok (.iinc 3 1, 3) := by decide +kernel
theorem dX11_factShare_54 : decode cX11_factShare 54 = .ok (.goto (-28), 3) := by decide +kernel
theorem dX11_factShare_57 : decode cX11_factShare 57 = .ok (.iload_n 2, 1) := by decide +kernel
theorem dX11_factShare_58 : decode cX11_factShare 58 = .ok (.i2f, 1) := by decide +kernel
theorem dX11_factShare_59 : decode cX11_factShare 59 = .ok (.iload_n 1, 1) := by decide +kernel
theorem dX11_factShare_60 : decode cX11_factShare 60 = .ok (.i2f, 1) := by decide +kernel
theorem dX11_factShare_61 : decode cX11_factShare 61 = .ok (.fdiv, 1) := by decide +kernel
theorem dX11_factShare_62 : decode cX11_factShare 62 = .ok (.freturn, 1) := by decide +kernel
theorem dX11_errors_0 : decode cX11_errors 0 = .ok (.aload_n 0, 1) := by decide +kernel
theorem dX11_errors_1 : decode cX11_errors 1 = .ok (.getfield 26, 3) := by decide +kernel
theorem dX11_errors_4 : decode cX11_errors 4 = .ok (.aload_n 0, 1) := by decide +kernel
theorem dX11_errors_5 : decode cX11_errors 5 = .ok (.getfield 10, 3) := by decide +kernel
theorem dX11_errors_8 : decode cX11_errors 8 = .ok (.invokevirtual 182, 3) := by decide +kernel
theorem dX11_errors_11 : decode cX11_errors 11 = .ok (.iconst 0, 1) := by decide +kernel
theorem dX11_errors_12 : decode cX11_errors 12 = .ok (.istore_n 1, 1) := by decide +kernel
theorem dX11_errors_13 : decode cX11_errors 13 = .ok (.iconst 0, 1) := by decide +kernel
theorem dX11_errors_14 : decode cX11_errors 14 = .ok (.istore_n 2, 1) := by decide +kernel
theorem dX11_errors_15 : decode cX11_errors 15 = .ok (.iload_n 2, 1) := by decide +kernel
theorem dX11_errors_16 : decode cX11_errors 16 = .ok (.iconst 4, 1) := by decide +kernel
theorem dX11_errors_17 : decode cX11_errors 17 = .ok (.if_icmp .ge 44, 3) := by decide +kernel
theorem dX11_errors_20 : decode cX11_errors 20 = .ok (.aload_n 0, 1) := by decide +kernel
theorem dX11_errors_21 : decode cX11_errors 21 = .ok (.iload_n 2, 1) := by decide +kernel
theorem dX11_errors_22 : decode cX11_errors 22 = .ok (.invokevirtual 186, 3) := by decide +kernel
theorem dX11_errors_25 : decode cX11_errors 25 = .ok (.iload_n 1, 1) := by decide +kernel
theorem dX11_errors_26 : decode cX11_errors 26 = .ok (.aload_n 0, 1) := by decide +kernel
theorem dX11_errors_27 : decode cX11_errors 27 = .ok (.getfield 33, 3) := by decide +kernel
theorem dX11_errors_30 : decode cX11_errors 30 = .ok (.getfield 268, 3) := by decide +kernel
theorem dX11_errors_33 : decode cX11_errors 33 = .ok (.aload_n 0, 1) := by decide +kernel
theorem dX11_errors_34 : decode cX11_errors 34 = .ok (.aload_n 0, 1) := by decide +kernel
theorem dX11_errors_35 : decode cX11_errors 35 = .ok (.getfield 10, 3) := by decide +kernel
theorem dX11_errors_38 : decode cX11_errors 38 = .ok (.iload_n 2, 1) := by decide +kernel
theorem dX11_errors_39 : decode cX11_errors 39 = .ok (.invokevirtual 94, 3) := by decide +kernel
theorem dX11_errors_42 : decode cX11_errors 42 = .ok (.invokevirtual 344, 3) := by decide +kernel
theorem dX11_errors_45 : decode cX11_errors 45 = .ok (.if_icmp .ne 7, 3) := by decide +kernel
theorem dX11_errors_48 : decode cX11_errors 48 = .ok (.iconst 0, 1) := by decide +kernel
theorem dX11_errors_49 : decode cX11_errors 49 = .ok (.goto 4, 3) := by decide +kernel
theorem dX11_errors_52 : decode cX11_errors 52 = .ok (.iconst 1, 1) := by decide +kernel
theorem dX11_errors_53 : decode cX11_errors 53 = .ok (.iadd, 1) := by decide +kernel
theorem dX11_errors_54 : decode cX11_errors 54 = .ok (.istore_n 1, 1) := by decide +kernel
theorem dX11_errors_55 : decode cX11_errors 55 = .ok (.iinc 2 1, 3) := by decide +kernel
theorem dX11_errors_58 : decode cX11_errors 58 = .ok (.goto (-43), 3) := by decide +kernel
theorem dX11_errors_61 : decode cX11_errors 61 = .ok (.iconst 0, 1) := by decide +kernel
theorem dX11_errors_62 : decode cX11_errors 62 = .ok (.istore_n 2, 1) := by decide +kernel
theorem dX11_errors_63 : decode cX11_errors 63 = .ok (.iload_n 2, 1) := by decide +kernel
theorem dX11_errors_64 : decode cX11_errors 64 = .ok (.aload_n 0, 1) := by decide +kernel
theorem dX11_errors_65 : decode cX11_errors 65 = .ok (.getfield 10, 3) := by decide +kernel
theorem dX11_errors_68 : decode cX11_errors 68 = .ok (.getfield 104, 3) := by decide +kernel
theorem dX11_errors_71 : decode cX11_errors 71 = .ok (.if_icmp .ge 17, 3) := by decide +kernel
theorem dX11_errors_74 : decode cX11_errors 74 = .ok (.iload_n 1, 1) := by decide +kernel
theorem dX11_errors_75 : decode cX11_errors 75 = .ok (.aload_n 0, 1) := by decide +kernel
theorem dX11_errors_76 : decode cX11_errors 76 = .ok (.iload_n 2, 1) := by decide +kernel
theorem dX11_errors_77 : decode cX11_errors 77 = .ok (.invokevirtual 348, 3) := by decide +kernel
theorem dX11_errors_80 : decode cX11_errors 80 = .ok (.iadd, 1) := by decide +kernel
theorem dX11_errors_81 : decode cX11_errors 81 = .ok (.istore_n 1, 1) := by decide +kernel
theorem dX11_errors_82 : decode cX11_errors 82 = .ok (.iinc 2 1, 3) := by decide +kernel
theorem dX11_errors_85 : decode cX11_errors 85 = .ok (.goto (-22), 3) := by decide +kernel
theorem dX11_errors_88 : decode cX11_errors 88 = .ok (.iload_n 1, 1) := by decide +kernel
theorem dX11_errors_89 : decode cX11_errors 89 = .ok (.ireturn, 1) := by decide +kernel
theorem dX11_checksum_0 : decode cX11_checksum 0 = .ok (.aload_n 0, 1) := by decide +kernel
theorem dX11_checksum_1 : decode cX11_checksum 1 = .ok (.getfield 26, 3) := by decide +kernel
theorem dX11_checksum_4 : decode cX11_checksum 4 = .ok (.aload_n 0, 1) := by decide +kernel
theorem dX11_checksum_5 : decode cX11_checksum 5 = .ok (.getfield 10, 3) := by decide +kernel
theorem dX11_checksum_8 : decode cX11_checksum 8 = .ok (.invokevirtual 182, 3) := by decide +kernel
theorem dX11_checksum_11 : decode cX11_checksum 11 = .ok (.bipush 17, 2) := by decide +kernel
theorem dX11_checksum_13 : decode cX11_checksum 13 = .ok (.istore_n 1, 1) := by decide +kernel
theorem dX11_checksum_14 : decode cX11_checksum 14 = .ok (.iconst 0, 1) := by decide +kernel
theorem dX11_checksum_15 : decode cX11_checksum 15 = .ok (.istore_n 2, 1) := by decide +kernel
theorem dX11_checksum_16 : decode cX11_checksum 16 = .ok (.iload_n 2, 1) := by decide +kernel
theorem dX11_checksum_17 : decode cX11_checksum 17 = .ok (.aload_n 0, 1) := by decide +kernel
theorem dX11_checksum_18 : decode cX11_checksum 18 = .ok (.getfield 10, 3) := by decide +kernel
theorem dX11_checksum_21 : decode cX11_checksum 21 = .ok (.getfield 104, 3) := by decide +kernel
theorem dX11_checksum_24 : decode cX11_checksum 24 = .ok (.if_icmp .ge 56, 3) := by decide +kernel
theorem dX11_checksum_27 : decode cX11_checksum 27 = .ok (.iconst 0, 1) := by decide +kernel
theorem dX11_checksum_28 : decode cX11_checksum 28 = .ok (.istore_n 3, 1) := by decide +kernel
theorem dX11_checksum_29 : decode cX11_checksum 29 = .ok (.iload_n 3, 1) := by decide +kernel
theorem dX11_checksum_30 : decode cX11_checksum 30 = .ok (.sipush 512, 3) := by decide +kernel
theorem dX11_checksum_33 : decode cX11_checksum 33 = .ok (.if_icmp .ge 41, 3) := by decide +kernel
theorem dX11_checksum_36 : decode cX11_checksum 36 = .ok (.aload_n 0, 1) := by decide +kernel
theorem dX11_checksum_37 : decode cX11_checksum 37 = .ok (.getfield 26, 3) := by decide +kernel
theorem dX11_checksum_40 : decode cX11_checksum 40 = .ok (.getfield 228, 3) := by decide +kernel
theorem dX11_checksum_43 : decode cX11_checksum 43 = .ok (.iload_n 2, 1) := by decide +kernel
theorem dX11_checksum_44 : decode cX11_checksum 44 = .ok (.iload_n 3, 1) := by decide +kernel
theorem dX11_checksum_45 : decode cX11_checksum 45 = .ok (.invokevirtual 125, 3) := by decide +kernel
theorem dX11_checksum_48 : decode cX11_checksum 48 = .ok (.ifCond .eq 20, 3) := by decide +kernel
theorem dX11_checksum_51 : decode cX11_checksum 51 = .ok (.iload_n 1, 1) := by decide +kernel
theorem dX11_checksum_52 : decode cX11_checksum 52 = .ok (.iload_n 3, 1) := by decide +kernel
theorem dX11_checksum_53 : decode cX11_checksum 53 = .ok (.aload_n 0, 1) := by decide +kernel
theorem dX11_checksum_54 : decode cX11_checksum 54 = .ok (.getfield 10, 3) := by decide +kernel
theorem dX11_checksum_57 : decode cX11_checksum 57 = .ok (.getfield 155, 3) := by decide +kernel
theorem dX11_checksum_60 : decode cX11_checksum 60 = .ok (.iload_n 2, 1) := by decide +kernel
theorem dX11_checksum_61 : decode cX11_checksum 61 = .ok (.invokevirtual 159, 3) := by decide +kernel
theorem dX11_checksum_64 : decode cX11_checksum 64 = .ok (.invokestatic 351, 3) := by decide +kernel
theorem dX11_checksum_67 : decode cX11_checksum 67 = .ok (.istore_n 1, 1) := by decide +kernel
theorem dX11_checksum_68 : decode cX11_checksum 68 = .ok (.iinc 3 1, 3) := by decide +kernel
theorem dX11_checksum_71 : decode cX11_checksum 71 = .ok (.goto (-42), 3) := by decide +kernel
theorem dX11_checksum_74 : decode cX11_checksum 74 = .ok (.iinc 2 1, 3) := by decide +kernel
theorem dX11_checksum_77 : decode cX11_checksum 77 = .ok (.goto (-61), 3) := by decide +kernel
theorem dX11_checksum_80 : decode cX11_checksum 80 = .ok (.iconst 0, 1) := by decide +kernel
theorem dX11_checksum_81 : decode cX11_checksum 81 = .ok (.istore_n 2, 1) := by decide +kernel
theorem dX11_checksum_82 : decode cX11_checksum 82 = .ok (.iload_n 2, 1) := by decide +kernel
theorem dX11_checksum_83 : decode cX11_checksum 83 = .ok (.iconst 4, 1) := by decide +kernel
theorem dX11_checksum_84 : decode cX11_checksum 84 = .ok (.if_icmp .ge 27, 3) := by decide +kernel
theorem dX11_checksum_87 : decode cX11_checksum 87 = .ok (.aload_n 0, 1) := by decide +kernel
theorem dX11_checksum_88 : decode cX11_checksum 88 = .ok (.iload_n 2, 1) := by decide +kernel
theorem dX11_checksum_89 : decode cX11_checksum 89 = .ok (.invokevirtual 186, 3) := by decide +kernel
theorem dX11_checksum_92 : decode cX11_checksum 92 = .ok (.bipush 31, 2) := by decide +kernel
theorem dX11_checksum_94 : decode cX11_checksum 94 = .ok (.iload_n 1, 1) := by decide +kernel
theorem dX11_checksum_95 : decode cX11_checksum 95 = .ok (.imul, 1) := by decide +kernel
theorem dX11_checksum_96 : decode cX11_checksum 96 = .ok (.aload_n 0, 1) := by decide +kernel
theorem dX11_checksum_97 : decode cX11_checksum 97 = .ok (.getfield 33, 3) := by decide +kernel
theorem dX11_checksum_100 : decode cX11_checksum 100 = .ok (.getfield 268, 3) := by decide +kernel
theorem dX11_checksum_103 : decode cX11_checksum 103 = .ok (.iadd, 1) := by decide +kernel
theorem dX11_checksum_104 : decode cX11_checksum 104 = .ok (.istore_n 1, 1) := by decide +kernel
theorem dX11_checksum_105 : decode cX11_checksum 105 = .ok (.iinc 2 1, 3) := by decide +kernel
theorem dX11_checksum_108 : decode cX11_checksum 108 = .ok (.goto (-26), 3) := by decide +kernel
theorem dX11_checksum_111 : decode cX11_checksum 111 = .ok (.iload_n 1, 1) := by decide +kernel
theorem dX11_checksum_112 : decode cX11_checksum 112 = .ok (.ireturn, 1) := by decide +kernel
theorem dX11_needTable_0 : decode cX11_needTable 0 = .ok (.iload_n 1, 1) := by decide +kernel
theorem dX11_needTable_1 : decode cX11_needTable 1 = .ok (.ifCond .lt 14, 3) := by decide +kernel
theorem dX11_needTable_4 : decode cX11_needTable 4 = .ok (.iload_n 1, 1) := by decide +kernel
theorem dX11_needTable_5 : decode cX11_needTable 5 = .ok (.aload_n 0, 1) := by decide +kernel
theorem dX11_needTable_6 : decode cX11_needTable 6 = .ok (.getfield 10, 3) := by decide +kernel
theorem dX11_needTable_9 : decode cX11_needTable 9 = .ok (.getfield 104, 3) := by decide +kernel
theorem dX11_needTable_12 : decode cX11_needTable 12 = .ok (.if_icmp .lt 14, 3) := by decide +kernel
theorem dX11_needTable_15 : decode cX11_needTable 15 = .ok (.new 238, 3) := by decide +kernel
theorem dX11_needTable_18 : decode cX11_needTable 18 = .ok (.dup, 1) := by decide +kernel
theorem dX11_needTable_19 : decode cX11_needTable 19 = .ok (.ldc_w 354, 3) := by decide +kernel
theorem dX11_needTable_22 : decode cX11_needTable 22 = .ok (.invokespecial 242, 3) := by decide +kernel
theorem dX11_needTable_25 : decode cX11_needTable 25 = .ok (.athrow, 1) := by decide +kernel
theorem dX11_needTable_26 : decode cX11_needTable 26 = .ok (.return_, 1) := by decide +kernel
theorem dX11_needColumn_0 : decode cX11_needColumn 0 = .ok (.iload_n 2, 1) := by decide +kernel
theorem dX11_needColumn_1 : decode cX11_needColumn 1 = .ok (.ifCond .lt 18, 3) := by decide +kernel
theorem dX11_needColumn_4 : decode cX11_needColumn 4 = .ok (.iload_n 2, 1) := by decide +kernel
theorem dX11_needColumn_5 : decode cX11_needColumn 5 = .ok (.aload_n 0, 1) := by decide +kernel
theorem dX11_needColumn_6 : decode cX11_needColumn 6 = .ok (.getfield 10, 3) := by decide +kernel
theorem dX11_needColumn_9 : decode cX11_needColumn 9 = .ok (.getfield 155, 3) := by decide +kernel
theorem dX11_needColumn_12 : decode cX11_needColumn 12 = .ok (.iload_n 1, 1) := by decide +kernel
theorem dX11_needColumn_13 : decode cX11_needColumn 13 = .ok (.invokevirtual 159, 3) := by decide +kernel
theorem dX11_needColumn_16 : decode cX11_needColumn 16 = .ok (.if_icmp .lt 14, 3) := by decide +kernel
theorem dX11_needColumn_19 : decode cX11_needColumn 19 = .ok (.new 238, 3) := by decide +kernel
theorem dX11_needColumn_22 : decode cX11_needColumn 22 = .ok (.dup, 1) := by decide +kernel
theorem dX11_needColumn_23 : decode cX11_needColumn 23 = .ok (.ldc_w 356, 3) := by decide +kernel
theorem dX11_needColumn_26 : decode cX11_needColumn 26 = .ok (.invokespecial 242, 3) := by decide +kernel
theorem dX11_needColumn_29 : decode cX11_needColumn 29 = .ok (.athrow, 1) := by decide +kernel
theorem dX11_needColumn_30 : decode cX11_needColumn 30 = .ok (.return_, 1) := by decide +kernel
theorem dX11_needQuery_0 : decode cX11_needQuery 0 = .ok (.iload_n 1, 1) := by decide +kernel
theorem dX11_needQuery_1 : decode cX11_needQuery 1 = .ok (.ifCond .lt 8, 3) := by decide +kernel
theorem dX11_needQuery_4 : decode cX11_needQuery 4 = .ok (.iload_n 1, 1) := by decide +kernel
theorem dX11_needQuery_5 : decode cX11_needQuery 5 = .ok (.iconst 4, 1) := by decide +kernel
theorem dX11_needQuery_6 : decode cX11_needQuery 6 = .ok (.if_icmp .lt 14, 3) := by decide +kernel
theorem dX11_needQuery_9 : decode cX11_needQuery 9 = .ok (.new 238, 3) := by decide +kernel
theorem dX11_needQuery_12 : decode cX11_needQuery 12 = .ok (.dup, 1) := by decide +kernel
theorem dX11_needQuery_13 : decode cX11_needQuery 13 = .ok (.ldc_w 358, 3) := by decide +kernel
theorem dX11_needQuery_16 : decode cX11_needQuery 16 = .ok (.invokespecial 242, 3) := by decide +kernel
theorem dX11_needQuery_19 : decode cX11_needQuery 19 = .ok (.athrow, 1) := by decide +kernel
theorem dX11_needQuery_20 : decode cX11_needQuery 20 = .ok (.return_, 1) := by decide +kernel
theorem dX11_needAtom_0 : decode cX11_needAtom 0 = .ok (.iload_n 2, 1) := by decide +kernel
theorem dX11_needAtom_1 : decode cX11_needAtom 1 = .ok (.ifCond .lt 18, 3) := by decide +kernel
theorem dX11_needAtom_4 : decode cX11_needAtom 4 = .ok (.iload_n 2, 1) := by decide +kernel
theorem dX11_needAtom_5 : decode cX11_needAtom 5 = .ok (.aload_n 0, 1) := by decide +kernel
theorem dX11_needAtom_6 : decode cX11_needAtom 6 = .ok (.getfield 10, 3) := by decide +kernel
theorem dX11_needAtom_9 : decode cX11_needAtom 9 = .ok (.iload_n 1, 1) := by decide +kernel
theorem dX11_needAtom_10 : decode cX11_needAtom 10 = .ok (.invokevirtual 94, 3) := by decide +kernel
theorem dX11_needAtom_13 : decode cX11_needAtom 13 = .ok (.getfield 151, 3) := by decide +kernel
theorem dX11_needAtom_16 : decode cX11_needAtom 16 = .ok (.if_icmp .lt 14, 3) := by decide +kernel
theorem dX11_needAtom_19 : decode cX11_needAtom 19 = .ok (.new 238, 3) := by decide +kernel
theorem dX11_needAtom_22 : decode cX11_needAtom 22 = .ok (.dup, 1) := by decide +kernel
theorem dX11_needAtom_23 : decode cX11_needAtom 23 = .ok (.ldc_w 360, 3) := by decide +kernel
theorem dX11_needAtom_26 : decode cX11_needAtom 26 = .ok (.invokespecial 242, 3) := by decide +kernel
theorem dX11_needAtom_29 : decode cX11_needAtom 29 = .ok (.athrow, 1) := by decide +kernel
theorem dX11_needAtom_30 : decode cX11_needAtom 30 = .ok (.return_, 1) := by decide +kernel
theorem dX11_needStanding_0 : decode cX11_needStanding 0 = .ok (.iload_n 2, 1) := by decide +kernel
theorem dX11_needStanding_1 : decode cX11_needStanding 1 = .ok (.ifCond .lt 8, 3) := by decide +kernel
theorem dX11_needStanding_4 : decode cX11_needStanding 4 = .ok (.iload_n 2, 1) := by decide +kernel
theorem dX11_needStanding_5 : decode cX11_needStanding 5 = .ok (.iconst 4, 1) := by decide +kernel
theorem dX11_needStanding_6 : decode cX11_needStanding 6 = .ok (.if_icmp .lt 14, 3) := by decide +kernel
theorem dX11_needStanding_9 : decode cX11_needStanding 9 = .ok (.new 238, 3) := by decide +kernel
theorem dX11_needStanding_12 : decode cX11_needStanding 12 = .ok (.dup, 1) := by decide +kernel
theorem dX11_needStanding_13 : decode cX11_needStanding 13 = .ok (.ldc_w 362, 3) := by decide +kernel
theorem dX11_needStanding_16 : decode cX11_needStanding 16 = .ok (.invokespecial 242, 3) := by decide +kernel
theorem dX11_needStanding_19 : decode cX11_needStanding 19 = .ok (.athrow, 1) := by decide +kernel
theorem dX11_needStanding_20 : decode cX11_needStanding 20 = .ok (.aload_n 0, 1) := by decide +kernel
theorem dX11_needStanding_21 : decode cX11_needStanding 21 = .ok (.getfield 10, 3) := by decide +kernel
theorem dX11_needStanding_24 : decode cX11_needStanding 24 = .ok (.iload_n 1, 1) := by decide +kernel
theorem dX11_needStanding_25 : decode cX11_needStanding 25 = .ok (.invokevirtual 94, 3) := by decide +kernel
theorem dX11_needStanding_28 : decode cX11_needStanding 28 = .ok (.iconst 0, 1) := by decide +kernel
theorem dX11_needStanding_29 : decode cX11_needStanding 29 = .ok (.invokevirtual 364, 3) := by decide +kernel
theorem dX11_needStanding_32 : decode cX11_needStanding 32 = .ok (.iconst 1, 1) := by decide +kernel
theorem dX11_needStanding_33 : decode cX11_needStanding 33 = .ok (.iload_n 2, 1) := by decide +kernel
theorem dX11_needStanding_34 : decode cX11_needStanding 34 = .ok (.ishl, 1) := by decide +kernel
theorem dX11_needStanding_35 : decode cX11_needStanding 35 = .ok (.iand, 1) := by decide +kernel
theorem dX11_needStanding_36 : decode cX11_needStanding 36 = .ok (.ifCond .ne 14, 3) := by decide +kernel
theorem dX11_needStanding_39 : decode cX11_needStanding 39 = .ok (.new 238, 3) := by decide +kernel
theorem dX11_needStanding_42 : decode cX11_needStanding 42 = .ok (.dup, 1) := by decide +kernel
theorem dX11_needStanding_43 : decode cX11_needStanding 43 = .ok (.ldc_w 368, 3) := by decide +kernel
theorem dX11_needStanding_46 : decode cX11_needStanding 46 = .ok (.invokespecial 242, 3) := by decide +kernel
theorem dX11_needStanding_49 : decode cX11_needStanding 49 = .ok (.athrow, 1) := by decide +kernel
theorem dX11_needStanding_50 : decode cX11_needStanding 50 = .ok (.return_, 1) := by decide +kernel
theorem dX11_needRule_0 : decode cX11_needRule 0 = .ok (.iload_n 1, 1) := by decide +kernel
theorem dX11_needRule_1 : decode cX11_needRule 1 = .ok (.ifCond .lt 14, 3) := by decide +kernel
theorem dX11_needRule_4 : decode cX11_needRule 4 = .ok (.iload_n 1, 1) := by decide +kernel
theorem dX11_needRule_5 : decode cX11_needRule 5 = .ok (.aload_n 0, 1) := by decide +kernel
theorem dX11_needRule_6 : decode cX11_needRule 6 = .ok (.getfield 10, 3) := by decide +kernel
theorem dX11_needRule_9 : decode cX11_needRule 9 = .ok (.getfield 200, 3) := by decide +kernel
theorem dX11_needRule_12 : decode cX11_needRule 12 = .ok (.if_icmp .lt 14, 3) := by decide +kernel
theorem dX11_needRule_15 : decode cX11_needRule 15 = .ok (.new 238, 3) := by decide +kernel
theorem dX11_needRule_18 : decode cX11_needRule 18 = .ok (.dup, 1) := by decide +kernel
theorem dX11_needRule_19 : decode cX11_needRule 19 = .ok (.ldc_w 370, 3) := by decide +kernel
theorem dX11_needRule_22 : decode cX11_needRule 22 = .ok (.invokespecial 242, 3) := by decide +kernel
theorem dX11_needRule_25 : decode cX11_needRule 25 = .ok (.athrow, 1) := by decide +kernel
theorem dX11_needRule_26 : decode cX11_needRule 26 = .ok (.return_, 1) := by decide +kernel
theorem dX11_needRow_0 : decode cX11_needRow 0 = .ok (.aload_n 0, 1) := by decide +kernel
theorem dX11_needRow_1 : decode cX11_needRow 1 = .ok (.getfield 10, 3) := by decide +kernel
theorem dX11_needRow_4 : decode cX11_needRow 4 = .ok (.getfield 155, 3) := by decide +kernel
theorem dX11_needRow_7 : decode cX11_needRow 7 = .ok (.iload_n 1, 1) := by decide +kernel
theorem dX11_needRow_8 : decode cX11_needRow 8 = .ok (.invokevirtual 159, 3) := by decide +kernel
theorem dX11_needRow_11 : decode cX11_needRow 11 = .ok (.bipush 8, 2) := by decide +kernel
theorem dX11_needRow_13 : decode cX11_needRow 13 = .ok (.iload_n 2, 1) := by decide +kernel
theorem dX11_needRow_14 : decode cX11_needRow 14 = .ok (.iload_n 3, 1) := by decide +kernel
theorem dX11_needRow_15 : decode cX11_needRow 15 = .ok (.iload 4, 2) := by decide +kernel
theorem dX11_needRow_17 : decode cX11_needRow 17 = .ok (.invokestatic 372, 3) := by decide +kernel
theorem dX11_needRow_20 : decode cX11_needRow 20 = .ok (.ifCond .ne 14, 3) := by decide +kernel
theorem dX11_needRow_23 : decode cX11_needRow 23 = .ok (.new 97, 3) := by decide +kernel
theorem dX11_needRow_26 : decode cX11_needRow 26 = .ok (.dup, 1) := by decide +kernel
theorem dX11_needRow_27 : decode cX11_needRow 27 = .ok (.ldc_w 376, 3) := by decide +kernel
theorem dX11_needRow_30 : decode cX11_needRow 30 = .ok (.invokespecial 101, 3) := by decide +kernel
theorem dX11_needRow_33 : decode cX11_needRow 33 = .ok (.athrow, 1) := by decide +kernel
theorem dX11_needRow_34 : decode cX11_needRow 34 = .ok (.return_, 1) := by decide +kernel
theorem dX11_needVariables_0 : decode cX11_needVariables 0 = .ok (.aload_n 0, 1) := by decide +kernel
theorem dX11_needVariables_1 : decode cX11_needVariables 1 = .ok (.getfield 10, 3) := by decide +kernel
theorem dX11_needVariables_4 : decode cX11_needVariables 4 = .ok (.getfield 155, 3) := by decide +kernel
theorem dX11_needVariables_7 : decode cX11_needVariables 7 = .ok (.iload_n 1, 1) := by decide +kernel
theorem dX11_needVariables_8 : decode cX11_needVariables 8 = .ok (.invokevirtual 159, 3) := by decide +kernel
theorem dX11_needVariables_11 : decode cX11_needVariables 11 = .ok (.iconst 4, 1) := by decide +kernel
theorem dX11_needVariables_12 : decode cX11_needVariables 12 = .ok (.iload_n 2, 1) := by decide +kernel
theorem dX11_needVariables_13 : decode cX11_needVariables 13 = .ok (.iload_n 3, 1) := by decide +kernel
theorem dX11_needVariables_14 : decode cX11_needVariables 14 = .ok (.iload 4, 2) := by decide +kernel
theorem dX11_needVariables_16 : decode cX11_needVariables 16 = .ok (.invokestatic 372, 3) := by decide +kernel
theorem dX11_needVariables_19 : decode cX11_needVariables 19 = .ok (.ifCond .ne 14, 3) := by decide +kernel
theorem dX11_needVariables_22 : decode cX11_needVariables 22 = .ok (.new 97, 3) := by decide +kernel
theorem dX11_needVariables_25 : decode cX11_needVariables 25 = .ok (.dup, 1) := by decide +kernel
theorem dX11_needVariables_26 : decode cX11_needVariables 26 = .ok (.ldc_w 378, 3) := by decide +kernel
theorem dX11_needVariables_29 : decode cX11_needVariables 29 = .ok (.invokespecial 101, 3) := by decide +kernel
theorem dX11_needVariables_32 : decode cX11_needVariables 32 = .ok (.athrow, 1) := by decide +kernel
theorem dX11_needVariables_33 : decode cX11_needVariables 33 = .ok (.return_, 1) := by decide +kernel
theorem dX11_areInColumns_0 : decode cX11_areInColumns 0 = .ok (.iload_n 0, 1) := by decide +kernel
theorem dX11_areInColumns_1 : decode cX11_areInColumns 1 = .ok (.iconst 1, 1) := by decide +kernel
theorem dX11_areInColumns_2 : decode cX11_areInColumns 2 = .ok (.if_icmp .le 7, 3) := by decide +kernel
theorem dX11_areInColumns_5 : decode cX11_areInColumns 5 = .ok (.iload_n 1, 1) := by decide +kernel
theorem dX11_areInColumns_6 : decode cX11_areInColumns 6 = .ok (.goto 4, 3) := by decide +kernel
theorem dX11_areInColumns_9 : decode cX11_areInColumns 9 = .ok (.iconst 1, 1) := by decide +kernel
theorem dX11_areInColumns_10 : decode cX11_areInColumns 10 = .ok (.istore 5, 2) := by decide +kernel
theorem dX11_areInColumns_12 : decode cX11_areInColumns 12 = .ok (.iload_n 0, 1) := by decide +kernel
theorem dX11_areInColumns_13 : decode cX11_areInColumns 13 = .ok (.iconst 2, 1) := by decide +kernel
theorem dX11_areInColumns_14 : decode cX11_areInColumns 14 = .ok (.if_icmp .le 7, 3) := by decide +kernel
theorem dX11_areInColumns_17 : decode cX11_areInColumns 17 = .ok (.iload_n 1, 1) := by decide +kernel
theorem dX11_areInColumns_18 : decode cX11_areInColumns 18 = .ok (.goto 4, 3) := by decide +kernel
theorem dX11_areInColumns_21 : decode cX11_areInColumns 21 = .ok (.iconst 1, 1) := by decide +kernel
theorem dX11_areInColumns_22 : decode cX11_areInColumns 22 = .ok (.istore 6, 2) := by decide +kernel
theorem dX11_areInColumns_24 : decode cX11_areInColumns 24 = .ok (.iload_n 2, 1) := by decide +kernel
theorem dX11_areInColumns_25 : decode cX11_areInColumns 25 = .ok (.ifCond .lt 34, 3) := by decide +kernel
theorem dX11_areInColumns_28 : decode cX11_areInColumns 28 = .ok (.iload_n 2, 1) := by decide +kernel
theorem dX11_areInColumns_29 : decode cX11_areInColumns 29 = .ok (.iload_n 1, 1) := by decide +kernel
theorem dX11_areInColumns_30 : decode cX11_areInColumns 30 = .ok (.if_icmp .ge 29, 3) := by decide +kernel
theorem dX11_areInColumns_33 : decode cX11_areInColumns 33 = .ok (.iload_n 3, 1) := by decide +kernel
theorem dX11_areInColumns_34 : decode cX11_areInColumns 34 = .ok (.ifCond .lt 25, 3) := by decide +kernel
theorem dX11_areInColumns_37 : decode cX11_areInColumns 37 = .ok (.iload_n 3, 1) := by decide +kernel
theorem dX11_areInColumns_38 : decode cX11_areInColumns 38 = .ok (.iload 5, 2) := by decide +kernel
theorem dX11_areInColumns_40 : decode cX11_areInColumns 40 = .ok (.if_icmp .ge 19, 3) := by decide +kernel
theorem dX11_areInColumns_43 : decode cX11_areInColumns 43 = .ok (.iload 4, 2) := by decide +kernel
theorem dX11_areInColumns_45 : decode cX11_areInColumns 45 = .ok (.ifCond .lt 14, 3) := by decide +kernel
theorem dX11_areInColumns_48 : decode cX11_areInColumns 48 = .ok (.iload 4, 2) := by decide +kernel
theorem dX11_areInColumns_50 : decode cX11_areInColumns 50 = .ok (.iload 6, 2) := by decide +kernel
theorem dX11_areInColumns_52 : decode cX11_areInColumns 52 = .ok (.if_icmp .ge 7, 3) := by decide +kernel
theorem dX11_areInColumns_55 : decode cX11_areInColumns 55 = .ok (.iconst 1, 1) := by decide +kernel
theorem dX11_areInColumns_56 : decode cX11_areInColumns 56 = .ok (.goto 4, 3) := by decide +kernel
theorem dX11_areInColumns_59 : decode cX11_areInColumns 59 = .ok (.iconst 0, 1) := by decide +kernel
theorem dX11_areInColumns_60 : decode cX11_areInColumns 60 = .ok (.ireturn, 1) := by decide +kernel
theorem dX11_isValue_0 : decode cX11_isValue 0 = .ok (.iload_n 0, 1) := by decide +kernel
theorem dX11_isValue_1 : decode cX11_isValue 1 = .ok (.ifCond .lt 13, 3) := by decide +kernel
theorem dX11_isValue_4 : decode cX11_isValue 4 = .ok (.iload_n 0, 1) := by decide +kernel
theorem dX11_isValue_5 : decode cX11_isValue 5 = .ok (.bipush 8, 2) := by decide +kernel
theorem dX11_isValue_7 : decode cX11_isValue 7 = .ok (.if_icmp .ge 7, 3) := by decide +kernel
theorem dX11_isValue_10 : decode cX11_isValue 10 = .ok (.iconst 1, 1) := by decide +kernel
theorem dX11_isValue_11 : decode cX11_isValue 11 = .ok (.goto 4, 3) := by decide +kernel
theorem dX11_isValue_14 : decode cX11_isValue 14 = .ok (.iconst 0, 1) := by decide +kernel
theorem dX11_isValue_15 : decode cX11_isValue 15 = .ok (.ireturn, 1) := by decide +kernel
theorem dX11_isOrder_0 : decode cX11_isOrder 0 = .ok (.iload_n 0, 1) := by decide +kernel
theorem dX11_isOrder_1 : decode cX11_isOrder 1 = .ok (.ifCond .lt 10, 3) := by decide +kernel
theorem dX11_isOrder_4 : decode cX11_isOrder 4 = .ok (.iload_n 0, 1) := by decide +kernel
theorem dX11_isOrder_5 : decode cX11_isOrder 5 = .ok (.sipush 9999, 3) := by decide +kernel
theorem dX11_isOrder_8 : decode cX11_isOrder 8 = .ok (.if_icmp .le 5, 3) := by decide +kernel
theorem dX11_isOrder_11 : decode cX11_isOrder 11 = .ok (.iconst 0, 1) := by decide +kernel
theorem dX11_isOrder_12 : decode cX11_isOrder 12 = .ok (.ireturn, 1) := by decide +kernel
theorem dX11_isOrder_13 : decode cX11_isOrder 13 = .ok (.iconst 0, 1) := by decide +kernel
theorem dX11_isOrder_14 : decode cX11_isOrder 14 = .ok (.istore_n 1, 1) := by decide +kernel
theorem dX11_isOrder_15 : decode cX11_isOrder 15 = .ok (.iconst 0, 1) := by decide +kernel
theorem dX11_isOrder_16 : decode cX11_isOrder 16 = .ok (.istore_n 2, 1) := by decide +kernel
theorem dX11_isOrder_17 : decode cX11_isOrder 17 = .ok (.iload_n 2, 1) := by decide +kernel
theorem dX11_isOrder_18 : decode cX11_isOrder 18 = .ok (.iconst 4, 1) := by decide +kernel
theorem dX11_isOrder_19 : decode cX11_isOrder 19 = .ok (.if_icmp .ge 19, 3) := by decide +kernel
theorem dX11_isOrder_22 : decode cX11_isOrder 22 = .ok (.iload_n 1, 1) := by decide +kernel
theorem dX11_isOrder_23 : decode cX11_isOrder 23 = .ok (.iconst 1, 1) := by decide +kernel
theorem dX11_isOrder_24 : decode cX11_isOrder 24 = .ok (.iload_n 0, 1) := by decide +kernel
theorem dX11_isOrder_25 : decode cX11_isOrder 25 = .ok (.iload_n 2, 1) := by decide +kernel
theorem dX11_isOrder_26 : decode cX11_isOrder 26 = .ok (.invokestatic 380, 3) := by decide +kernel
theorem dX11_isOrder_29 : decode cX11_isOrder 29 = .ok (.ishl, 1) := by decide +kernel
theorem dX11_isOrder_30 : decode cX11_isOrder 30 = .ok (.ior, 1) := by decide +kernel
theorem dX11_isOrder_31 : decode cX11_isOrder 31 = .ok (.istore_n 1, 1) := by decide +kernel
theorem dX11_isOrder_32 : decode cX11_isOrder 32 = .ok (.iinc 2 1, 3) := by decide +kernel
theorem dX11_isOrder_35 : decode cX11_isOrder 35 = .ok (.goto (-18), 3) := by decide +kernel
theorem dX11_isOrder_38 : decode cX11_isOrder 38 = .ok (.iload_n 1, 1) := by decide +kernel
theorem dX11_isOrder_39 : decode cX11_isOrder 39 = .ok (.bipush 15, 2) := by decide +kernel
theorem dX11_isOrder_41 : decode cX11_isOrder 41 = .ok (.if_icmp .ne 7, 3) := by decide +kernel
theorem dX11_isOrder_44 : decode cX11_isOrder 44 = .ok (.iconst 1, 1) := by decide +kernel
theorem dX11_isOrder_45 : decode cX11_isOrder 45 = .ok (.goto 4, 3) := by decide +kernel
theorem dX11_isOrder_48 : decode cX11_isOrder 48 = .ok (.iconst 0, 1) := by decide +kernel
theorem dX11_isOrder_49 : decode cX11_isOrder 49 = .ok (.ireturn, 1) := by decide +kernel
theorem dX11_digitOf_0 : decode cX11_digitOf 0 = .ok (.iload_n 1, 1) := by decide +kernel
theorem dX11_digitOf_1 : decode cX11_digitOf 1 = .ok (.tableswitch 52 0 2 #[27, 36, 44], 27) := by decide +kernel
theorem dX11_digitOf_28 : decode cX11_digitOf 28 = .ok (.iload_n 0, 1) := by decide +kernel
theorem dX11_digitOf_29 : decode cX11_digitOf 29 = .ok (.sipush 1000, 3) := by decide +kernel
theorem dX11_digitOf_32 : decode cX11_digitOf 32 = .ok (.idiv, 1) := by decide +kernel
theorem dX11_digitOf_33 : decode cX11_digitOf 33 = .ok (.bipush 10, 2) := by decide +kernel
theorem dX11_digitOf_35 : decode cX11_digitOf 35 = .ok (.irem, 1) := by decide +kernel
theorem dX11_digitOf_36 : decode cX11_digitOf 36 = .ok (.ireturn, 1) := by decide +kernel
theorem dX11_digitOf_37 : decode cX11_digitOf 37 = .ok (.iload_n 0, 1) := by decide +kernel
theorem dX11_digitOf_38 : decode cX11_digitOf 38 = .ok (.bipush 100, 2) := by decide +kernel
theorem dX11_digitOf_40 : decode cX11_digitOf 40 = .ok (.idiv, 1) := by decide +kernel
theorem dX11_digitOf_41 : decode cX11_digitOf 41 = .ok (.bipush 10, 2) := by decide +kernel
theorem dX11_digitOf_43 : decode cX11_digitOf 43 = .ok (.irem, 1) := by decide +kernel
theorem dX11_digitOf_44 : decode cX11_digitOf 44 = .ok (.ireturn, 1) := by decide +kernel
theorem dX11_digitOf_45 : decode cX11_digitOf 45 = .ok (.iload_n 0, 1) := by decide +kernel
theorem dX11_digitOf_46 : decode cX11_digitOf 46 = .ok (.bipush 10, 2) := by decide +kernel
theorem dX11_digitOf_48 : decode cX11_digitOf 48 = .ok (.idiv, 1) := by decide +kernel
theorem dX11_digitOf_49 : decode cX11_digitOf 49 = .ok (.bipush 10, 2) := by decide +kernel
theorem dX11_digitOf_51 : decode cX11_digitOf 51 = .ok (.irem, 1) := by decide +kernel
theorem dX11_digitOf_52 : decode cX11_digitOf 52 = .ok (.ireturn, 1) := by decide +kernel
theorem dX11_digitOf_53 : decode cX11_digitOf 53 = .ok (.iload_n 0, 1) := by decide +kernel
theorem dX11_digitOf_54 : decode cX11_digitOf 54 = .ok (.bipush 10, 2) := by decide +kernel
theorem dX11_digitOf_56 : decode cX11_digitOf 56 = .ok (.irem, 1) := by decide +kernel
theorem dX11_digitOf_57 : decode cX11_digitOf 57 = .ok (.ireturn, 1) := by decide +kernel
theorem dX11_rowOf_0 : decode cX11_rowOf 0 = .ok (.iload_n 0, 1) := by decide +kernel
theorem dX11_rowOf_1 : decode cX11_rowOf 1 = .ok (.bipush 6, 2) := by decide +kernel
theorem dX11_rowOf_3 : decode cX11_rowOf 3 = .ok (.ishl, 1) := by decide +kernel
theorem dX11_rowOf_4 : decode cX11_rowOf 4 = .ok (.iload_n 1, 1) := by decide +kernel
theorem dX11_rowOf_5 : decode cX11_rowOf 5 = .ok (.iconst 3, 1) := by decide +kernel
theorem dX11_rowOf_6 : decode cX11_rowOf 6 = .ok (.ishl, 1) := by decide +kernel
theorem dX11_rowOf_7 : decode cX11_rowOf 7 = .ok (.ior, 1) := by decide +kernel
theorem dX11_rowOf_8 : decode cX11_rowOf 8 = .ok (.iload_n 2, 1) := by decide +kernel
theorem dX11_rowOf_9 : decode cX11_rowOf 9 = .ok (.ior, 1) := by decide +kernel
theorem dX11_rowOf_10 : decode cX11_rowOf 10 = .ok (.ireturn, 1) := by decide +kernel
theorem dX11_valueIn_0 : decode cX11_valueIn 0 = .ok (.iload_n 1, 1) := by decide +kernel
theorem dX11_valueIn_1 : decode cX11_valueIn 1 = .ok (.lookupswitch 42 #[(0, 27), (1, 35)], 27) := by decide +kernel
theorem dX11_valueIn_28 : decode cX11_valueIn 28 = .ok (.iload_n 0, 1) := by decide +kernel
theorem dX11_valueIn_29 : decode cX11_valueIn 29 = .ok (.bipush 6, 2) := by decide +kernel
theorem dX11_valueIn_31 : decode cX11_valueIn 31 = .ok (.ishr, 1) := by decide +kernel
theorem dX11_valueIn_32 : decode cX11_valueIn 32 = .ok (.bipush 7, 2) := by decide +kernel
theorem dX11_valueIn_34 : decode cX11_valueIn 34 = .ok (.iand, 1) := by decide +kernel
theorem dX11_valueIn_35 : decode cX11_valueIn 35 = .ok (.ireturn, 1) := by decide +kernel
theorem dX11_valueIn_36 : decode cX11_valueIn 36 = .ok (.iload_n 0, 1) := by decide +kernel
theorem dX11_valueIn_37 : decode cX11_valueIn 37 = .ok (.iconst 3, 1) := by decide +kernel
theorem dX11_valueIn_38 : decode cX11_valueIn 38 = .ok (.ishr, 1) := by decide +kernel
theorem dX11_valueIn_39 : decode cX11_valueIn 39 = .ok (.bipush 7, 2) := by decide +kernel
theorem dX11_valueIn_41 : decode cX11_valueIn 41 = .ok (.iand, 1) := by decide +kernel
theorem dX11_valueIn_42 : decode cX11_valueIn 42 = .ok (.ireturn, 1) := by decide +kernel
theorem dX11_valueIn_43 : decode cX11_valueIn 43 = .ok (.iload_n 0, 1) := by decide +kernel
theorem dX11_valueIn_44 : decode cX11_valueIn 44 = .ok (.bipush 7, 2) := by decide +kernel
theorem dX11_valueIn_46 : decode cX11_valueIn 46 = .ok (.iand, 1) := by decide +kernel
theorem dX11_valueIn_47 : decode cX11_valueIn 47 = .ok (.ireturn, 1) := by decide +kernel
theorem dX11_withRow_0 : decode cX11_withRow 0 = .ok (.iload_n 0, 1) := by decide +kernel
theorem dX11_withRow_1 : decode cX11_withRow 1 = .ok (.istore_n 3, 1) := by decide +kernel
theorem dX11_withRow_2 : decode cX11_withRow 2 = .ok (.iconst 0, 1) := by decide +kernel
theorem dX11_withRow_3 : decode cX11_withRow 3 = .ok (.istore 4, 2) := by decide +kernel
theorem dX11_withRow_5 : decode cX11_withRow 5 = .ok (.iload 4, 2) := by decide +kernel
theorem dX11_withRow_7 : decode cX11_withRow 7 = .ok (.iload_n 2, 1) := by decide +kernel
theorem dX11_withRow_8 : decode cX11_withRow 8 = .ok (.if_icmp .ge 21, 3) := by decide +kernel
theorem dX11_withRow_11 : decode cX11_withRow 11 = .ok (.bipush 31, 2) := by decide +kernel
theorem dX11_withRow_13 : decode cX11_withRow 13 = .ok (.iload_n 3, 1) := by decide +kernel
theorem dX11_withRow_14 : decode cX11_withRow 14 = .ok (.imul, 1) := by decide +kernel
theorem dX11_withRow_15 : decode cX11_withRow 15 = .ok (.iload_n 1, 1) := by decide +kernel
theorem dX11_withRow_16 : decode cX11_withRow 16 = .ok (.iload 4, 2) := by decide +kernel
theorem dX11_withRow_18 : decode cX11_withRow 18 = .ok (.invokestatic 247, 3) := by decide +kernel
theorem dX11_withRow_21 : decode cX11_withRow 21 = .ok (.iadd, 1) := by decide +kernel
theorem dX11_withRow_22 : decode cX11_withRow 22 = .ok (.istore_n 3, 1) := by decide +kernel
theorem dX11_withRow_23 : decode cX11_withRow 23 = .ok (.iinc 4 1, 3) := by decide +kernel
theorem dX11_withRow_26 : decode cX11_withRow 26 = .ok (.goto (-21), 3) := by decide +kernel
theorem dX11_withRow_29 : decode cX11_withRow 29 = .ok (.iload_n 3, 1) := by decide +kernel
theorem dX11_withRow_30 : decode cX11_withRow 30 = .ok (.ireturn, 1) := by decide +kernel
theorem dX11_keepForUndo_0 : decode cX11_keepForUndo 0 = .ok (.aload_n 0, 1) := by decide +kernel
theorem dX11_keepForUndo_1 : decode cX11_keepForUndo 1 = .ok (.getfield 19, 3) := by decide +kernel
theorem dX11_keepForUndo_4 : decode cX11_keepForUndo 4 = .ok (.aload_n 0, 1) := by decide +kernel
theorem dX11_keepForUndo_5 : decode cX11_keepForUndo 5 = .ok (.getfield 10, 3) := by decide +kernel
theorem dX11_keepForUndo_8 : decode cX11_keepForUndo 8 = .ok (.invokevirtual 383, 3) := by decide +kernel
theorem dX11_keepForUndo_11 : decode cX11_keepForUndo 11 = .ok (.aload_n 0, 1) := by decide +kernel
theorem dX11_keepForUndo_12 : decode cX11_keepForUndo 12 = .ok (.iconst (-1), 1) := by decide +kernel
theorem dX11_keepForUndo_13 : decode cX11_keepForUndo 13 = .ok (.putfield 58, 3) := by decide +kernel
theorem dX11_keepForUndo_16 : decode cX11_keepForUndo 16 = .ok (.return_, 1) := by decide +kernel
theorem dX11_look_0 : decode cX11_look 0 = .ok (.aload_n 0, 1) := by decide +kernel
theorem dX11_look_1 : decode cX11_look 1 = .ok (.getfield 58, 3) := by decide +kernel
theorem dX11_look_4 : decode cX11_look 4 = .ok (.iload_n 1, 1) := by decide +kernel
theorem dX11_look_5 : decode cX11_look 5 = .ok (.if_icmp .eq 41, 3) := by decide +kernel
theorem dX11_look_8 : decode cX11_look 8 = .ok (.aload_n 0, 1) := by decide +kernel
theorem dX11_look_9 : decode cX11_look 9 = .ok (.getfield 33, 3) := by decide +kernel
theorem dX11_look_12 : decode cX11_look 12 = .ok (.aload_n 0, 1) := by decide +kernel
theorem dX11_look_13 : decode cX11_look 13 = .ok (.getfield 10, 3) := by decide +kernel
theorem dX11_look_16 : decode cX11_look 16 = .ok (.iload_n 1, 1) := by decide +kernel
theorem dX11_look_17 : decode cX11_look 17 = .ok (.invokevirtual 94, 3) := by decide +kernel
theorem dX11_look_20 : decode cX11_look 20 = .ok (.aload_n 0, 1) := by decide +kernel
theorem dX11_look_21 : decode cX11_look 21 = .ok (.getfield 10, 3) := by decide +kernel
theorem dX11_look_24 : decode cX11_look 24 = .ok (.getfield 173, 3) := by decide +kernel
theorem dX11_look_27 : decode cX11_look 27 = .ok (.iload_n 1, 1) := by decide +kernel
theorem dX11_look_28 : decode cX11_look 28 = .ok (.invokevirtual 159, 3) := by decide +kernel
theorem dX11_look_31 : decode cX11_look 31 = .ok (.aload_n 0, 1) := by decide +kernel
theorem dX11_look_32 : decode cX11_look 32 = .ok (.getfield 26, 3) := by decide +kernel
theorem dX11_look_35 : decode cX11_look 35 = .ok (.getfield 228, 3) := by decide +kernel
theorem dX11_look_38 : decode cX11_look 38 = .ok (.invokevirtual 386, 3) := by decide +kernel
theorem dX11_look_41 : decode cX11_look 41 = .ok (.aload_n 0, 1) := by decide +kernel
theorem dX11_look_42 : decode cX11_look 42 = .ok (.iload_n 1, 1) := by decide +kernel
theorem dX11_look_43 : decode cX11_look 43 = .ok (.putfield 58, 3) := by decide +kernel
theorem dX11_look_46 : decode cX11_look 46 = .ok (.return_, 1) := by decide +kernel
theorem dX11_markMade_0 : decode cX11_markMade 0 = .ok (.aload_n 0, 1) := by decide +kernel
theorem dX11_markMade_1 : decode cX11_markMade 1 = .ok (.getfield 54, 3) := by decide +kernel
theorem dX11_markMade_4 : decode cX11_markMade 4 = .ok (.invokevirtual 390, 3) := by decide +kernel
theorem dX11_markMade_7 : decode cX11_markMade 7 = .ok (.iconst (-1), 1) := by decide +kernel
theorem dX11_markMade_8 : decode cX11_markMade 8 = .ok (.istore_n 2, 1) := by decide +kernel
theorem dX11_markMade_9 : decode cX11_markMade 9 = .ok (.iconst 0, 1) := by decide +kernel
theorem dX11_markMade_10 : decode cX11_markMade 10 = .ok (.istore_n 3, 1) := by decide +kernel
theorem dX11_markMade_11 : decode cX11_markMade 11 = .ok (.iload_n 3, 1) := by decide +kernel
theorem dX11_markMade_12 : decode cX11_markMade 12 = .ok (.aload_n 0, 1) := by decide +kernel
theorem dX11_markMade_13 : decode cX11_markMade 13 = .ok (.getfield 33, 3) := by decide +kernel
theorem dX11_markMade_16 : decode cX11_markMade 16 = .ok (.getfield 268, 3) := by decide +kernel
theorem dX11_markMade_19 : decode cX11_markMade 19 = .ok (.if_icmp .ge 40, 3) := by decide +kernel
theorem dX11_markMade_22 : decode cX11_markMade 22 = .ok (.aload_n 0, 1) := by decide +kernel
theorem dX11_markMade_23 : decode cX11_markMade 23 = .ok (.getfield 33, 3) := by decide +kernel
theorem dX11_markMade_26 : decode cX11_markMade 26 = .ok (.iload_n 2, 1) := by decide +kernel
theorem dX11_markMade_27 : decode cX11_markMade 27 = .ok (.invokevirtual 279, 3) := by decide +kernel
theorem dX11_markMade_30 : decode cX11_markMade 30 = .ok (.istore_n 2, 1) := by decide +kernel
theorem dX11_markMade_31 : decode cX11_markMade 31 = .ok (.aload_n 0, 1) := by decide +kernel
theorem dX11_markMade_32 : decode cX11_markMade 32 = .ok (.getfield 54, 3) := by decide +kernel
theorem dX11_markMade_35 : decode cX11_markMade 35 = .ok (.iload_n 1, 1) := by decide +kernel
theorem dX11_markMade_36 : decode cX11_markMade 36 = .ok (.invokestatic 193, 3) := by decide +kernel
theorem dX11_markMade_39 : decode cX11_markMade 39 = .ok (.iload_n 1, 1) := by decide +kernel
theorem dX11_markMade_40 : decode cX11_markMade 40 = .ok (.aload_n 0, 1) := by decide +kernel
theorem dX11_markMade_41 : decode cX11_markMade 41 = .ok (.getfield 33, 3) := by decide +kernel
theorem dX11_markMade_44 : decode cX11_markMade 44 = .ok (.getfield 282, 3) := by decide +kernel
theorem dX11_markMade_47 : decode cX11_markMade 47 = .ok (.invokestatic 391, 3) := by decide +kernel
theorem dX11_markMade_50 : decode cX11_markMade 50 = .ok (.invokevirtual 73, 3) := by decide +kernel
theorem dX11_markMade_53 : decode cX11_markMade 53 = .ok (.iinc 3 1, 3) := by decide +kernel
theorem dX11_markMade_56 : decode cX11_markMade 56 = .ok (.goto (-45), 3) := by decide +kernel
theorem dX11_markMade_59 : decode cX11_markMade 59 = .ok (.return_, 1) := by decide +kernel
theorem dX11_rowTotal_0 : decode cX11_rowTotal 0 = .ok (.iconst 0, 1) := by decide +kernel
theorem dX11_rowTotal_1 : decode cX11_rowTotal 1 = .ok (.istore_n 1, 1) := by decide +kernel
theorem dX11_rowTotal_2 : decode cX11_rowTotal 2 = .ok (.iconst 0, 1) := by decide +kernel
theorem dX11_rowTotal_3 : decode cX11_rowTotal 3 = .ok (.istore_n 2, 1) := by decide +kernel
theorem dX11_rowTotal_4 : decode cX11_rowTotal 4 = .ok (.iload_n 2, 1) := by decide +kernel
theorem dX11_rowTotal_5 : decode cX11_rowTotal 5 = .ok (.aload_n 0, 1) := by decide +kernel
theorem dX11_rowTotal_6 : decode cX11_rowTotal 6 = .ok (.getfield 10, 3) := by decide +kernel
theorem dX11_rowTotal_9 : decode cX11_rowTotal 9 = .ok (.getfield 104, 3) := by decide +kernel
theorem dX11_rowTotal_12 : decode cX11_rowTotal 12 = .ok (.if_icmp .ge 23, 3) := by decide +kernel
theorem dX11_rowTotal_15 : decode cX11_rowTotal 15 = .ok (.iload_n 1, 1) := by decide +kernel
theorem dX11_rowTotal_16 : decode cX11_rowTotal 16 = .ok (.aload_n 0, 1) := by decide +kernel
theorem dX11_rowTotal_17 : decode cX11_rowTotal 17 = .ok (.getfield 26, 3) := by decide +kernel
theorem dX11_rowTotal_20 : decode cX11_rowTotal 20 = .ok (.getfield 228, 3) := by decide +kernel
theorem dX11_rowTotal_23 : decode cX11_rowTotal 23 = .ok (.iload_n 2, 1) := by decide +kernel
theorem dX11_rowTotal_24 : decode cX11_rowTotal 24 = .ok (.invokevirtual 131, 3) := by decide +kernel
theorem dX11_rowTotal_27 : decode cX11_rowTotal 27 = .ok (.iadd, 1) := by decide +kernel
theorem dX11_rowTotal_28 : decode cX11_rowTotal 28 = .ok (.istore_n 1, 1) := by decide +kernel
theorem dX11_rowTotal_29 : decode cX11_rowTotal 29 = .ok (.iinc 2 1, 3) := by decide +kernel
theorem dX11_rowTotal_32 : decode cX11_rowTotal 32 = .ok (.goto (-28), 3) := by decide +kernel
theorem dX11_rowTotal_35 : decode cX11_rowTotal 35 = .ok (.iload_n 1, 1) := by decide +kernel
theorem dX11_rowTotal_36 : decode cX11_rowTotal 36 = .ok (.ireturn, 1) := by decide +kernel
theorem dX11_countPlainly_0 : decode cX11_countPlainly 0 = .ok (.aload_n 1, 1) := by decide +kernel
theorem dX11_countPlainly_1 : decode cX11_countPlainly 1 = .ok (.getfield 151, 3) := by decide +kernel
theorem dX11_countPlainly_4 : decode cX11_countPlainly 4 = .ok (.ifCond .ne 5, 3) := by decide +kernel
theorem dX11_countPlainly_7 : decode cX11_countPlainly 7 = .ok (.iconst 0, 1) := by decide +kernel
theorem dX11_countPlainly_8 : decode cX11_countPlainly 8 = .ok (.ireturn, 1) := by decide +kernel
theorem dX11_countPlainly_9 : decode cX11_countPlainly 9 = .ok (.aload_n 1, 1) := by decide +kernel
theorem dX11_countPlainly_10 : decode cX11_countPlainly 10 = .ok (.iconst 0, 1) := by decide +kernel
theorem dX11_countPlainly_11 : decode cX11_countPlainly 11 = .ok (.invokevirtual 364, 3) := by decide +kernel
theorem dX11_countPlainly_14 : decode cX11_countPlainly 14 = .ok (.istore_n 2, 1) := by decide +kernel
theorem dX11_countPlainly_15 : decode cX11_countPlainly 15 = .ok (.iconst 1, 1) := by decide +kernel
theorem dX11_countPlainly_16 : decode cX11_countPlainly 16 = .ok (.iconst 3, 1) := by decide +kernel
theorem dX11_countPlainly_17 : decode cX11_countPlainly 17 = .ok (.iload_n 2, 1) := by decide +kernel
theorem dX11_countPlainly_18 : decode cX11_countPlainly 18 = .ok (.invokestatic 255, 3) := by decide +kernel
theorem dX11_countPlainly_21 : decode cX11_countPlainly 21 = .ok (.imul, 1) := by decide +kernel
theorem dX11_countPlainly_22 : decode cX11_countPlainly 22 = .ok (.ishl, 1) := by decide +kernel
theorem dX11_countPlainly_23 : decode cX11_countPlainly 23 = .ok (.istore_n 3, 1) := by decide +kernel
theorem dX11_countPlainly_24 : decode cX11_countPlainly 24 = .ok (.iconst 0, 1) := by decide +kernel
theorem dX11_countPlainly_25 : decode cX11_countPlainly 25 = .ok (.istore 4, 2) := by decide +kernel
theorem dX11_countPlainly_27 : decode cX11_countPlainly 27 = .ok (.iconst 0, 1) := by decide +kernel
theorem dX11_countPlainly_28 : decode cX11_countPlainly 28 = .ok (.istore 5, 2) := by decide +kernel
theorem dX11_countPlainly_30 : decode cX11_countPlainly 30 = .ok (.iload 5, 2) := by decide +kernel
theorem dX11_countPlainly_32 : decode cX11_countPlainly 32 = .ok (.iload_n 3, 1) := by decide +kernel
theorem dX11_countPlainly_33 : decode cX11_countPlainly 33 = .ok (.if_icmp .ge 33, 3) := by decide +kernel
theorem dX11_countPlainly_36 : decode cX11_countPlainly 36 = .ok (.iload 4, 2) := by decide +kernel
theorem dX11_countPlainly_38 : decode cX11_countPlainly 38 = .ok (.aload_n 0, 1) := by decide +kernel
theorem dX11_countPlainly_39 : decode cX11_countPlainly 39 = .ok (.aload_n 1, 1) := by decide +kernel
theorem dX11_countPlainly_40 : decode cX11_countPlainly 40 = .ok (.iload 5, 2) := by decide +kernel
theorem dX11_countPlainly_42 : decode cX11_countPlainly 42 = .ok (.iload_n 2, 1) := by decide +kernel
theorem dX11_countPlainly_43 : decode cX11_countPlainly 43 = .ok (.invokestatic 394, 3) := by decide +kernel
theorem dX11_countPlainly_46 : decode cX11_countPlainly 46 = .ok (.invokevirtual 397, 3) := by decide +kernel
theorem dX11_countPlainly_49 : decode cX11_countPlainly 49 = .ok (.ifCond .eq 7, 3) := by decide +kernel
theorem dX11_countPlainly_52 : decode cX11_countPlainly 52 = .ok (.iconst 1, 1) := by decide +kernel
theorem dX11_countPlainly_53 : decode cX11_countPlainly 53 = .ok (.goto 4, 3) := by decide +kernel
theorem dX11_countPlainly_56 : decode cX11_countPlainly 56 = .ok (.iconst 0, 1) := by decide +kernel
theorem dX11_countPlainly_57 : decode cX11_countPlainly 57 = .ok (.iadd, 1) := by decide +kernel
theorem dX11_countPlainly_58 : decode cX11_countPlainly 58 = .ok (.istore 4, 2) := by decide +kernel
theorem dX11_countPlainly_60 : decode cX11_countPlainly 60 = .ok (.iinc 5 1, 3) := by decide +kernel
theorem dX11_countPlainly_63 : decode cX11_countPlainly 63 = .ok (.goto (-33), 3) := by decide +kernel
theorem dX11_countPlainly_66 : decode cX11_countPlainly 66 = .ok (.iload 4, 2) := by decide +kernel
theorem dX11_countPlainly_68 : decode cX11_countPlainly 68 = .ok (.ireturn, 1) := by decide +kernel
theorem dX11_allFit_0 : decode cX11_allFit 0 = .ok (.iconst 0, 1) := by decide +kernel
theorem dX11_allFit_1 : decode cX11_allFit 1 = .ok (.istore_n 3, 1) := by decide +kernel
theorem dX11_allFit_2 : decode cX11_allFit 2 = .ok (.iload_n 3, 1) := by decide +kernel
theorem dX11_allFit_3 : decode cX11_allFit 3 = .ok (.aload_n 1, 1) := by decide +kernel
theorem dX11_allFit_4 : decode cX11_allFit 4 = .ok (.getfield 151, 3) := by decide +kernel
theorem dX11_allFit_7 : decode cX11_allFit 7 = .ok (.if_icmp .ge 42, 3) := by decide +kernel
theorem dX11_allFit_10 : decode cX11_allFit 10 = .ok (.aload_n 1, 1) := by decide +kernel
theorem dX11_allFit_11 : decode cX11_allFit 11 = .ok (.iload_n 3, 1) := by decide +kernel
theorem dX11_allFit_12 : decode cX11_allFit 12 = .ok (.invokevirtual 189, 3) := by decide +kernel
theorem dX11_allFit_15 : decode cX11_allFit 15 = .ok (.istore 4, 2) := by decide +kernel
theorem dX11_allFit_17 : decode cX11_allFit 17 = .ok (.aload_n 0, 1) := by decide +kernel
theorem dX11_allFit_18 : decode cX11_allFit 18 = .ok (.getfield 26, 3) := by decide +kernel
theorem dX11_allFit_21 : decode cX11_allFit 21 = .ok (.getfield 228, 3) := by decide +kernel
theorem dX11_allFit_24 : decode cX11_allFit 24 = .ok (.iload 4, 2) := by decide +kernel
theorem dX11_allFit_26 : decode cX11_allFit 26 = .ok (.invokestatic 193, 3) := by decide +kernel
theorem dX11_allFit_29 : decode cX11_allFit 29 = .ok (.iload 4, 2) := by decide +kernel
theorem dX11_allFit_31 : decode cX11_allFit 31 = .ok (.iload_n 2, 1) := by decide +kernel
theorem dX11_allFit_32 : decode cX11_allFit 32 = .ok (.invokestatic 391, 3) := by decide +kernel
theorem dX11_allFit_35 : decode cX11_allFit 35 = .ok (.invokevirtual 125, 3) := by decide +kernel
theorem dX11_allFit_38 : decode cX11_allFit 38 = .ok (.ifCond .ne 5, 3) := by decide +kernel
theorem dX11_allFit_41 : decode cX11_allFit 41 = .ok (.iconst 0, 1) := by decide +kernel
theorem dX11_allFit_42 : decode cX11_allFit 42 = .ok (.ireturn, 1) := by decide +kernel
theorem dX11_allFit_43 : decode cX11_allFit 43 = .ok (.iinc 3 1, 3) := by decide +kernel
theorem dX11_allFit_46 : decode cX11_allFit 46 = .ok (.goto (-44), 3) := by decide +kernel
theorem dX11_allFit_49 : decode cX11_allFit 49 = .ok (.iconst 1, 1) := by decide +kernel
theorem dX11_allFit_50 : decode cX11_allFit 50 = .ok (.ireturn, 1) := by decide +kernel
theorem dX11_rowsWithoutReason_0 : decode cX11_rowsWithoutReason 0 = .ok (.iconst 0, 1) := by decide +kernel
theorem dX11_rowsWithoutReason_1 : decode cX11_rowsWithoutReason 1 = .ok (.istore_n 2, 1) := by decide +kernel
theorem dX11_rowsWithoutReason_2 : decode cX11_rowsWithoutReason 2 = .ok (.iconst 0, 1) := by decide +kernel
theorem dX11_rowsWithoutReason_3 : decode cX11_rowsWithoutReason 3 = .ok (.istore_n 3, 1) := by decide +kernel
theorem dX11_rowsWithoutReason_4 : decode cX11_rowsWithoutReason 4 = .ok (.iload_n 3, 1) := by decide +kernel
theorem dX11_rowsWithoutReason_5 : decode cX11_rowsWithoutReason 5 = .ok (.sipush 512, 3) := by decide +kernel
theorem dX11_rowsWithoutReason_8 : decode cX11_rowsWithoutReason 8 = .ok (.if_icmp .ge 43, 3) := by decide +kernel
theorem dX11_rowsWithoutReason_11 : decode cX11_rowsWithoutReason 11 = .ok (.aload_n 0, 1) := by decide +kernel
theorem dX11_rowsWithoutReason_12 : decode cX11_rowsWithoutReason 12 = .ok (.getfield 26, 3) := by decide +kernel
theorem dX11_rowsWithoutReason_15 : decode cX11_rowsWithoutReason 15 = .ok (.getfield 228, 3) := by decide +kernel
theorem dX11_rowsWithoutReason_18 : decode cX11_rowsWithoutReason 18 = .ok (.iload_n 1, 1) := by decide +kernel
theorem dX11_rowsWithoutReason_19 : decode cX11_rowsWithoutReason 19 = .ok (.iload_n 3, 1) := by decide +kernel
theorem dX11_rowsWithoutReason_20 : decode cX11_rowsWithoutReason 20 = .ok (.invokevirtual 125, 3) := by decide +kernel
theorem dX11_rowsWithoutReason_23 : decode cX11_rowsWithoutReason 23 = .ok (.ifCond .eq 22, 3) := by decide +kernel
theorem dX11_rowsWithoutReason_26 : decode cX11_rowsWithoutReason 26 = .ok (.aload_n 0, 1) := by decide +kernel
theorem dX11_rowsWithoutReason_27 : decode cX11_rowsWithoutReason 27 = .ok (.getfield 26, 3) := by decide +kernel
theorem dX11_rowsWithoutReason_30 : decode cX11_rowsWithoutReason 30 = .ok (.aload_n 0, 1) := by decide +kernel
theorem dX11_rowsWithoutReason_31 : decode cX11_rowsWithoutReason 31 = .ok (.getfield 10, 3) := by decide +kernel
theorem dX11_rowsWithoutReason_34 : decode cX11_rowsWithoutReason 34 = .ok (.iload_n 1, 1) := by decide +kernel
theorem dX11_rowsWithoutReason_35 : decode cX11_rowsWithoutReason 35 = .ok (.iload_n 3, 1) := by decide +kernel
theorem dX11_rowsWithoutReason_36 : decode cX11_rowsWithoutReason 36 = .ok (.invokevirtual 231, 3) := by decide +kernel
theorem dX11_rowsWithoutReason_39 : decode cX11_rowsWithoutReason 39 = .ok (.ifCond .ne 6, 3) := by decide +kernel
theorem dX11_rowsWithoutReason_42 : decode cX11_rowsWithoutReason 42 = .ok (.iinc 2 1, 3) := by decide +kernel
theorem dX11_rowsWithoutReason_45 : decode cX11_rowsWithoutReason 45 = .ok (.iinc 3 1, 3) := by decide +kernel
theorem dX11_rowsWithoutReason_48 : decode cX11_rowsWithoutReason 48 = .ok (.goto (-44), 3) := by decide +kernel
theorem dX11_rowsWithoutReason_51 : decode cX11_rowsWithoutReason 51 = .ok (.iload_n 2, 1) := by decide +kernel
theorem dX11_rowsWithoutReason_52 : decode cX11_rowsWithoutReason 52 = .ok (.ireturn, 1) := by decide +kernel
