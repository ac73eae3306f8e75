theorem dX9_corner_29 : decode cX9_corner 29 = .ok (.iload 5, 2) := by decide +kernel
theorem dX9_corner_31 : decode cX9_corner 31 = .ok (.imul, 1) := by decide +kernel
theorem dX9_corner_32 : decode cX9_corner 32 = .ok (.iload 6, 2) := by decide +kernel
theorem dX9_corner_34 : decode cX9_corner 34 = .ok (.iadd, 1) := by decide +kernel
theorem dX9_corner_35 : decode cX9_corner 35 = .ok (.iload 5, 2) := by decide +kernel
theorem dX9_corner_37 : decode cX9_corner 37 = .ok (.iload_n 1, 1) := by decide +kernel
theorem dX9_corner_38 : decode cX9_corner 38 = .ok (.iconst 1, 1) := by decide +kernel
theorem dX9_corner_39 : decode cX9_corner 39 = .ok (.isub, 1) := by decide +kernel
theorem dX9_corner_40 : decode cX9_corner 40 = .ok (.if_icmp .ne 7, 3) := by decide +kernel
theorem dX9_corner_43 : decode cX9_corner 43 = .ok (.lconst 1, 1) := by decide +kernel
theorem dX9_corner_44 : decode cX9_corner 44 = .ok (.goto 28, 3) := by decide +kernel
theorem dX9_corner_47 : decode cX9_corner 47 = .ok (.aload_n 0, 1) := by decide +kernel
theorem dX9_corner_48 : decode cX9_corner 48 = .ok (.aload_n 0, 1) := by decide +kernel
theorem dX9_corner_49 : decode cX9_corner 49 = .ok (.getfield 36, 3) := by decide +kernel
theorem dX9_corner_52 : decode cX9_corner 52 = .ok (.iload 5, 2) := by decide +kernel
theorem dX9_corner_54 : decode cX9_corner 54 = .ok (.iaload, 1) := by decide +kernel
theorem dX9_corner_55 : decode cX9_corner 55 = .ok (.iload_n 2, 1) := by decide +kernel
theorem dX9_corner_56 : decode cX9_corner 56 = .ok (.iload 5, 2) := by decide +kernel
theorem dX9_corner_58 : decode cX9_corner 58 = .ok (.ishr, 1) := by decide +kernel
theorem dX9_corner_59 : decode cX9_corner 59 = .ok (.iconst 1, 1) := by decide +kernel
theorem dX9_corner_60 : decode cX9_corner 60 = .ok (.iand, 1) := by decide +kernel
theorem dX9_corner_61 : decode cX9_corner 61 = .ok (.aload_n 0, 1) := by decide +kernel
theorem dX9_corner_62 : decode cX9_corner 62 = .ok (.getfield 33, 3) := by decide +kernel
theorem dX9_corner_65 : decode cX9_corner 65 = .ok (.iload 6, 2) := by decide +kernel
theorem dX9_corner_67 : decode cX9_corner 67 = .ok (.iaload, 1) := by decide +kernel
theorem dX9_corner_68 : decode cX9_corner 68 = .ok (.invokevirtual 140, 3) := by decide +kernel
theorem dX9_corner_71 : decode cX9_corner 71 = .ok (.i2l, 1) := by decide +kernel
theorem dX9_corner_72 : decode cX9_corner 72 = .ok (.lastore, 1) := by decide +kernel
theorem dX9_corner_73 : decode cX9_corner 73 = .ok (.iinc 6 1, 3) := by decide +kernel
theorem dX9_corner_76 : decode cX9_corner 76 = .ok (.goto (-59), 3) := by decide +kernel
theorem dX9_corner_79 : decode cX9_corner 79 = .ok (.aload_n 0, 1) := by decide +kernel
theorem dX9_corner_80 : decode cX9_corner 80 = .ok (.getfield 39, 3) := by decide +kernel
theorem dX9_corner_83 : decode cX9_corner 83 = .ok (.iload 4, 2) := by decide +kernel
theorem dX9_corner_85 : decode cX9_corner 85 = .ok (.iload 5, 2) := by decide +kernel
theorem dX9_corner_87 : decode cX9_corner 87 = .ok (.imul, 1) := by decide +kernel
theorem dX9_corner_88 : decode cX9_corner 88 = .ok (.iload_n 1, 1) := by decide +kernel
theorem dX9_corner_89 : decode cX9_corner 89 = .ok (.iadd, 1) := by decide +kernel
theorem dX9_corner_90 : decode cX9_corner 90 = .ok (.iload 5, 2) := by decide +kernel
theorem dX9_corner_92 : decode cX9_corner 92 = .ok (.iload_n 1, 1) := by decide +kernel
theorem dX9_corner_93 : decode cX9_corner 93 = .ok (.iconst 1, 1) := by decide +kernel
theorem dX9_corner_94 : decode cX9_corner 94 = .ok (.isub, 1) := by decide +kernel
theorem dX9_corner_95 : decode cX9_corner 95 = .ok (.if_icmp .ne 7, 3) := by decide +kernel
theorem dX9_corner_98 : decode cX9_corner 98 = .ok (.lconst 1, 1) := by decide +kernel
theorem dX9_corner_99 : decode cX9_corner 99 = .ok (.goto 4, 3) := by decide +kernel
theorem dX9_corner_102 : decode cX9_corner 102 = .ok (.lconst 0, 1) := by decide +kernel
theorem dX9_corner_103 : decode cX9_corner 103 = .ok (.lastore, 1) := by decide +kernel
theorem dX9_corner_104 : decode cX9_corner 104 = .ok (.iinc 5 1, 3) := by decide +kernel
theorem dX9_corner_107 : decode cX9_corner 107 = .ok (.goto (-99), 3) := by decide +kernel
theorem dX9_corner_110 : decode cX9_corner 110 = .ok (.lconst 1, 1) := by decide +kernel
theorem dX9_corner_111 : decode cX9_corner 111 = .ok (.lstore 5, 2) := by decide +kernel
theorem dX9_corner_113 : decode cX9_corner 113 = .ok (.iconst 0, 1) := by decide +kernel
theorem dX9_corner_114 : decode cX9_corner 114 = .ok (.istore 7, 2) := by decide +kernel
theorem dX9_corner_116 : decode cX9_corner 116 = .ok (.iload 7, 2) := by decide +kernel
theorem dX9_corner_118 : decode cX9_corner 118 = .ok (.iload_n 1, 1) := by decide +kernel
theorem dX9_corner_119 : decode cX9_corner 119 = .ok (.if_icmp .ge 241, 3) := by decide +kernel
theorem dX9_corner_122 : decode cX9_corner 122 = .ok (.iload 7, 2) := by decide +kernel
theorem dX9_corner_124 : decode cX9_corner 124 = .ok (.istore 8, 2) := by decide +kernel
theorem dX9_corner_126 : decode cX9_corner 126 = .ok (.iload 8, 2) := by decide +kernel
theorem dX9_corner_128 : decode cX9_corner 128 = .ok (.iload_n 1, 1) := by decide +kernel
theorem dX9_corner_129 : decode cX9_corner 129 = .ok (.if_icmp .ge 27, 3) := by decide +kernel
theorem dX9_corner_132 : decode cX9_corner 132 = .ok (.aload_n 0, 1) := by decide +kernel
theorem dX9_corner_133 : decode cX9_corner 133 = .ok (.getfield 39, 3) := by decide +kernel
theorem dX9_corner_136 : decode cX9_corner 136 = .ok (.iload 4, 2) := by decide +kernel
theorem dX9_corner_138 : decode cX9_corner 138 = .ok (.iload 8, 2) := by decide +kernel
theorem dX9_corner_140 : decode cX9_corner 140 = .ok (.imul, 1) := by decide +kernel
theorem dX9_corner_141 : decode cX9_corner 141 = .ok (.iload 7, 2) := by decide +kernel
theorem dX9_corner_143 : decode cX9_corner 143 = .ok (.iadd, 1) := by decide +kernel
theorem dX9_corner_144 : decode cX9_corner 144 = .ok (.laload, 1) := by decide +kernel
theorem dX9_corner_145 : decode cX9_corner 145 = .ok (.lconst 0, 1) := by decide +kernel
theorem dX9_corner_146 : decode cX9_corner 146 = .ok (.lcmp, 1) := by decide +kernel
theorem dX9_corner_147 : decode cX9_corner 147 = .ok (.ifCond .ne 9, 3) := by decide +kernel
theorem dX9_corner_150 : decode cX9_corner 150 = .ok (.iinc 8 1, 3) := by decide +kernel
theorem dX9_corner_153 : decode cX9_corner 153 = .ok (.goto (-27), 3) := by decide +kernel
theorem dX9_corner_156 : decode cX9_corner 156 = .ok (.iload 8, 2) := by decide +kernel
theorem dX9_corner_158 : decode cX9_corner 158 = .ok (.iload_n 1, 1) := by decide +kernel
theorem dX9_corner_159 : decode cX9_corner 159 = .ok (.if_icmp .ne 4, 3) := by decide +kernel
theorem dX9_corner_162 : decode cX9_corner 162 = .ok (.return_, 1) := by decide +kernel
theorem dX9_corner_163 : decode cX9_corner 163 = .ok (.iconst 0, 1) := by decide +kernel
theorem dX9_corner_164 : decode cX9_corner 164 = .ok (.istore 9, 2) := by decide +kernel
theorem dX9_corner_166 : decode cX9_corner 166 = .ok (.iload 9, 2) := by decide +kernel
theorem dX9_corner_168 : decode cX9_corner 168 = .ok (.iload_n 1, 1) := by decide +kernel
theorem dX9_corner_169 : decode cX9_corner 169 = .ok (.if_icmp .gt 65, 3) := by decide +kernel
theorem dX9_corner_172 : decode cX9_corner 172 = .ok (.aload_n 0, 1) := by decide +kernel
theorem dX9_corner_173 : decode cX9_corner 173 = .ok (.getfield 39, 3) := by decide +kernel
theorem dX9_corner_176 : decode cX9_corner 176 = .ok (.iload 4, 2) := by decide +kernel
theorem dX9_corner_178 : decode cX9_corner 178 = .ok (.iload 8, 2) := by decide +kernel
theorem dX9_corner_180 : decode cX9_corner 180 = .ok (.imul, 1) := by decide +kernel
theorem dX9_corner_181 : decode cX9_corner 181 = .ok (.iload 9, 2) := by decide +kernel
theorem dX9_corner_183 : decode cX9_corner 183 = .ok (.iadd, 1) := by decide +kernel
theorem dX9_corner_184 : decode cX9_corner 184 = .ok (.laload, 1) := by decide +kernel
theorem dX9_corner_185 : decode cX9_corner 185 = .ok (.lstore 10, 2) := by decide +kernel
theorem dX9_corner_187 : decode cX9_corner 187 = .ok (.aload_n 0, 1) := by decide +kernel
theorem dX9_corner_188 : decode cX9_corner 188 = .ok (.getfield 39, 3) := by decide +kernel
theorem dX9_corner_191 : decode cX9_corner 191 = .ok (.iload 4, 2) := by decide +kernel
theorem dX9_corner_193 : decode cX9_corner 193 = .ok (.iload 8, 2) := by decide +kernel
theorem dX9_corner_195 : decode cX9_corner 195 = .ok (.imul, 1) := by decide +kernel
theorem dX9_corner_196 : decode cX9_corner 196 = .ok (.iload 9, 2) := by decide +kernel
theorem dX9_corner_198 : decode cX9_corner 198 = .ok (.iadd, 1) := by decide +kernel
theorem dX9_corner_199 : decode cX9_corner 199 = .ok (.aload_n 0, 1) := by decide +kernel
theorem dX9_corner_200 : decode cX9_corner 200 = .ok (.getfield 39, 3) := by decide +kernel
theorem dX9_corner_203 : decode cX9_corner 203 = .ok (.iload 4, 2) := by decide +kernel
theorem dX9_corner_205 : decode cX9_corner 205 = .ok (.iload 7, 2) := by decide +kernel
theorem dX9_corner_207 : decode cX9_corner 207 = .ok (.imul, 1) := by decide +kernel
theorem dX9_corner_208 : decode cX9_corner 208 = .ok (.iload 9, 2) := by decide +kernel
theorem dX9_corner_210 : decode cX9_corner 210 = .ok (.iadd, 1) := by decide +kernel
theorem dX9_corner_211 : decode cX9_corner 211 = .ok (.laload, 1) := by decide +kernel
theorem dX9_corner_212 : decode cX9_corner 212 = .ok (.lastore, 1) := by decide +kernel
theorem dX9_corner_213 : decode cX9_corner 213 = .ok (.aload_n 0, 1) := by decide +kernel
theorem dX9_corner_214 : decode cX9_corner 214 = .ok (.getfield 39, 3) := by decide +kernel
theorem dX9_corner_217 : decode cX9_corner 217 = .ok (.iload 4, 2) := by decide +kernel
theorem dX9_corner_219 : decode cX9_corner 219 = .ok (.iload 7, 2) := by decide +kernel
theorem dX9_corner_221 : decode cX9_corner 221 = .ok (.imul, 1) := by decide +kernel
theorem dX9_corner_222 : decode cX9_corner 222 = .ok (.iload 9, 2) := by decide +kernel
theorem dX9_corner_224 : decode cX9_corner 224 = .ok (.iadd, 1) := by decide +kernel
theorem dX9_corner_225 : decode cX9_corner 225 = .ok (.lload 10, 2) := by decide +kernel
theorem dX9_corner_227 : decode cX9_corner 227 = .ok (.lastore, 1) := by decide +kernel
theorem dX9_corner_228 : decode cX9_corner 228 = .ok (.iinc 9 1, 3) := by decide +kernel
theorem dX9_corner_231 : decode cX9_corner 231 = .ok (.goto (-65), 3) := by decide +kernel
theorem dX9_corner_234 : decode cX9_corner 234 = .ok (.aload_n 0, 1) := by decide +kernel
theorem dX9_corner_235 : decode cX9_corner 235 = .ok (.getfield 39, 3) := by decide +kernel
theorem dX9_corner_238 : decode cX9_corner 238 = .ok (.iload 4, 2) := by decide +kernel
theorem dX9_corner_240 : decode cX9_corner 240 = .ok (.iload 7, 2) := by decide +kernel
theorem dX9_corner_242 : decode cX9_corner 242 = .ok (.imul, 1) := by decide +kernel
theorem dX9_corner_243 : decode cX9_corner 243 = .ok (.iload 7, 2) := by decide +kernel
theorem dX9_corner_245 : decode cX9_corner 245 = .ok (.iadd, 1) := by decide +kernel
theorem dX9_corner_246 : decode cX9_corner 246 = .ok (.laload, 1) := by decide +kernel
theorem dX9_corner_247 : decode cX9_corner 247 = .ok (.lstore 9, 2) := by decide +kernel
theorem dX9_corner_249 : decode cX9_corner 249 = .ok (.iconst 0, 1) := by decide +kernel
theorem dX9_corner_250 : decode cX9_corner 250 = .ok (.istore 11, 2) := by decide +kernel
theorem dX9_corner_252 : decode cX9_corner 252 = .ok (.iload 11, 2) := by decide +kernel
theorem dX9_corner_254 : decode cX9_corner 254 = .ok (.iload_n 1, 1) := by decide +kernel
theorem dX9_corner_255 : decode cX9_corner 255 = .ok (.if_icmp .ge 95, 3) := by decide +kernel
theorem dX9_corner_258 : decode cX9_corner 258 = .ok (.aload_n 0, 1) := by decide +kernel
theorem dX9_corner_259 : decode cX9_corner 259 = .ok (.getfield 39, 3) := by decide +kernel
theorem dX9_corner_262 : decode cX9_corner 262 = .ok (.iload 4, 2) := by decide +kernel
theorem dX9_corner_264 : decode cX9_corner 264 = .ok (.iload 11, 2) := by decide +kernel
theorem dX9_corner_266 : decode cX9_corner 266 = .ok (.imul, 1) := by decide +kernel
theorem dX9_corner_267 : decode cX9_corner 267 = .ok (.iload 7, 2) := by decide +kernel
theorem dX9_corner_269 : decode cX9_corner 269 = .ok (.iadd, 1) := by decide +kernel
theorem dX9_corner_270 : decode cX9_corner 270 = .ok (.laload, 1) := by decide +kernel
theorem dX9_corner_271 : decode cX9_corner 271 = .ok (.lstore 12, 2) := by decide +kernel
theorem dX9_corner_273 : decode cX9_corner 273 = .ok (.iconst 0, 1) := by decide +kernel
theorem dX9_corner_274 : decode cX9_corner 274 = .ok (.istore 14, 2) := by decide +kernel
theorem dX9_corner_276 : decode cX9_corner 276 = .ok (.iload 14, 2) := by decide +kernel
theorem dX9_corner_278 : decode cX9_corner 278 = .ok (.iload_n 1, 1) := by decide +kernel
theorem dX9_corner_279 : decode cX9_corner 279 = .ok (.if_icmp .gt 65, 3) := by decide +kernel
theorem dX9_corner_282 : decode cX9_corner 282 = .ok (.iload 11, 2) := by decide +kernel
theorem dX9_corner_284 : decode cX9_corner 284 = .ok (.iload 7, 2) := by decide +kernel
theorem dX9_corner_286 : decode cX9_corner 286 = .ok (.if_icmp .eq 58, 3) := by decide +kernel
theorem dX9_corner_289 : decode cX9_corner 289 = .ok (.aload_n 0, 1) := by decide +kernel
theorem dX9_corner_290 : decode cX9_corner 290 = .ok (.getfield 39, 3) := by decide +kernel
theorem dX9_corner_293 : decode cX9_corner 293 = .ok (.iload 4, 2) := by decide +kernel
theorem dX9_corner_295 : decode cX9_corner 295 = .ok (.iload 11, 2) := by decide +kernel
theorem dX9_corner_297 : decode cX9_corner 297 = .ok (.imul, 1) := by decide +kernel
theorem dX9_corner_298 : decode cX9_corner 298 = .ok (.iload 14, 2) := by decide +kernel
theorem dX9_corner_300 : decode cX9_corner 300 = .ok (.iadd, 1) := by decide +kernel
theorem dX9_corner_301 : decode cX9_corner 301 = .ok (.lload 9, 2) := by decide +kernel
theorem dX9_corner_303 : decode cX9_corner 303 = .ok (.aload_n 0, 1) := by decide +kernel
theorem dX9_corner_304 : decode cX9_corner 304 = .ok (.getfield 39, 3) := by decide +kernel
theorem dX9_corner_307 : decode cX9_corner 307 = .ok (.iload 4, 2) := by decide +kernel
theorem dX9_corner_309 : decode cX9_corner 309 = .ok (.iload 11, 2) := by decide +kernel
theorem dX9_corner_311 : decode cX9_corner 311 = .ok (.imul, 1) := by decide +kernel
theorem dX9_corner_312 : decode cX9_corner 312 = .ok (.iload 14, 2) := by decide +kernel
theorem dX9_corner_314 : decode cX9_corner 314 = .ok (.iadd, 1) := by decide +kernel
theorem dX9_corner_315 : decode cX9_corner 315 = .ok (.laload, 1) := by decide +kernel
theorem dX9_corner_316 : decode cX9_corner 316 = .ok (.lmul, 1) := by decide +kernel
theorem dX9_corner_317 : decode cX9_corner 317 = .ok (.lload 12, 2) := by decide +kernel
theorem dX9_corner_319 : decode cX9_corner 319 = .ok (.aload_n 0, 1) := by decide +kernel
theorem dX9_corner_320 : decode cX9_corner 320 = .ok (.getfield 39, 3) := by decide +kernel
theorem dX9_corner_323 : decode cX9_corner 323 = .ok (.iload 4, 2) := by decide +kernel
theorem dX9_corner_325 : decode cX9_corner 325 = .ok (.iload 7, 2) := by decide +kernel
theorem dX9_corner_327 : decode cX9_corner 327 = .ok (.imul, 1) := by decide +kernel
theorem dX9_corner_328 : decode cX9_corner 328 = .ok (.iload 14, 2) := by decide +kernel
theorem dX9_corner_330 : decode cX9_corner 330 = .ok (.iadd, 1) := by decide +kernel
theorem dX9_corner_331 : decode cX9_corner 331 = .ok (.laload, 1) := by decide +kernel
theorem dX9_corner_332 : decode cX9_corner 332 = .ok (.lmul, 1) := by decide +kernel
theorem dX9_corner_333 : decode cX9_corner 333 = .ok (.lsub, 1) := by decide +kernel
theorem dX9_corner_334 : decode cX9_corner 334 = .ok (.lload 5, 2) := by decide +kernel
theorem dX9_corner_336 : decode cX9_corner 336 = .ok (.ldiv, 1) := by decide +kernel
theorem dX9_corner_337 : decode cX9_corner 337 = .ok (.lastore, 1) := by decide +kernel
theorem dX9_corner_338 : decode cX9_corner 338 = .ok (.iinc 14 1, 3) := by decide +kernel
theorem dX9_corner_341 : decode cX9_corner 341 = .ok (.goto (-65), 3) := by decide +kernel
theorem dX9_corner_344 : decode cX9_corner 344 = .ok (.iinc 11 1, 3) := by decide +kernel
theorem dX9_corner_347 : decode cX9_corner 347 = .ok (.goto (-95), 3) := by decide +kernel
theorem dX9_corner_350 : decode cX9_corner 350 = .ok (.lload 9, 2) := by decide +kernel
theorem dX9_corner_352 : decode cX9_corner 352 = .ok (.lstore 5, 2) := by decide +kernel
theorem dX9_corner_354 : decode cX9_corner 354 = .ok (.iinc 7 1, 3) := by decide +kernel
theorem dX9_corner_357 : decode cX9_corner 357 = .ok (.goto (-241), 3) := by decide +kernel
theorem dX9_corner_360 : decode cX9_corner 360 = .ok (.lload 5, 2) := by decide +kernel
theorem dX9_corner_362 : decode cX9_corner 362 = .ok (.lconst 0, 1) := by decide +kernel
theorem dX9_corner_363 : decode cX9_corner 363 = .ok (.lcmp, 1) := by decide +kernel
theorem dX9_corner_364 : decode cX9_corner 364 = .ok (.ifCond .ge 9, 3) := by decide +kernel
theorem dX9_corner_367 : decode cX9_corner 367 = .ok (.ldc2_w 144, 3) := by decide +kernel
theorem dX9_corner_370 : decode cX9_corner 370 = .ok (.goto 4, 3) := by decide +kernel
theorem dX9_corner_373 : decode cX9_corner 373 = .ok (.lconst 1, 1) := by decide +kernel
theorem dX9_corner_374 : decode cX9_corner 374 = .ok (.lstore 7, 2) := by decide +kernel
theorem dX9_corner_376 : decode cX9_corner 376 = .ok (.iconst 0, 1) := by decide +kernel
theorem dX9_corner_377 : decode cX9_corner 377 = .ok (.istore 9, 2) := by decide +kernel
theorem dX9_corner_379 : decode cX9_corner 379 = .ok (.iload 9, 2) := by decide +kernel
theorem dX9_corner_381 : decode cX9_corner 381 = .ok (.bipush 8, 2) := by decide +kernel
theorem dX9_corner_383 : decode cX9_corner 383 = .ok (.if_icmp .ge 17, 3) := by decide +kernel
theorem dX9_corner_386 : decode cX9_corner 386 = .ok (.aload_n 0, 1) := by decide +kernel
theorem dX9_corner_387 : decode cX9_corner 387 = .ok (.getfield 42, 3) := by decide +kernel
theorem dX9_corner_390 : decode cX9_corner 390 = .ok (.iload 9, 2) := by decide +kernel
theorem dX9_corner_392 : decode cX9_corner 392 = .ok (.lconst 0, 1) := by decide +kernel
theorem dX9_corner_393 : decode cX9_corner 393 = .ok (.lastore, 1) := by decide +kernel
theorem dX9_corner_394 : decode cX9_corner 394 = .ok (.iinc 9 1, 3) := by decide +kernel
theorem dX9_corner_397 : decode cX9_corner 397 = .ok (.goto (-18), 3) := by decide +kernel
theorem dX9_corner_400 : decode cX9_corner 400 = .ok (.iconst 0, 1) := by decide +kernel
theorem dX9_corner_401 : decode cX9_corner 401 = .ok (.istore 9, 2) := by decide +kernel
theorem dX9_corner_403 : decode cX9_corner 403 = .ok (.iload 9, 2) := by decide +kernel
theorem dX9_corner_405 : decode cX9_corner 405 = .ok (.iload_n 1, 1) := by decide +kernel
theorem dX9_corner_406 : decode cX9_corner 406 = .ok (.if_icmp .ge 54, 3) := by decide +kernel
theorem dX9_corner_409 : decode cX9_corner 409 = .ok (.aload_n 0, 1) := by decide +kernel
theorem dX9_corner_410 : decode cX9_corner 410 = .ok (.getfield 42, 3) := by decide +kernel
theorem dX9_corner_413 : decode cX9_corner 413 = .ok (.aload_n 0, 1) := by decide +kernel
theorem dX9_corner_414 : decode cX9_corner 414 = .ok (.getfield 33, 3) := by decide +kernel
theorem dX9_corner_417 : decode cX9_corner 417 = .ok (.iload 9, 2) := by decide +kernel
theorem dX9_corner_419 : decode cX9_corner 419 = .ok (.iaload, 1) := by decide +kernel
theorem dX9_corner_420 : decode cX9_corner 420 = .ok (.lload 7, 2) := by decide +kernel
