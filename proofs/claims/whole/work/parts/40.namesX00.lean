theorem dX9_formula_257 : decode cX9_formula 257 = .ok (.istore_n 3, 1) := by decide +kernel
theorem dX9_formula_258 : decode cX9_formula 258 = .ok (.aload_n 0, 1) := by decide +kernel
theorem dX9_formula_259 : decode cX9_formula 259 = .ok (.invokevirtual 93, 3) := by decide +kernel
theorem dX9_formula_262 : decode cX9_formula 262 = .ok (.goto 67, 3) := by decide +kernel
theorem dX9_formula_265 : decode cX9_formula 265 = .ok (.aload_n 0, 1) := by decide +kernel
theorem dX9_formula_266 : decode cX9_formula 266 = .ok (.bipush 41, 2) := by decide +kernel
theorem dX9_formula_268 : decode cX9_formula 268 = .ok (.invokevirtual 96, 3) := by decide +kernel
theorem dX9_formula_271 : decode cX9_formula 271 = .ok (.ifCond .eq 55, 3) := by decide +kernel
theorem dX9_formula_274 : decode cX9_formula 274 = .ok (.aload_n 0, 1) := by decide +kernel
theorem dX9_formula_275 : decode cX9_formula 275 = .ok (.invokevirtual 106, 3) := by decide +kernel
theorem dX9_formula_278 : decode cX9_formula 278 = .ok (.bipush (-9), 2) := by decide +kernel
theorem dX9_formula_280 : decode cX9_formula 280 = .ok (.if_icmp .eq 46, 3) := by decide +kernel
theorem dX9_formula_283 : decode cX9_formula 283 = .ok (.aload_n 0, 1) := by decide +kernel
theorem dX9_formula_284 : decode cX9_formula 284 = .ok (.getfield 16, 3) := by decide +kernel
theorem dX9_formula_287 : decode cX9_formula 287 = .ok (.aload_n 0, 1) := by decide +kernel
theorem dX9_formula_288 : decode cX9_formula 288 = .ok (.getfield 84, 3) := by decide +kernel
theorem dX9_formula_291 : decode cX9_formula 291 = .ok (.iconst 1, 1) := by decide +kernel
theorem dX9_formula_292 : decode cX9_formula 292 = .ok (.isub, 1) := by decide +kernel
theorem dX9_formula_293 : decode cX9_formula 293 = .ok (.iaload, 1) := by decide +kernel
theorem dX9_formula_294 : decode cX9_formula 294 = .ok (.bipush 40, 2) := by decide +kernel
theorem dX9_formula_296 : decode cX9_formula 296 = .ok (.if_icmp .eq 10, 3) := by decide +kernel
theorem dX9_formula_299 : decode cX9_formula 299 = .ok (.aload_n 0, 1) := by decide +kernel
theorem dX9_formula_300 : decode cX9_formula 300 = .ok (.invokevirtual 103, 3) := by decide +kernel
theorem dX9_formula_303 : decode cX9_formula 303 = .ok (.goto (-20), 3) := by decide +kernel
theorem dX9_formula_306 : decode cX9_formula 306 = .ok (.aload_n 0, 1) := by decide +kernel
theorem dX9_formula_307 : decode cX9_formula 307 = .ok (.dup, 1) := by decide +kernel
theorem dX9_formula_308 : decode cX9_formula 308 = .ok (.getfield 84, 3) := by decide +kernel
theorem dX9_formula_311 : decode cX9_formula 311 = .ok (.iconst 1, 1) := by decide +kernel
theorem dX9_formula_312 : decode cX9_formula 312 = .ok (.isub, 1) := by decide +kernel
theorem dX9_formula_313 : decode cX9_formula 313 = .ok (.putfield 84, 3) := by decide +kernel
theorem dX9_formula_316 : decode cX9_formula 316 = .ok (.iinc 2 (-1), 3) := by decide +kernel
theorem dX9_formula_319 : decode cX9_formula 319 = .ok (.aload_n 0, 1) := by decide +kernel
theorem dX9_formula_320 : decode cX9_formula 320 = .ok (.invokevirtual 93, 3) := by decide +kernel
theorem dX9_formula_323 : decode cX9_formula 323 = .ok (.goto 6, 3) := by decide +kernel
theorem dX9_formula_326 : decode cX9_formula 326 = .ok (.iconst 0, 1) := by decide +kernel
theorem dX9_formula_327 : decode cX9_formula 327 = .ok (.istore 4, 2) := by decide +kernel
theorem dX9_formula_329 : decode cX9_formula 329 = .ok (.iload_n 3, 1) := by decide +kernel
theorem dX9_formula_330 : decode cX9_formula 330 = .ok (.ifCond .ne (-311), 3) := by decide +kernel
theorem dX9_formula_333 : decode cX9_formula 333 = .ok (.aload_n 0, 1) := by decide +kernel
theorem dX9_formula_334 : decode cX9_formula 334 = .ok (.getfield 84, 3) := by decide +kernel
theorem dX9_formula_337 : decode cX9_formula 337 = .ok (.ifCond .le (-318), 3) := by decide +kernel
theorem dX9_formula_340 : decode cX9_formula 340 = .ok (.aload_n 0, 1) := by decide +kernel
theorem dX9_formula_341 : decode cX9_formula 341 = .ok (.getfield 16, 3) := by decide +kernel
theorem dX9_formula_344 : decode cX9_formula 344 = .ok (.aload_n 0, 1) := by decide +kernel
theorem dX9_formula_345 : decode cX9_formula 345 = .ok (.getfield 84, 3) := by decide +kernel
theorem dX9_formula_348 : decode cX9_formula 348 = .ok (.iconst 1, 1) := by decide +kernel
theorem dX9_formula_349 : decode cX9_formula 349 = .ok (.isub, 1) := by decide +kernel
theorem dX9_formula_350 : decode cX9_formula 350 = .ok (.iaload, 1) := by decide +kernel
theorem dX9_formula_351 : decode cX9_formula 351 = .ok (.bipush 33, 2) := by decide +kernel
theorem dX9_formula_353 : decode cX9_formula 353 = .ok (.if_icmp .ne (-334), 3) := by decide +kernel
theorem dX9_formula_356 : decode cX9_formula 356 = .ok (.aload_n 0, 1) := by decide +kernel
theorem dX9_formula_357 : decode cX9_formula 357 = .ok (.dup, 1) := by decide +kernel
theorem dX9_formula_358 : decode cX9_formula 358 = .ok (.getfield 84, 3) := by decide +kernel
theorem dX9_formula_361 : decode cX9_formula 361 = .ok (.iconst 1, 1) := by decide +kernel
theorem dX9_formula_362 : decode cX9_formula 362 = .ok (.isub, 1) := by decide +kernel
theorem dX9_formula_363 : decode cX9_formula 363 = .ok (.putfield 84, 3) := by decide +kernel
theorem dX9_formula_366 : decode cX9_formula 366 = .ok (.iinc 2 (-1), 3) := by decide +kernel
theorem dX9_formula_369 : decode cX9_formula 369 = .ok (.aload_n 0, 1) := by decide +kernel
theorem dX9_formula_370 : decode cX9_formula 370 = .ok (.getfield 19, 3) := by decide +kernel
theorem dX9_formula_373 : decode cX9_formula 373 = .ok (.aload_n 0, 1) := by decide +kernel
theorem dX9_formula_374 : decode cX9_formula 374 = .ok (.getfield 87, 3) := by decide +kernel
theorem dX9_formula_377 : decode cX9_formula 377 = .ok (.iconst 1, 1) := by decide +kernel
theorem dX9_formula_378 : decode cX9_formula 378 = .ok (.isub, 1) := by decide +kernel
theorem dX9_formula_379 : decode cX9_formula 379 = .ok (.sipush 255, 3) := by decide +kernel
theorem dX9_formula_382 : decode cX9_formula 382 = .ok (.aload_n 0, 1) := by decide +kernel
theorem dX9_formula_383 : decode cX9_formula 383 = .ok (.getfield 19, 3) := by decide +kernel
theorem dX9_formula_386 : decode cX9_formula 386 = .ok (.aload_n 0, 1) := by decide +kernel
theorem dX9_formula_387 : decode cX9_formula 387 = .ok (.getfield 87, 3) := by decide +kernel
theorem dX9_formula_390 : decode cX9_formula 390 = .ok (.iconst 1, 1) := by decide +kernel
theorem dX9_formula_391 : decode cX9_formula 391 = .ok (.isub, 1) := by decide +kernel
theorem dX9_formula_392 : decode cX9_formula 392 = .ok (.iaload, 1) := by decide +kernel
theorem dX9_formula_393 : decode cX9_formula 393 = .ok (.iconst (-1), 1) := by decide +kernel
theorem dX9_formula_394 : decode cX9_formula 394 = .ok (.ixor, 1) := by decide +kernel
theorem dX9_formula_395 : decode cX9_formula 395 = .ok (.iand, 1) := by decide +kernel
theorem dX9_formula_396 : decode cX9_formula 396 = .ok (.iastore, 1) := by decide +kernel
theorem dX9_formula_397 : decode cX9_formula 397 = .ok (.goto (-68), 3) := by decide +kernel
theorem dX9_formula_400 : decode cX9_formula 400 = .ok (.aload_n 0, 1) := by decide +kernel
theorem dX9_formula_401 : decode cX9_formula 401 = .ok (.invokevirtual 80, 3) := by decide +kernel
theorem dX9_formula_404 : decode cX9_formula 404 = .ok (.ifCond .eq 16, 3) := by decide +kernel
theorem dX9_formula_407 : decode cX9_formula 407 = .ok (.aload_n 0, 1) := by decide +kernel
theorem dX9_formula_408 : decode cX9_formula 408 = .ok (.invokevirtual 106, 3) := by decide +kernel
theorem dX9_formula_411 : decode cX9_formula 411 = .ok (.bipush (-9), 2) := by decide +kernel
theorem dX9_formula_413 : decode cX9_formula 413 = .ok (.if_icmp .eq 7, 3) := by decide +kernel
theorem dX9_formula_416 : decode cX9_formula 416 = .ok (.aload_n 0, 1) := by decide +kernel
theorem dX9_formula_417 : decode cX9_formula 417 = .ok (.invokevirtual 100, 3) := by decide +kernel
theorem dX9_formula_420 : decode cX9_formula 420 = .ok (.aload_n 0, 1) := by decide +kernel
theorem dX9_formula_421 : decode cX9_formula 421 = .ok (.invokevirtual 80, 3) := by decide +kernel
theorem dX9_formula_424 : decode cX9_formula 424 = .ok (.ifCond .eq 17, 3) := by decide +kernel
theorem dX9_formula_427 : decode cX9_formula 427 = .ok (.aload_n 0, 1) := by decide +kernel
theorem dX9_formula_428 : decode cX9_formula 428 = .ok (.getfield 84, 3) := by decide +kernel
theorem dX9_formula_431 : decode cX9_formula 431 = .ok (.ifCond .le 10, 3) := by decide +kernel
theorem dX9_formula_434 : decode cX9_formula 434 = .ok (.aload_n 0, 1) := by decide +kernel
theorem dX9_formula_435 : decode cX9_formula 435 = .ok (.invokevirtual 103, 3) := by decide +kernel
theorem dX9_formula_438 : decode cX9_formula 438 = .ok (.goto (-18), 3) := by decide +kernel
theorem dX9_formula_441 : decode cX9_formula 441 = .ok (.aload_n 0, 1) := by decide +kernel
theorem dX9_formula_442 : decode cX9_formula 442 = .ok (.invokevirtual 80, 3) := by decide +kernel
theorem dX9_formula_445 : decode cX9_formula 445 = .ok (.ifCond .eq 12, 3) := by decide +kernel
theorem dX9_formula_448 : decode cX9_formula 448 = .ok (.aload_n 0, 1) := by decide +kernel
theorem dX9_formula_449 : decode cX9_formula 449 = .ok (.getfield 19, 3) := by decide +kernel
theorem dX9_formula_452 : decode cX9_formula 452 = .ok (.iconst 0, 1) := by decide +kernel
theorem dX9_formula_453 : decode cX9_formula 453 = .ok (.iaload, 1) := by decide +kernel
theorem dX9_formula_454 : decode cX9_formula 454 = .ok (.goto 4, 3) := by decide +kernel
theorem dX9_formula_457 : decode cX9_formula 457 = .ok (.iconst 0, 1) := by decide +kernel
theorem dX9_formula_458 : decode cX9_formula 458 = .ok (.ireturn, 1) := by decide +kernel
set_option maxRecDepth 20000 in
theorem ggX9_takesNumber_X9_isWell : GoodIn wsX9_takesNumber wsX9_isWell := goodIn_r _ [7, 8, 28, 29, 30, 31, 32, 33, 34, 35, 36, 37, 38, 39, 40, 41, 42, 43, 44, 45, 46, 47, 48, 49, 50, 51, 52, 53, 54, 55] rfl (by decide +kernel)
set_option maxRecDepth 20000 in
theorem gX9_takesNumber_X9_isWell : GoodIn wsX9_takesNumber (wsV RX9 80 RX9 yX9_isWell wsX9_isWell) := goodIn_app (goodIn_of _ (by decide +kernel)) ggX9_takesNumber_X9_isWell
set_option maxRecDepth 20000 in
theorem ggX9_takesNumber_X9_in : GoodIn wsX9_takesNumber wsX9_in := goodIn_r _ [11] rfl (by decide +kernel)
set_option maxRecDepth 20000 in
theorem gX9_takesNumber_X9_in : GoodIn wsX9_takesNumber (va_wsS RX9 52 yX9_in wsX9_in) := goodIn_app (goodIn_of _ (by decide +kernel)) ggX9_takesNumber_X9_in
set_option maxRecDepth 20000 in
theorem ggX9_takesNumber_X9_fails : GoodIn wsX9_takesNumber wsX9_fails := goodIn_r _ [15, 8, 16, 28, 29, 30, 31, 32, 33, 34, 35, 36, 37, 38, 39, 40, 41, 42, 43, 44, 45, 46, 47, 48, 49, 50, 51, 52, 53, 54, 55] rfl (by decide +kernel)
set_option maxRecDepth 20000 in
theorem gX9_takesNumber_X9_fails : GoodIn wsX9_takesNumber (wsV RX9 100 RX9 yX9_fails wsX9_fails) := goodIn_app (goodIn_of _ (by decide +kernel)) ggX9_takesNumber_X9_fails
set_option maxRecDepth 20000 in
theorem ggX9_takesNumber_X9_advances : GoodIn wsX9_takesNumber wsX9_advances := goodIn_r _ [20, 21, 16, 1, 2, 22, 23, 24, 25, 6, 26, 27, 9, 10, 11, 28, 29, 30, 31, 32, 33, 34, 35, 36, 37, 38, 39, 40, 41, 42, 43, 44, 45, 46, 47, 48, 49, 50, 51, 52, 53, 54, 55] rfl (by decide +kernel)
set_option maxRecDepth 20000 in
theorem gX9_takesNumber_X9_advances : GoodIn wsX9_takesNumber (wsV RX9 93 RX9 yX9_advances wsX9_advances) := goodIn_app (goodIn_of _ (by decide +kernel)) ggX9_takesNumber_X9_advances
theorem dX9_takesNumber_0 : decode cX9_takesNumber 0 = .ok (.aload_n 0, 1) := by decide +kernel
theorem dX9_takesNumber_1 : decode cX9_takesNumber 1 = .ok (.invokevirtual 80, 3) := by decide +kernel
theorem dX9_takesNumber_4 : decode cX9_takesNumber 4 = .ok (.ifCond .eq 24, 3) := by decide +kernel
theorem dX9_takesNumber_7 : decode cX9_takesNumber 7 = .ok (.aload_n 0, 1) := by decide +kernel
theorem dX9_takesNumber_8 : decode cX9_takesNumber 8 = .ok (.getfield 71, 3) := by decide +kernel
theorem dX9_takesNumber_11 : decode cX9_takesNumber 11 = .ok (.iconst 3, 1) := by decide +kernel
theorem dX9_takesNumber_12 : decode cX9_takesNumber 12 = .ok (.if_icmp .ne 16, 3) := by decide +kernel
theorem dX9_takesNumber_15 : decode cX9_takesNumber 15 = .ok (.aload_n 0, 1) := by decide +kernel
theorem dX9_takesNumber_16 : decode cX9_takesNumber 16 = .ok (.getfield 74, 3) := by decide +kernel
theorem dX9_takesNumber_19 : decode cX9_takesNumber 19 = .ok (.iload_n 1, 1) := by decide +kernel
theorem dX9_takesNumber_20 : decode cX9_takesNumber 20 = .ok (.bipush 100, 2) := by decide +kernel
theorem dX9_takesNumber_22 : decode cX9_takesNumber 22 = .ok (.invokestatic 52, 3) := by decide +kernel
theorem dX9_takesNumber_25 : decode cX9_takesNumber 25 = .ok (.ifCond .ne 9, 3) := by decide +kernel
theorem dX9_takesNumber_28 : decode cX9_takesNumber 28 = .ok (.aload_n 0, 1) := by decide +kernel
theorem dX9_takesNumber_29 : decode cX9_takesNumber 29 = .ok (.invokevirtual 100, 3) := by decide +kernel
theorem dX9_takesNumber_32 : decode cX9_takesNumber 32 = .ok (.iconst 0, 1) := by decide +kernel
theorem dX9_takesNumber_33 : decode cX9_takesNumber 33 = .ok (.ireturn, 1) := by decide +kernel
theorem dX9_takesNumber_34 : decode cX9_takesNumber 34 = .ok (.aload_n 0, 1) := by decide +kernel
theorem dX9_takesNumber_35 : decode cX9_takesNumber 35 = .ok (.getfield 74, 3) := by decide +kernel
theorem dX9_takesNumber_38 : decode cX9_takesNumber 38 = .ok (.istore_n 2, 1) := by decide +kernel
theorem dX9_takesNumber_39 : decode cX9_takesNumber 39 = .ok (.aload_n 0, 1) := by decide +kernel
theorem dX9_takesNumber_40 : decode cX9_takesNumber 40 = .ok (.invokevirtual 93, 3) := by decide +kernel
theorem dX9_takesNumber_43 : decode cX9_takesNumber 43 = .ok (.iload_n 2, 1) := by decide +kernel
theorem dX9_takesNumber_44 : decode cX9_takesNumber 44 = .ok (.ireturn, 1) := by decide +kernel
set_option maxRecDepth 20000 in
theorem ggX9_takesSign_X9_isSign : GoodIn wsX9_takesSign wsX9_isSign := goodIn_r _ [5, 6, 7, 8, 9, 10, 4, 11, 12, 32, 33, 34, 35, 36, 37, 38, 39, 40, 41, 42, 43, 44, 45, 46, 47, 48, 49, 50, 51, 52, 53, 54, 55, 56, 57, 58, 59] rfl (by decide +kernel)
set_option maxRecDepth 20000 in
theorem gX9_takesSign_X9_isSign : GoodIn wsX9_takesSign (wsV RX9 96 RX9 yX9_isSign wsX9_isSign) := goodIn_app (goodIn_of _ (by decide +kernel)) ggX9_takesSign_X9_isSign
set_option maxRecDepth 20000 in
theorem ggX9_takesSign_X9_advances : GoodIn wsX9_takesSign wsX9_advances := goodIn_r _ [16, 17, 18, 6, 7, 19, 20, 21, 22, 4, 23, 24, 25, 26, 27, 32, 33, 34, 35, 36, 37, 38, 39, 40, 41, 42, 43, 44, 45, 46, 47, 48, 49, 50, 51, 52, 53, 54, 55, 56, 57, 58, 59] rfl (by decide +kernel)
set_option maxRecDepth 20000 in
theorem gX9_takesSign_X9_advances : GoodIn wsX9_takesSign (wsV RX9 93 RX9 yX9_advances wsX9_advances) := goodIn_app (goodIn_of _ (by decide +kernel)) ggX9_takesSign_X9_advances
set_option maxRecDepth 20000 in
theorem ggX9_takesSign_X9_fails : GoodIn wsX9_takesSign wsX9_fails := goodIn_r _ [31, 12, 18, 32, 33, 34, 35, 36, 37, 38, 39, 40, 41, 42, 43, 44, 45, 46, 47, 48, 49, 50, 51, 52, 53, 54, 55, 56, 57, 58, 59] rfl (by decide +kernel)
set_option maxRecDepth 20000 in
theorem gX9_takesSign_X9_fails : GoodIn wsX9_takesSign (wsV RX9 100 RX9 yX9_fails wsX9_fails) := goodIn_app (goodIn_of _ (by decide +kernel)) ggX9_takesSign_X9_fails
theorem dX9_takesSign_0 : decode cX9_takesSign 0 = .ok (.aload_n 0, 1) := by decide +kernel
theorem dX9_takesSign_1 : decode cX9_takesSign 1 = .ok (.iload_n 1, 1) := by decide +kernel
theorem dX9_takesSign_2 : decode cX9_takesSign 2 = .ok (.invokevirtual 96, 3) := by decide +kernel
theorem dX9_takesSign_5 : decode cX9_takesSign 5 = .ok (.ifCond .eq 10, 3) := by decide +kernel
theorem dX9_takesSign_8 : decode cX9_takesSign 8 = .ok (.aload_n 0, 1) := by decide +kernel
theorem dX9_takesSign_9 : decode cX9_takesSign 9 = .ok (.invokevirtual 93, 3) := by decide +kernel
theorem dX9_takesSign_12 : decode cX9_takesSign 12 = .ok (.goto 7, 3) := by decide +kernel
theorem dX9_takesSign_15 : decode cX9_takesSign 15 = .ok (.aload_n 0, 1) := by decide +kernel
theorem dX9_takesSign_16 : decode cX9_takesSign 16 = .ok (.invokevirtual 100, 3) := by decide +kernel
theorem dX9_takesSign_19 : decode cX9_takesSign 19 = .ok (.return_, 1) := by decide +kernel
set_option maxRecDepth 20000 in
theorem ggX9_read_X9_advances : GoodIn wsX9_read wsX9_advances := goodIn_r _ [13, 3, 14, 4, 15, 16, 17, 18, 19, 12, 20, 8, 21, 22, 23, 63, 64, 65, 66, 67, 68, 69, 70, 71, 72, 73, 74, 75, 76, 77, 78, 79, 80, 81, 82, 83, 84, 85, 86, 87, 88, 89, 90] rfl (by decide +kernel)
set_option maxRecDepth 20000 in
theorem gX9_read_X9_advances : GoodIn wsX9_read (wsV RX9 93 RX9 yX9_advances wsX9_advances) := goodIn_app (goodIn_of _ (by decide +kernel)) ggX9_read_X9_advances
set_option maxRecDepth 20000 in
theorem ggX9_read_X9_isWell : GoodIn wsX9_read wsX9_isWell := goodIn_r _ [27, 2, 63, 64, 65, 66, 67, 68, 69, 70, 71, 72, 73, 74, 75, 76, 77, 78, 79, 80, 81, 82, 83, 84, 85, 86, 87, 88, 89, 90] rfl (by decide +kernel)
set_option maxRecDepth 20000 in
theorem gX9_read_X9_isWell : GoodIn wsX9_read (wsV RX9 80 RX9 yX9_isWell wsX9_isWell) := goodIn_app (goodIn_of _ (by decide +kernel)) ggX9_read_X9_isWell
set_option maxRecDepth 20000 in
theorem ggX9_read_X9_fails : GoodIn wsX9_read wsX9_fails := goodIn_r _ [31, 2, 14, 63, 64, 65, 66, 67, 68, 69, 70, 71, 72, 73, 74, 75, 76, 77, 78, 79, 80, 81, 82, 83, 84, 85, 86, 87, 88, 89, 90] rfl (by decide +kernel)
set_option maxRecDepth 20000 in
theorem gX9_read_X9_fails : GoodIn wsX9_read (wsV RX9 100 RX9 yX9_fails wsX9_fails) := goodIn_app (goodIn_of _ (by decide +kernel)) ggX9_read_X9_fails
set_option maxRecDepth 20000 in
theorem ggX9_read_X9_formula : GoodIn wsX9_read wsX9_formula := goodIn_r _ [35, 36, 37, 4, 38, 15, 39, 24, 25, 26, 12, 27, 2, 40, 41, 42, 9, 10, 11, 13, 3, 14, 16, 17, 18, 19, 20, 8, 21, 22, 23, 43, 44, 45, 46, 28, 29, 30, 31, 47, 48, 49, 50, 51, 52, 53, 54, 63, 64, 65, 66, 67, 68, 69, 70, 71, 72, 73, 74, 75, 76, 77, 78, 79, 80, 81, 82, 83, 84, 85, 86, 87, 88, 89, 90] rfl (by decide +kernel)
set_option maxRecDepth 20000 in
theorem gX9_read_X9_formula : GoodIn wsX9_read (wsV RX9 110 RX9 yX9_formula wsX9_formula) := goodIn_app (goodIn_of _ (by decide +kernel)) ggX9_read_X9_formula
set_option maxRecDepth 20000 in
theorem ggX9_read_X9_takesNumber : GoodIn wsX9_read wsX9_takesNumber := goodIn_r _ [58, 4, 15, 24, 25, 26, 12, 27, 2, 21, 22, 23, 28, 29, 30, 31, 14, 9, 10, 11, 13, 3, 16, 17, 18, 19, 20, 8, 63, 64, 65, 66, 67, 68, 69, 70, 71, 72, 73, 74, 75, 76, 77, 78, 79, 80, 81, 82, 83, 84, 85, 86, 87, 88, 89, 90] rfl (by decide +kernel)
set_option maxRecDepth 20000 in
theorem gX9_read_X9_takesNumber : GoodIn wsX9_read (wsV RX9 113 RX9 yX9_takesNumber wsX9_takesNumber) := goodIn_app (goodIn_of _ (by decide +kernel)) ggX9_read_X9_takesNumber
set_option maxRecDepth 20000 in
theorem ggX9_read_X9_takesSign : GoodIn wsX9_read wsX9_takesSign := goodIn_r _ [62, 43, 44, 45, 12, 46, 4, 15, 24, 25, 26, 27, 2, 9, 10, 11, 13, 3, 14, 16, 17, 18, 19, 20, 8, 21, 22, 23, 28, 29, 30, 31, 63, 64, 65, 66, 67, 68, 69, 70, 71, 72, 73, 74, 75, 76, 77, 78, 79, 80, 81, 82, 83, 84, 85, 86, 87, 88, 89, 90] rfl (by decide +kernel)
set_option maxRecDepth 20000 in
theorem gX9_read_X9_takesSign : GoodIn wsX9_read (wsV RX9 116 RX9 yX9_takesSign wsX9_takesSign) := goodIn_app (goodIn_of _ (by decide +kernel)) ggX9_read_X9_takesSign
theorem dX9_read_0 : decode cX9_read 0 = .ok (.aload_n 0, 1) := by decide +kernel
theorem dX9_read_1 : decode cX9_read 1 = .ok (.iconst 0, 1) := by decide +kernel
theorem dX9_read_2 : decode cX9_read 2 = .ok (.putfield 45, 3) := by decide +kernel
theorem dX9_read_5 : decode cX9_read 5 = .ok (.aload_n 0, 1) := by decide +kernel
theorem dX9_read_6 : decode cX9_read 6 = .ok (.iconst (-1), 1) := by decide +kernel
theorem dX9_read_7 : decode cX9_read 7 = .ok (.putfield 77, 3) := by decide +kernel
theorem dX9_read_10 : decode cX9_read 10 = .ok (.aload_n 0, 1) := by decide +kernel
theorem dX9_read_11 : decode cX9_read 11 = .ok (.iconst 0, 1) := by decide +kernel
theorem dX9_read_12 : decode cX9_read 12 = .ok (.putfield 61, 3) := by decide +kernel
theorem dX9_read_15 : decode cX9_read 15 = .ok (.iconst 0, 1) := by decide +kernel
theorem dX9_read_16 : decode cX9_read 16 = .ok (.istore_n 1, 1) := by decide +kernel
theorem dX9_read_17 : decode cX9_read 17 = .ok (.aload_n 0, 1) := by decide +kernel
theorem dX9_read_18 : decode cX9_read 18 = .ok (.invokevirtual 93, 3) := by decide +kernel
theorem dX9_read_21 : decode cX9_read 21 = .ok (.aload_n 0, 1) := by decide +kernel
theorem dX9_read_22 : decode cX9_read 22 = .ok (.invokevirtual 80, 3) := by decide +kernel
theorem dX9_read_25 : decode cX9_read 25 = .ok (.ifCond .eq 141, 3) := by decide +kernel
theorem dX9_read_28 : decode cX9_read 28 = .ok (.aload_n 0, 1) := by decide +kernel
theorem dX9_read_29 : decode cX9_read 29 = .ok (.getfield 71, 3) := by decide +kernel
theorem dX9_read_32 : decode cX9_read 32 = .ok (.ifCond .eq 134, 3) := by decide +kernel
theorem dX9_read_35 : decode cX9_read 35 = .ok (.bipush 20, 2) := by decide +kernel
theorem dX9_read_37 : decode cX9_read 37 = .ok (.iconst 5, 1) := by decide +kernel
theorem dX9_read_38 : decode cX9_read 38 = .ok (.iload_n 1, 1) := by decide +kernel
theorem dX9_read_39 : decode cX9_read 39 = .ok (.imul, 1) := by decide +kernel
theorem dX9_read_40 : decode cX9_read 40 = .ok (.iadd, 1) := by decide +kernel
theorem dX9_read_41 : decode cX9_read 41 = .ok (.istore_n 2, 1) := by decide +kernel
theorem dX9_read_42 : decode cX9_read 42 = .ok (.iload_n 1, 1) := by decide +kernel
theorem dX9_read_43 : decode cX9_read 43 = .ok (.iconst 4, 1) := by decide +kernel
theorem dX9_read_44 : decode cX9_read 44 = .ok (.if_icmp .ne 10, 3) := by decide +kernel
theorem dX9_read_47 : decode cX9_read 47 = .ok (.aload_n 0, 1) := by decide +kernel
theorem dX9_read_48 : decode cX9_read 48 = .ok (.invokevirtual 100, 3) := by decide +kernel
